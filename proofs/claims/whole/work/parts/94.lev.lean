theorem tL_product {G : Gx} {l : Launch} {ly : Ly} {f : Nat → Int32} {n k0 i : Nat} (hby : byA f n) (hsub : ∀ i2, i ≤ i2 → CT G l ly f n k0 7 0 mX12_primary i2) : CT G l ly f n k0 6 1 mX12_product i := by
  intro M o c e hE hR hk hc ho
  refine Mt.of (lv := [some (.ref 149), none]) rfl ?_
  have hL : biL 6 := by unfold biL; decide
  have loop : ∀ (k : Nat) (KK : Mm) (j c2 : Nat) (e2 : List Int32), n - j = k → i ≤ j → EX KK f n j o c2 k0 e2 → exF M KK k0 → k0 + e2.length ≤ c2 → c ≤ c2 → c2 ≤ 64 → (∀ r, Dd (kdF f n) (nvF f n) (nx f n) (10 + 6) o j c2 e2 r → Dd (kdF f n) (nvF f n) (nx f n) 6 o i c e r) → Rn G l mX12_product (1 + 9 + (64 - c) + 6 * (8 - o), 0, 0, false) 4 [some (.ref 149), none] [] ly KK (PT ly M f n k0 6 o i c e) := by
    intro k
    induction k using Nat.strongRecOn with
    | _ k ih =>
      intro KK j c2 e2 hkk hij hEKK hFKK hke hcc hc64 hr
      have hRKK : RW ly KK.2.2 := by rw [hFKK.1]; exact hR
      have htc := hEKK.tc
      have hjn : j ≤ n := hEKK.1.2.1
      have body : bnd (kdF f n j) = nI 6 → Rn G l mX12_product (1 + 9 + (64 - c) + 6 * (8 - o), 0, 0, false) 22 [some (.ref 149), none] [] ly KK (PT ly M f n k0 6 o i c e) := by
        intro hb
        have h40 : ¬ kdF f n j = 40 := fun g => by rw [g] at hb; exact absurd hb (by decide)
        have hlt := nx_lt hby hjn h40
        have hnn := (nx_le hby hjn).1
        have htb := htc.1.b.2.2.1.mpr (by rw [htc.2.1]; exact hb)
        have hst := htc.1.b.2.2.2.2.2.2 htb.1 (by rw [htc.2.1, hb]; decide)
        rw [htc.2.1] at hst
        by_cases h64 : c2 = 64
        · skip
          refine Rn.aload_n dX12_product_22 rfl ?_
          refine Rn.getI dX12_product_23 fX12_198 rfl (rc149 hRKK) ?_
          refine Rn.istore_n (lv' := [some (.ref 149), some (.int (KK.1 149 28))]) dX12_product_26 (by decide) rfl ?_
          refine Rn.aload_n dX12_product_27 rfl ?_
          subst h64
          refine Rn.callV0 dX12_product_28 vX12_303 (rc149 hRKK) (by decide) rfl (knot64 (M := KK) hEKK.2.2.2.2.1 hEKK.2.2.1 hRKK) (by omega) ⟨(Nat.le_of_ble_eq_true rfl), (Nat.le_of_ble_eq_true rfl), (Nat.le_of_ble_eq_true rfl)⟩ (fun h => by cases h) (fun v1 ly1 M1 ⟨q1, q2, q3⟩ => ?_)
          rw [q1, q2, q3]
          obtain ⟨N1, hN1⟩ : ∃ N9, N9 = wrM KK 2 := ⟨_, rfl⟩
          rw [← hN1]
          have hfN1 : ¬ N1.1 149 29 = 0 := by rw [hN1]; exact (show ¬ ((2 : Int32) = 0) by decide)
          have hvN1 : N1.1 149 29 = 2 ∧ N1.1 149 30 = KK.1 149 26 := by rw [hN1]; exact ⟨rfl, rfl⟩
          have hFN1 : exF KK N1 k0 := by rw [hN1]; exact exF.wr
          have hRN1 : RW ly N1.2.2 := by rw [hFN1.1.trans (hFKK.1)]; exact hR
          refine Rn.aload_n dX12_product_31 rfl ?_
          refine Rn.callV0 dX12_product_32 vX12_238 (rc149 hRN1) (by decide) rfl (rdGo0 (M := N1) hfN1 hRN1) (by omega) ⟨(Nat.le_of_ble_eq_true rfl), (Nat.le_of_ble_eq_true rfl), (Nat.le_of_ble_eq_true rfl)⟩ (fun h => by cases h) (fun v1 ly1 M1 ⟨q1, q2, q3⟩ => ?_)
          rw [q1, q2, q3]
          refine Rn.aload_n dX12_product_35 rfl ?_
          refine Rn.callV0 dX12_product_36 vX12_318 (rc149 hRN1) (by decide) rfl (pri0 (M := N1) hfN1 hRN1) (by omega) ⟨(Nat.le_of_ble_eq_true rfl), (Nat.le_of_ble_eq_true rfl), (Nat.le_of_ble_eq_true rfl)⟩ (fun h => by cases h) (fun v1 ly1 M1 ⟨q1, q2, q3⟩ => ?_)
          rw [q1, q2, q3]
          refine Rn.aload_n dX12_product_39 rfl ?_
          refine Rn.iconstv (v := 2) dX12_product_40 ic_2 ?_
          refine Rn.iload_n dX12_product_41 rfl ?_
          refine Rn.callV2 dX12_product_42 vX12_306 (rc149 hRN1) (by decide) rfl (puts0 (M := N1) hfN1 hRN1) (by omega) ⟨(Nat.le_of_ble_eq_true rfl), (Nat.le_of_ble_eq_true rfl), (Nat.le_of_ble_eq_true rfl)⟩ (fun h => by cases h) (fun v1 ly1 M1 ⟨q1, q2, q3⟩ => ?_)
          rw [q1, q2, q3]
          refine Rn.goto dX12_product_45 ?_
          refine Rn.aload_n dX12_product_4 rfl ?_
          refine Rn.bipushv (v := 42) dX12_product_5 bp_42 ?_
          refine Rn.callV1 dX12_product_7 vX12_285 (rc149 hRN1) (by decide) rfl (tX12_isSign (M := N1) (x := 42) hRN1) (by omega) ⟨(Nat.le_of_ble_eq_true rfl), (Nat.le_of_ble_eq_true rfl), (Nat.le_of_ble_eq_true rfl)⟩ (fun h => by cases h) (fun v1 ly1 M1 ⟨q1, q2, q3⟩ => ?_)
          rw [q1, q2, q3]
          refine Rn.topI (y := 0) (isT_f hfN1) ?_
          refine Rn.if_ne dX12_product_10 (fun h9 => (by first | exact absurd h9 (by decide) | exact absurd (by decide) h9)) (fun h9 => ?_)
          refine Rn.aload_n dX12_product_13 rfl ?_
          refine Rn.bipushv (v := 47) dX12_product_14 bp_47 ?_
          refine Rn.callV1 dX12_product_16 vX12_285 (rc149 hRN1) (by decide) rfl (tX12_isSign (M := N1) (x := 47) hRN1) (by omega) ⟨(Nat.le_of_ble_eq_true rfl), (Nat.le_of_ble_eq_true rfl), (Nat.le_of_ble_eq_true rfl)⟩ (fun h => by cases h) (fun v1 ly1 M1 ⟨q1, q2, q3⟩ => ?_)
          rw [q1, q2, q3]
          refine Rn.topI (y := 0) (isT_f hfN1) ?_
          refine Rn.if_eq dX12_product_19 (fun h9 => ?_) (fun h9 => (by first | exact absurd h9 (by decide) | exact absurd (by decide) h9))
          exact Rn.vret dX12_product_48 rfl ⟨rfl, rfl, hFKK.tr hFN1, Or.inr ⟨2, j, hr _ (Dd.lpB hL hb), hvN1.1, hvN1.2.trans hEKK.pl⟩⟩
        · skip
          refine Rn.aload_n dX12_product_22 rfl ?_
          refine Rn.getI dX12_product_23 fX12_198 rfl (rc149 hRKK) ?_
          refine Rn.istore_n (lv' := [some (.ref 149), some (.int (KK.1 149 28))]) dX12_product_26 (by decide) rfl ?_
          refine Rn.aload_n dX12_product_27 rfl ?_
          refine Rn.callV0 dX12_product_28 vX12_303 (rc149 hRKK) (by decide) rfl (knotGo (M := KK) hEKK.2.2.2.2.1 (by omega) hEKK.2.2.1 hRKK) (by omega) ⟨(Nat.le_of_ble_eq_true rfl), (Nat.le_of_ble_eq_true rfl), (Nat.le_of_ble_eq_true rfl)⟩ (fun h => by cases h) (fun v1 ly1 M1 ⟨q1, q2, q3⟩ => ?_)
          rw [q1, q2, q3]
          obtain ⟨N1, hN1⟩ : ∃ N9, N9 = sI KK 149 (upd (KK.1 149) 34 (nI (c2 + 1))) := ⟨_, rfl⟩
          rw [← hN1]
          have hEN1 : EX N1 f n j o (c2 + 1) k0 e2 := by rw [hN1]; exact hEKK.knot
          have hGN1 : exF KK N1 k0 := by rw [hN1]; exact exF.f (fun j hj => pk_un (by omega))
          have hRN1 : RW ly N1.2.2 := by rw [hGN1.1.trans hFKK.1]; exact hR
          refine Rn.aload_n dX12_product_31 rfl ?_
          refine Rn.callV0 dX12_product_32 vX12_238 (rc149 hRN1) (by decide) rfl (goOnY (M := N1) hEN1 hRN1) (by omega) ⟨(Nat.le_of_ble_eq_true rfl), (Nat.le_of_ble_eq_true rfl), (Nat.le_of_ble_eq_true rfl)⟩ (fun h => by cases h) (fun v1 ly1 N2 ⟨q1, q2, t1, hEN2⟩ => ?_)
          rw [q1, q2]
          have hFN2 : exF M N2 k0 := hFKK.tr (hGN1.tr (exF.tok t1))
          have hRN2 : RW ly N2.2.2 := by rw [hFN2.1]; exact hR
          refine Rn.aload_n dX12_product_35 rfl ?_
          refine Rn.callV0 dX12_product_36 vX12_318 (rc149 hRN2) (by decide) rfl (hsub (nx f n j) (by omega) N2 o (c2 + 1) e2 hEN2 hRN2 (by omega) (by omega) ho) (by omega) ⟨(Nat.le_of_ble_eq_true rfl), (Nat.le_of_ble_eq_true rfl), (Nat.le_of_ble_eq_true rfl)⟩ (fun h => by cases h) (fun v1 ly1 N3 ⟨q1, q2, hGN3, hh⟩ => ?_)
          rw [q1, q2]
          have hFN3 : exF M N3 k0 := hFN2.tr hGN3
          have hRN3 : RW ly N3.2.2 := by rw [hFN3.1]; exact hR
          rcases hh with ⟨j3, c3, e3, hD, hEN3⟩ | ⟨k3, j3, hD, hk3, hp3⟩
          · skip
            have hB := hD.b
            obtain ⟨hB1, hB2, hB3, hB4⟩ := hB
            have hB5 := hB3 (by omega)
            have hB6 := hB4 (nx_mono hby)
            refine Rn.aload_n dX12_product_39 rfl ?_
            refine Rn.iconstv (v := 2) dX12_product_40 ic_2 ?_
            refine Rn.iload_n dX12_product_41 rfl ?_
            refine Rn.callV2 dX12_product_42 vX12_306 (rc149 hRN3) (by decide) rfl (putsY (M := N3) (x := 2) (y := KK.1 149 28) hEN3 (by omega) hRN3) (by omega) ⟨(Nat.le_of_ble_eq_true rfl), (Nat.le_of_ble_eq_true rfl), (Nat.le_of_ble_eq_true rfl)⟩ (fun h => by cases h) (fun v1 ly1 M1 ⟨q1, q2, q3⟩ => ?_)
            rw [q1, q2, q3]
            obtain ⟨N4, hN4⟩ : ∃ N9, N9 = sI (sI (sI N3 167 (upd (N3.1 167) (64 + (k0 + e3.length)) 2)) 168 (upd (N3.1 168) (64 + (k0 + e3.length)) (KK.1 149 28))) 151 (upd (N3.1 151) 25 (nI (k0 + e3.length + 1))) := ⟨_, rfl⟩
            rw [← hN4]
            have hEN4 : EX N4 f n j3 o c3 k0 ((-1 - kdF f n j) :: e3) := by rw [hN4]; exact hEN3.put (Or.inr (Or.inr (Or.inr ⟨rfl, _, hst, rfl, rfl⟩)))
            have hGN4 : exF N3 N4 k0 := by rw [hN4]; exact exF.put (by omega)
            have hRN4 : RW ly N4.2.2 := by rw [hGN4.1.trans hFN3.1]; exact hR
            have hFN4 : exF M N4 k0 := hFN3.tr hGN4
            refine Rn.forget (lv' := [some (.ref 149), none]) (⟨rfl, trivial⟩) ?_
            refine Rn.goto dX12_product_45 ?_
            exact ih (n - j3) (by omega) N4 j3 c3 _ rfl (by omega) hEN4 hFN4 (by rw [List.length_cons]; omega) (by omega) (by omega) (fun r hd => hr r (Dd.lpY hL hb (by omega) hD hd))
          · skip
            have hf := drf hD hk3
            refine Rn.aload_n dX12_product_39 rfl ?_
            refine Rn.iconstv (v := 2) dX12_product_40 ic_2 ?_
            refine Rn.iload_n dX12_product_41 rfl ?_
            refine Rn.callV2 dX12_product_42 vX12_306 (rc149 hRN3) (by decide) rfl (puts0 (M := N3) hf hRN3) (by omega) ⟨(Nat.le_of_ble_eq_true rfl), (Nat.le_of_ble_eq_true rfl), (Nat.le_of_ble_eq_true rfl)⟩ (fun h => by cases h) (fun v1 ly1 M1 ⟨q1, q2, q3⟩ => ?_)
            rw [q1, q2, q3]
            refine Rn.goto dX12_product_45 ?_
            refine Rn.aload_n dX12_product_4 rfl ?_
            refine Rn.bipushv (v := 42) dX12_product_5 bp_42 ?_
            refine Rn.callV1 dX12_product_7 vX12_285 (rc149 hRN3) (by decide) rfl (tX12_isSign (M := N3) (x := 42) hRN3) (by omega) ⟨(Nat.le_of_ble_eq_true rfl), (Nat.le_of_ble_eq_true rfl), (Nat.le_of_ble_eq_true rfl)⟩ (fun h => by cases h) (fun v1 ly1 M1 ⟨q1, q2, q3⟩ => ?_)
            rw [q1, q2, q3]
            refine Rn.topI (y := 0) (isT_f hf) ?_
            refine Rn.if_ne dX12_product_10 (fun h9 => (by first | exact absurd h9 (by decide) | exact absurd (by decide) h9)) (fun h9 => ?_)
            refine Rn.aload_n dX12_product_13 rfl ?_
            refine Rn.bipushv (v := 47) dX12_product_14 bp_47 ?_
            refine Rn.callV1 dX12_product_16 vX12_285 (rc149 hRN3) (by decide) rfl (tX12_isSign (M := N3) (x := 47) hRN3) (by omega) ⟨(Nat.le_of_ble_eq_true rfl), (Nat.le_of_ble_eq_true rfl), (Nat.le_of_ble_eq_true rfl)⟩ (fun h => by cases h) (fun v1 ly1 M1 ⟨q1, q2, q3⟩ => ?_)
            rw [q1, q2, q3]
            refine Rn.topI (y := 0) (isT_f hf) ?_
            refine Rn.if_eq dX12_product_19 (fun h9 => ?_) (fun h9 => (by first | exact absurd h9 (by decide) | exact absurd (by decide) h9))
            exact Rn.vret dX12_product_48 rfl ⟨rfl, rfl, hFN3, Or.inr ⟨k3, j3, hr _ (Dd.lpN hL hb (by omega) hD), hk3, hp3⟩⟩
      by_cases hb : bnd (kdF f n j) = nI 6
      · skip
        have htb := htc.1.b.2.2.1.mpr (by rw [htc.2.1]; exact hb)
        rcases htb.2 with hv | hv
        · skip
          refine Rn.aload_n dX12_product_4 rfl ?_
          refine Rn.bipushv (v := 42) dX12_product_5 bp_42 ?_
          refine Rn.callV1 dX12_product_7 vX12_285 (rc149 hRKK) (by decide) rfl (tX12_isSign (M := KK) (x := 42) hRKK) (by omega) ⟨(Nat.le_of_ble_eq_true rfl), (Nat.le_of_ble_eq_true rfl), (Nat.le_of_ble_eq_true rfl)⟩ (fun h => by cases h) (fun v1 ly1 M1 ⟨q1, q2, q3⟩ => ?_)
          rw [q1, q2, q3]
          refine Rn.topI (y := 1) (isT_y hEKK.2.2.1 ⟨htb.1, hv⟩) ?_
          refine Rn.if_ne dX12_product_10 (fun h9 => ?_) (fun h9 => (by first | exact absurd h9 (by decide) | exact absurd (by decide) h9))
          exact body hb
        · skip
          refine Rn.aload_n dX12_product_4 rfl ?_
          refine Rn.bipushv (v := 42) dX12_product_5 bp_42 ?_
          refine Rn.callV1 dX12_product_7 vX12_285 (rc149 hRKK) (by decide) rfl (tX12_isSign (M := KK) (x := 42) hRKK) (by omega) ⟨(Nat.le_of_ble_eq_true rfl), (Nat.le_of_ble_eq_true rfl), (Nat.le_of_ble_eq_true rfl)⟩ (fun h => by cases h) (fun v1 ly1 M1 ⟨q1, q2, q3⟩ => ?_)
          rw [q1, q2, q3]
          refine Rn.topI (y := 0) (isT_n (fun g => absurd (g.2.symm.trans hv) (by decide))) ?_
          refine Rn.if_ne dX12_product_10 (fun h9 => (by first | exact absurd h9 (by decide) | exact absurd (by decide) h9)) (fun h9 => ?_)
          refine Rn.aload_n dX12_product_13 rfl ?_
          refine Rn.bipushv (v := 47) dX12_product_14 bp_47 ?_
          refine Rn.callV1 dX12_product_16 vX12_285 (rc149 hRKK) (by decide) rfl (tX12_isSign (M := KK) (x := 47) hRKK) (by omega) ⟨(Nat.le_of_ble_eq_true rfl), (Nat.le_of_ble_eq_true rfl), (Nat.le_of_ble_eq_true rfl)⟩ (fun h => by cases h) (fun v1 ly1 M1 ⟨q1, q2, q3⟩ => ?_)
          rw [q1, q2, q3]
          refine Rn.topI (y := 1) (isT_y hEKK.2.2.1 ⟨htb.1, hv⟩) ?_
          refine Rn.if_eq dX12_product_19 (fun h9 => (by first | exact absurd h9 (by decide) | exact absurd (by decide) h9)) (fun h9 => ?_)
          exact body hb
      · skip
        have htb := fun g => hb (by rw [← htc.2.1]; exact htc.1.b.2.2.1.mp g)
        refine Rn.aload_n dX12_product_4 rfl ?_
        refine Rn.bipushv (v := 42) dX12_product_5 bp_42 ?_
        refine Rn.callV1 dX12_product_7 vX12_285 (rc149 hRKK) (by decide) rfl (tX12_isSign (M := KK) (x := 42) hRKK) (by omega) ⟨(Nat.le_of_ble_eq_true rfl), (Nat.le_of_ble_eq_true rfl), (Nat.le_of_ble_eq_true rfl)⟩ (fun h => by cases h) (fun v1 ly1 M1 ⟨q1, q2, q3⟩ => ?_)
        rw [q1, q2, q3]
        refine Rn.topI (y := 0) (isT_n (fun g => htb ⟨g.1, Or.inl g.2⟩)) ?_
        refine Rn.if_ne dX12_product_10 (fun h9 => (by first | exact absurd h9 (by decide) | exact absurd (by decide) h9)) (fun h9 => ?_)
        refine Rn.aload_n dX12_product_13 rfl ?_
        refine Rn.bipushv (v := 47) dX12_product_14 bp_47 ?_
        refine Rn.callV1 dX12_product_16 vX12_285 (rc149 hRKK) (by decide) rfl (tX12_isSign (M := KK) (x := 47) hRKK) (by omega) ⟨(Nat.le_of_ble_eq_true rfl), (Nat.le_of_ble_eq_true rfl), (Nat.le_of_ble_eq_true rfl)⟩ (fun h => by cases h) (fun v1 ly1 M1 ⟨q1, q2, q3⟩ => ?_)
        rw [q1, q2, q3]
        refine Rn.topI (y := 0) (isT_n (fun g => htb ⟨g.1, Or.inr g.2⟩)) ?_
        refine Rn.if_eq dX12_product_19 (fun h9 => ?_) (fun h9 => (by first | exact absurd h9 (by decide) | exact absurd (by decide) h9))
        exact Rn.vret dX12_product_48 rfl ⟨rfl, rfl, hFKK, Or.inl ⟨j, c2, e2, hr _ (Dd.lpE hL hb), hEKK⟩⟩
  refine Rn.aload_n dX12_product_0 rfl ?_
  refine Rn.callV0 dX12_product_1 vX12_318 (rc149 hR) (by decide) rfl (hsub i (Nat.le_refl i) M o c e hE hR hk hc ho) (by omega) ⟨(Nat.le_of_ble_eq_true rfl), (Nat.le_of_ble_eq_true rfl), (Nat.le_of_ble_eq_true rfl)⟩ (fun h => by cases h) (fun v1 ly1 N3 ⟨q1, q2, hFN3, hh⟩ => ?_)
  rw [q1, q2]
  have hRN3 : RW ly N3.2.2 := by rw [hFN3.1]; exact hR
  rcases hh with ⟨j3, c3, e3, hD, hEN3⟩ | ⟨k3, j3, hD, hk3, hp3⟩
  · skip
    have hB := hD.b
    obtain ⟨hB1, hB2, hB3, hB4⟩ := hB
    have hB5 := hB3 (by omega)
    have hB6 := hB4 (nx_mono hby)
    exact loop (n - j3) N3 j3 c3 e3 rfl (by omega) hEN3 hFN3 (by omega) (by omega) (by omega) (fun r hd => Dd.lvY hL hD hd)
  · skip
    have hf := drf hD hk3
    refine Rn.aload_n dX12_product_4 rfl ?_
    refine Rn.bipushv (v := 42) dX12_product_5 bp_42 ?_
    refine Rn.callV1 dX12_product_7 vX12_285 (rc149 hRN3) (by decide) rfl (tX12_isSign (M := N3) (x := 42) hRN3) (by omega) ⟨(Nat.le_of_ble_eq_true rfl), (Nat.le_of_ble_eq_true rfl), (Nat.le_of_ble_eq_true rfl)⟩ (fun h => by cases h) (fun v1 ly1 M1 ⟨q1, q2, q3⟩ => ?_)
    rw [q1, q2, q3]
    refine Rn.topI (y := 0) (isT_f hf) ?_
    refine Rn.if_ne dX12_product_10 (fun h9 => (by first | exact absurd h9 (by decide) | exact absurd (by decide) h9)) (fun h9 => ?_)
    refine Rn.aload_n dX12_product_13 rfl ?_
    refine Rn.bipushv (v := 47) dX12_product_14 bp_47 ?_
    refine Rn.callV1 dX12_product_16 vX12_285 (rc149 hRN3) (by decide) rfl (tX12_isSign (M := N3) (x := 47) hRN3) (by omega) ⟨(Nat.le_of_ble_eq_true rfl), (Nat.le_of_ble_eq_true rfl), (Nat.le_of_ble_eq_true rfl)⟩ (fun h => by cases h) (fun v1 ly1 M1 ⟨q1, q2, q3⟩ => ?_)
    rw [q1, q2, q3]
    refine Rn.topI (y := 0) (isT_f hf) ?_
    refine Rn.if_eq dX12_product_19 (fun h9 => ?_) (fun h9 => (by first | exact absurd h9 (by decide) | exact absurd (by decide) h9))
    exact Rn.vret dX12_product_48 rfl ⟨rfl, rfl, hFN3, Or.inr ⟨k3, j3, Dd.lvN hL hD, hk3, hp3⟩⟩
theorem tL_sum {G : Gx} {l : Launch} {ly : Ly} {f : Nat → Int32} {n k0 i : Nat} (hby : byA f n) (hsub : ∀ i2, i ≤ i2 → CT G l ly f n k0 6 1 mX12_product i2) : CT G l ly f n k0 5 2 mX12_sum i := by
  intro M o c e hE hR hk hc ho
  refine Mt.of (lv := [some (.ref 149), none]) rfl ?_
  have hL : biL 5 := by unfold biL; decide
  have loop : ∀ (k : Nat) (KK : Mm) (j c2 : Nat) (e2 : List Int32), n - j = k → i ≤ j → EX KK f n j o c2 k0 e2 → exF M KK k0 → k0 + e2.length ≤ c2 → c ≤ c2 → c2 ≤ 64 → (∀ r, Dd (kdF f n) (nvF f n) (nx f n) (10 + 5) o j c2 e2 r → Dd (kdF f n) (nvF f n) (nx f n) 5 o i c e r) → Rn G l mX12_sum (2 + 9 + (64 - c) + 6 * (8 - o), 0, 0, false) 4 [some (.ref 149), none] [] ly KK (PT ly M f n k0 5 o i c e) := by
    intro k
    induction k using Nat.strongRecOn with
    | _ k ih =>
      intro KK j c2 e2 hkk hij hEKK hFKK hke hcc hc64 hr
      have hRKK : RW ly KK.2.2 := by rw [hFKK.1]; exact hR
      have htc := hEKK.tc
      have hjn : j ≤ n := hEKK.1.2.1
      have body : bnd (kdF f n j) = nI 5 → Rn G l mX12_sum (2 + 9 + (64 - c) + 6 * (8 - o), 0, 0, false) 22 [some (.ref 149), none] [] ly KK (PT ly M f n k0 5 o i c e) := by
        intro hb
        have h40 : ¬ kdF f n j = 40 := fun g => by rw [g] at hb; exact absurd hb (by decide)
        have hlt := nx_lt hby hjn h40
        have hnn := (nx_le hby hjn).1
        have htb := htc.1.b.2.1.mpr (by rw [htc.2.1]; exact hb)
        have hst := htc.1.b.2.2.2.2.2.2 htb.1 (by rw [htc.2.1, hb]; decide)
        rw [htc.2.1] at hst
        by_cases h64 : c2 = 64
        · skip
          refine Rn.aload_n dX12_sum_22 rfl ?_
          refine Rn.getI dX12_sum_23 fX12_198 rfl (rc149 hRKK) ?_
          refine Rn.istore_n (lv' := [some (.ref 149), some (.int (KK.1 149 28))]) dX12_sum_26 (by decide) rfl ?_
          refine Rn.aload_n dX12_sum_27 rfl ?_
          subst h64
          refine Rn.callV0 dX12_sum_28 vX12_303 (rc149 hRKK) (by decide) rfl (knot64 (M := KK) hEKK.2.2.2.2.1 hEKK.2.2.1 hRKK) (by omega) ⟨(Nat.le_of_ble_eq_true rfl), (Nat.le_of_ble_eq_true rfl), (Nat.le_of_ble_eq_true rfl)⟩ (fun h => by cases h) (fun v1 ly1 M1 ⟨q1, q2, q3⟩ => ?_)
          rw [q1, q2, q3]
          obtain ⟨N1, hN1⟩ : ∃ N9, N9 = wrM KK 2 := ⟨_, rfl⟩
          rw [← hN1]
          have hfN1 : ¬ N1.1 149 29 = 0 := by rw [hN1]; exact (show ¬ ((2 : Int32) = 0) by decide)
          have hvN1 : N1.1 149 29 = 2 ∧ N1.1 149 30 = KK.1 149 26 := by rw [hN1]; exact ⟨rfl, rfl⟩
          have hFN1 : exF KK N1 k0 := by rw [hN1]; exact exF.wr
          have hRN1 : RW ly N1.2.2 := by rw [hFN1.1.trans (hFKK.1)]; exact hR
          refine Rn.aload_n dX12_sum_31 rfl ?_
          refine Rn.callV0 dX12_sum_32 vX12_238 (rc149 hRN1) (by decide) rfl (rdGo0 (M := N1) hfN1 hRN1) (by omega) ⟨(Nat.le_of_ble_eq_true rfl), (Nat.le_of_ble_eq_true rfl), (Nat.le_of_ble_eq_true rfl)⟩ (fun h => by cases h) (fun v1 ly1 M1 ⟨q1, q2, q3⟩ => ?_)
          rw [q1, q2, q3]
          refine Rn.aload_n dX12_sum_35 rfl ?_
          refine Rn.callV0 dX12_sum_36 vX12_315 (rc149 hRN1) (by decide) rfl (pro0 (M := N1) hfN1 hRN1) (by omega) ⟨(Nat.le_of_ble_eq_true rfl), (Nat.le_of_ble_eq_true rfl), (Nat.le_of_ble_eq_true rfl)⟩ (fun h => by cases h) (fun v1 ly1 M1 ⟨q1, q2, q3⟩ => ?_)
          rw [q1, q2, q3]
          refine Rn.aload_n dX12_sum_39 rfl ?_
          refine Rn.iconstv (v := 2) dX12_sum_40 ic_2 ?_
          refine Rn.iload_n dX12_sum_41 rfl ?_
          refine Rn.callV2 dX12_sum_42 vX12_306 (rc149 hRN1) (by decide) rfl (puts0 (M := N1) hfN1 hRN1) (by omega) ⟨(Nat.le_of_ble_eq_true rfl), (Nat.le_of_ble_eq_true rfl), (Nat.le_of_ble_eq_true rfl)⟩ (fun h => by cases h) (fun v1 ly1 M1 ⟨q1, q2, q3⟩ => ?_)
          rw [q1, q2, q3]
          refine Rn.goto dX12_sum_45 ?_
          refine Rn.aload_n dX12_sum_4 rfl ?_
          refine Rn.bipushv (v := 43) dX12_sum_5 bp_43 ?_
          refine Rn.callV1 dX12_sum_7 vX12_285 (rc149 hRN1) (by decide) rfl (tX12_isSign (M := N1) (x := 43) hRN1) (by omega) ⟨(Nat.le_of_ble_eq_true rfl), (Nat.le_of_ble_eq_true rfl), (Nat.le_of_ble_eq_true rfl)⟩ (fun h => by cases h) (fun v1 ly1 M1 ⟨q1, q2, q3⟩ => ?_)
          rw [q1, q2, q3]
          refine Rn.topI (y := 0) (isT_f hfN1) ?_
          refine Rn.if_ne dX12_sum_10 (fun h9 => (by first | exact absurd h9 (by decide) | exact absurd (by decide) h9)) (fun h9 => ?_)
          refine Rn.aload_n dX12_sum_13 rfl ?_
          refine Rn.bipushv (v := 45) dX12_sum_14 bp_45 ?_
          refine Rn.callV1 dX12_sum_16 vX12_285 (rc149 hRN1) (by decide) rfl (tX12_isSign (M := N1) (x := 45) hRN1) (by omega) ⟨(Nat.le_of_ble_eq_true rfl), (Nat.le_of_ble_eq_true rfl), (Nat.le_of_ble_eq_true rfl)⟩ (fun h => by cases h) (fun v1 ly1 M1 ⟨q1, q2, q3⟩ => ?_)
          rw [q1, q2, q3]
          refine Rn.topI (y := 0) (isT_f hfN1) ?_
          refine Rn.if_eq dX12_sum_19 (fun h9 => ?_) (fun h9 => (by first | exact absurd h9 (by decide) | exact absurd (by decide) h9))
          exact Rn.vret dX12_sum_48 rfl ⟨rfl, rfl, hFKK.tr hFN1, Or.inr ⟨2, j, hr _ (Dd.lpB hL hb), hvN1.1, hvN1.2.trans hEKK.pl⟩⟩
        · skip
          refine Rn.aload_n dX12_sum_22 rfl ?_
          refine Rn.getI dX12_sum_23 fX12_198 rfl (rc149 hRKK) ?_
          refine Rn.istore_n (lv' := [some (.ref 149), some (.int (KK.1 149 28))]) dX12_sum_26 (by decide) rfl ?_
          refine Rn.aload_n dX12_sum_27 rfl ?_
          refine Rn.callV0 dX12_sum_28 vX12_303 (rc149 hRKK) (by decide) rfl (knotGo (M := KK) hEKK.2.2.2.2.1 (by omega) hEKK.2.2.1 hRKK) (by omega) ⟨(Nat.le_of_ble_eq_true rfl), (Nat.le_of_ble_eq_true rfl), (Nat.le_of_ble_eq_true rfl)⟩ (fun h => by cases h) (fun v1 ly1 M1 ⟨q1, q2, q3⟩ => ?_)
          rw [q1, q2, q3]
          obtain ⟨N1, hN1⟩ : ∃ N9, N9 = sI KK 149 (upd (KK.1 149) 34 (nI (c2 + 1))) := ⟨_, rfl⟩
          rw [← hN1]
          have hEN1 : EX N1 f n j o (c2 + 1) k0 e2 := by rw [hN1]; exact hEKK.knot
          have hGN1 : exF KK N1 k0 := by rw [hN1]; exact exF.f (fun j hj => pk_un (by omega))
          have hRN1 : RW ly N1.2.2 := by rw [hGN1.1.trans hFKK.1]; exact hR
          refine Rn.aload_n dX12_sum_31 rfl ?_
          refine Rn.callV0 dX12_sum_32 vX12_238 (rc149 hRN1) (by decide) rfl (goOnY (M := N1) hEN1 hRN1) (by omega) ⟨(Nat.le_of_ble_eq_true rfl), (Nat.le_of_ble_eq_true rfl), (Nat.le_of_ble_eq_true rfl)⟩ (fun h => by cases h) (fun v1 ly1 N2 ⟨q1, q2, t1, hEN2⟩ => ?_)
          rw [q1, q2]
          have hFN2 : exF M N2 k0 := hFKK.tr (hGN1.tr (exF.tok t1))
          have hRN2 : RW ly N2.2.2 := by rw [hFN2.1]; exact hR
          refine Rn.aload_n dX12_sum_35 rfl ?_
          refine Rn.callV0 dX12_sum_36 vX12_315 (rc149 hRN2) (by decide) rfl (hsub (nx f n j) (by omega) N2 o (c2 + 1) e2 hEN2 hRN2 (by omega) (by omega) ho) (by omega) ⟨(Nat.le_of_ble_eq_true rfl), (Nat.le_of_ble_eq_true rfl), (Nat.le_of_ble_eq_true rfl)⟩ (fun h => by cases h) (fun v1 ly1 N3 ⟨q1, q2, hGN3, hh⟩ => ?_)
          rw [q1, q2]
          have hFN3 : exF M N3 k0 := hFN2.tr hGN3
          have hRN3 : RW ly N3.2.2 := by rw [hFN3.1]; exact hR
          rcases hh with ⟨j3, c3, e3, hD, hEN3⟩ | ⟨k3, j3, hD, hk3, hp3⟩
          · skip
            have hB := hD.b
            obtain ⟨hB1, hB2, hB3, hB4⟩ := hB
            have hB5 := hB3 (by omega)
            have hB6 := hB4 (nx_mono hby)
            refine Rn.aload_n dX12_sum_39 rfl ?_
            refine Rn.iconstv (v := 2) dX12_sum_40 ic_2 ?_
            refine Rn.iload_n dX12_sum_41 rfl ?_
            refine Rn.callV2 dX12_sum_42 vX12_306 (rc149 hRN3) (by decide) rfl (putsY (M := N3) (x := 2) (y := KK.1 149 28) hEN3 (by omega) hRN3) (by omega) ⟨(Nat.le_of_ble_eq_true rfl), (Nat.le_of_ble_eq_true rfl), (Nat.le_of_ble_eq_true rfl)⟩ (fun h => by cases h) (fun v1 ly1 M1 ⟨q1, q2, q3⟩ => ?_)
            rw [q1, q2, q3]
            obtain ⟨N4, hN4⟩ : ∃ N9, N9 = sI (sI (sI N3 167 (upd (N3.1 167) (64 + (k0 + e3.length)) 2)) 168 (upd (N3.1 168) (64 + (k0 + e3.length)) (KK.1 149 28))) 151 (upd (N3.1 151) 25 (nI (k0 + e3.length + 1))) := ⟨_, rfl⟩
            rw [← hN4]
            have hEN4 : EX N4 f n j3 o c3 k0 ((-1 - kdF f n j) :: e3) := by rw [hN4]; exact hEN3.put (Or.inr (Or.inr (Or.inr ⟨rfl, _, hst, rfl, rfl⟩)))
            have hGN4 : exF N3 N4 k0 := by rw [hN4]; exact exF.put (by omega)
            have hRN4 : RW ly N4.2.2 := by rw [hGN4.1.trans hFN3.1]; exact hR
            have hFN4 : exF M N4 k0 := hFN3.tr hGN4
            refine Rn.forget (lv' := [some (.ref 149), none]) (⟨rfl, trivial⟩) ?_
            refine Rn.goto dX12_sum_45 ?_
            exact ih (n - j3) (by omega) N4 j3 c3 _ rfl (by omega) hEN4 hFN4 (by rw [List.length_cons]; omega) (by omega) (by omega) (fun r hd => hr r (Dd.lpY hL hb (by omega) hD hd))
          · skip
            have hf := drf hD hk3
            refine Rn.aload_n dX12_sum_39 rfl ?_
            refine Rn.iconstv (v := 2) dX12_sum_40 ic_2 ?_
            refine Rn.iload_n dX12_sum_41 rfl ?_
            refine Rn.callV2 dX12_sum_42 vX12_306 (rc149 hRN3) (by decide) rfl (puts0 (M := N3) hf hRN3) (by omega) ⟨(Nat.le_of_ble_eq_true rfl), (Nat.le_of_ble_eq_true rfl), (Nat.le_of_ble_eq_true rfl)⟩ (fun h => by cases h) (fun v1 ly1 M1 ⟨q1, q2, q3⟩ => ?_)
            rw [q1, q2, q3]
            refine Rn.goto dX12_sum_45 ?_
            refine Rn.aload_n dX12_sum_4 rfl ?_
            refine Rn.bipushv (v := 43) dX12_sum_5 bp_43 ?_
            refine Rn.callV1 dX12_sum_7 vX12_285 (rc149 hRN3) (by decide) rfl (tX12_isSign (M := N3) (x := 43) hRN3) (by omega) ⟨(Nat.le_of_ble_eq_true rfl), (Nat.le_of_ble_eq_true rfl), (Nat.le_of_ble_eq_true rfl)⟩ (fun h => by cases h) (fun v1 ly1 M1 ⟨q1, q2, q3⟩ => ?_)
            rw [q1, q2, q3]
            refine Rn.topI (y := 0) (isT_f hf) ?_
            refine Rn.if_ne dX12_sum_10 (fun h9 => (by first | exact absurd h9 (by decide) | exact absurd (by decide) h9)) (fun h9 => ?_)
            refine Rn.aload_n dX12_sum_13 rfl ?_
            refine Rn.bipushv (v := 45) dX12_sum_14 bp_45 ?_
            refine Rn.callV1 dX12_sum_16 vX12_285 (rc149 hRN3) (by decide) rfl (tX12_isSign (M := N3) (x := 45) hRN3) (by omega) ⟨(Nat.le_of_ble_eq_true rfl), (Nat.le_of_ble_eq_true rfl), (Nat.le_of_ble_eq_true rfl)⟩ (fun h => by cases h) (fun v1 ly1 M1 ⟨q1, q2, q3⟩ => ?_)
            rw [q1, q2, q3]
            refine Rn.topI (y := 0) (isT_f hf) ?_
            refine Rn.if_eq dX12_sum_19 (fun h9 => ?_) (fun h9 => (by first | exact absurd h9 (by decide) | exact absurd (by decide) h9))
            exact Rn.vret dX12_sum_48 rfl ⟨rfl, rfl, hFN3, Or.inr ⟨k3, j3, hr _ (Dd.lpN hL hb (by omega) hD), hk3, hp3⟩⟩
      by_cases hb : bnd (kdF f n j) = nI 5
      · skip
        have htb := htc.1.b.2.1.mpr (by rw [htc.2.1]; exact hb)
        rcases htb.2 with hv | hv
        · skip
          refine Rn.aload_n dX12_sum_4 rfl ?_
          refine Rn.bipushv (v := 43) dX12_sum_5 bp_43 ?_
          refine Rn.callV1 dX12_sum_7 vX12_285 (rc149 hRKK) (by decide) rfl (tX12_isSign (M := KK) (x := 43) hRKK) (by omega) ⟨(Nat.le_of_ble_eq_true rfl), (Nat.le_of_ble_eq_true rfl), (Nat.le_of_ble_eq_true rfl)⟩ (fun h => by cases h) (fun v1 ly1 M1 ⟨q1, q2, q3⟩ => ?_)
          rw [q1, q2, q3]
          refine Rn.topI (y := 1) (isT_y hEKK.2.2.1 ⟨htb.1, hv⟩) ?_
          refine Rn.if_ne dX12_sum_10 (fun h9 => ?_) (fun h9 => (by first | exact absurd h9 (by decide) | exact absurd (by decide) h9))
          exact body hb
        · skip
          refine Rn.aload_n dX12_sum_4 rfl ?_
          refine Rn.bipushv (v := 43) dX12_sum_5 bp_43 ?_
          refine Rn.callV1 dX12_sum_7 vX12_285 (rc149 hRKK) (by decide) rfl (tX12_isSign (M := KK) (x := 43) hRKK) (by omega) ⟨(Nat.le_of_ble_eq_true rfl), (Nat.le_of_ble_eq_true rfl), (Nat.le_of_ble_eq_true rfl)⟩ (fun h => by cases h) (fun v1 ly1 M1 ⟨q1, q2, q3⟩ => ?_)
          rw [q1, q2, q3]
          refine Rn.topI (y := 0) (isT_n (fun g => absurd (g.2.symm.trans hv) (by decide))) ?_
          refine Rn.if_ne dX12_sum_10 (fun h9 => (by first | exact absurd h9 (by decide) | exact absurd (by decide) h9)) (fun h9 => ?_)
          refine Rn.aload_n dX12_sum_13 rfl ?_
          refine Rn.bipushv (v := 45) dX12_sum_14 bp_45 ?_
          refine Rn.callV1 dX12_sum_16 vX12_285 (rc149 hRKK) (by decide) rfl (tX12_isSign (M := KK) (x := 45) hRKK) (by omega) ⟨(Nat.le_of_ble_eq_true rfl), (Nat.le_of_ble_eq_true rfl), (Nat.le_of_ble_eq_true rfl)⟩ (fun h => by cases h) (fun v1 ly1 M1 ⟨q1, q2, q3⟩ => ?_)
          rw [q1, q2, q3]
          refine Rn.topI (y := 1) (isT_y hEKK.2.2.1 ⟨htb.1, hv⟩) ?_
          refine Rn.if_eq dX12_sum_19 (fun h9 => (by first | exact absurd h9 (by decide) | exact absurd (by decide) h9)) (fun h9 => ?_)
          exact body hb
      · skip
        have htb := fun g => hb (by rw [← htc.2.1]; exact htc.1.b.2.1.mp g)
        refine Rn.aload_n dX12_sum_4 rfl ?_
        refine Rn.bipushv (v := 43) dX12_sum_5 bp_43 ?_
        refine Rn.callV1 dX12_sum_7 vX12_285 (rc149 hRKK) (by decide) rfl (tX12_isSign (M := KK) (x := 43) hRKK) (by omega) ⟨(Nat.le_of_ble_eq_true rfl), (Nat.le_of_ble_eq_true rfl), (Nat.le_of_ble_eq_true rfl)⟩ (fun h => by cases h) (fun v1 ly1 M1 ⟨q1, q2, q3⟩ => ?_)
        rw [q1, q2, q3]
        refine Rn.topI (y := 0) (isT_n (fun g => htb ⟨g.1, Or.inl g.2⟩)) ?_
        refine Rn.if_ne dX12_sum_10 (fun h9 => (by first | exact absurd h9 (by decide) | exact absurd (by decide) h9)) (fun h9 => ?_)
        refine Rn.aload_n dX12_sum_13 rfl ?_
        refine Rn.bipushv (v := 45) dX12_sum_14 bp_45 ?_
        refine Rn.callV1 dX12_sum_16 vX12_285 (rc149 hRKK) (by decide) rfl (tX12_isSign (M := KK) (x := 45) hRKK) (by omega) ⟨(Nat.le_of_ble_eq_true rfl), (Nat.le_of_ble_eq_true rfl), (Nat.le_of_ble_eq_true rfl)⟩ (fun h => by cases h) (fun v1 ly1 M1 ⟨q1, q2, q3⟩ => ?_)
        rw [q1, q2, q3]
        refine Rn.topI (y := 0) (isT_n (fun g => htb ⟨g.1, Or.inr g.2⟩)) ?_
        refine Rn.if_eq dX12_sum_19 (fun h9 => ?_) (fun h9 => (by first | exact absurd h9 (by decide) | exact absurd (by decide) h9))
        exact Rn.vret dX12_sum_48 rfl ⟨rfl, rfl, hFKK, Or.inl ⟨j, c2, e2, hr _ (Dd.lpE hL hb), hEKK⟩⟩
  refine Rn.aload_n dX12_sum_0 rfl ?_
  refine Rn.callV0 dX12_sum_1 vX12_315 (rc149 hR) (by decide) rfl (hsub i (Nat.le_refl i) M o c e hE hR hk hc ho) (by omega) ⟨(Nat.le_of_ble_eq_true rfl), (Nat.le_of_ble_eq_true rfl), (Nat.le_of_ble_eq_true rfl)⟩ (fun h => by cases h) (fun v1 ly1 N3 ⟨q1, q2, hFN3, hh⟩ => ?_)
  rw [q1, q2]
  have hRN3 : RW ly N3.2.2 := by rw [hFN3.1]; exact hR
  rcases hh with ⟨j3, c3, e3, hD, hEN3⟩ | ⟨k3, j3, hD, hk3, hp3⟩
  · skip
    have hB := hD.b
    obtain ⟨hB1, hB2, hB3, hB4⟩ := hB
    have hB5 := hB3 (by omega)
    have hB6 := hB4 (nx_mono hby)
    exact loop (n - j3) N3 j3 c3 e3 rfl (by omega) hEN3 hFN3 (by omega) (by omega) (by omega) (fun r hd => Dd.lvY hL hD hd)
  · skip
    have hf := drf hD hk3
    refine Rn.aload_n dX12_sum_4 rfl ?_
    refine Rn.bipushv (v := 43) dX12_sum_5 bp_43 ?_
    refine Rn.callV1 dX12_sum_7 vX12_285 (rc149 hRN3) (by decide) rfl (tX12_isSign (M := N3) (x := 43) hRN3) (by omega) ⟨(Nat.le_of_ble_eq_true rfl), (Nat.le_of_ble_eq_true rfl), (Nat.le_of_ble_eq_true rfl)⟩ (fun h => by cases h) (fun v1 ly1 M1 ⟨q1, q2, q3⟩ => ?_)
    rw [q1, q2, q3]
    refine Rn.topI (y := 0) (isT_f hf) ?_
    refine Rn.if_ne dX12_sum_10 (fun h9 => (by first | exact absurd h9 (by decide) | exact absurd (by decide) h9)) (fun h9 => ?_)
    refine Rn.aload_n dX12_sum_13 rfl ?_
    refine Rn.bipushv (v := 45) dX12_sum_14 bp_45 ?_
    refine Rn.callV1 dX12_sum_16 vX12_285 (rc149 hRN3) (by decide) rfl (tX12_isSign (M := N3) (x := 45) hRN3) (by omega) ⟨(Nat.le_of_ble_eq_true rfl), (Nat.le_of_ble_eq_true rfl), (Nat.le_of_ble_eq_true rfl)⟩ (fun h => by cases h) (fun v1 ly1 M1 ⟨q1, q2, q3⟩ => ?_)
    rw [q1, q2, q3]
    refine Rn.topI (y := 0) (isT_f hf) ?_
    refine Rn.if_eq dX12_sum_19 (fun h9 => ?_) (fun h9 => (by first | exact absurd h9 (by decide) | exact absurd (by decide) h9))
    exact Rn.vret dX12_sum_48 rfl ⟨rfl, rfl, hFN3, Or.inr ⟨k3, j3, Dd.lvN hL hD, hk3, hp3⟩⟩
theorem tL_conjunction {G : Gx} {l : Launch} {ly : Ly} {f : Nat → Int32} {n k0 i : Nat} (hby : byA f n) (hsub : ∀ i2, i ≤ i2 → CT G l ly f n k0 3 3 mX12_negation i2) : CT G l ly f n k0 2 4 mX12_conjunction i := by
  intro M o c e hE hR hk hc ho
  refine Mt.of (lv := [some (.ref 149)]) rfl ?_
  have hL : biL 2 := by unfold biL; decide
  have loop : ∀ (k : Nat) (KK : Mm) (j c2 : Nat) (e2 : List Int32), n - j = k → i ≤ j → EX KK f n j o c2 k0 e2 → exF M KK k0 → k0 + e2.length ≤ c2 → c ≤ c2 → c2 ≤ 64 → (∀ r, Dd (kdF f n) (nvF f n) (nx f n) (10 + 2) o j c2 e2 r → Dd (kdF f n) (nvF f n) (nx f n) 2 o i c e r) → Rn G l mX12_conjunction (4 + 9 + (64 - c) + 6 * (8 - o), 0, 0, false) 4 [some (.ref 149)] [] ly KK (PT ly M f n k0 2 o i c e) := by
    intro k
    induction k using Nat.strongRecOn with
    | _ k ih =>
      intro KK j c2 e2 hkk hij hEKK hFKK hke hcc hc64 hr
      have hRKK : RW ly KK.2.2 := by rw [hFKK.1]; exact hR
      have htc := hEKK.tc
      have hjn : j ≤ n := hEKK.1.2.1
      have body : bnd (kdF f n j) = nI 2 → Rn G l mX12_conjunction (4 + 9 + (64 - c) + 6 * (8 - o), 0, 0, false) 13 [some (.ref 149)] [] ly KK (PT ly M f n k0 2 o i c e) := by
        intro hb
        have h40 : ¬ kdF f n j = 40 := fun g => by rw [g] at hb; exact absurd hb (by decide)
        have hlt := nx_lt hby hjn h40
        have hnn := (nx_le hby hjn).1
        have htb := htc.1.b.2.2.2.2.1.mpr (by rw [htc.2.1]; exact hb)
        by_cases h64 : c2 = 64
        · skip
          refine Rn.aload_n dX12_conjunction_13 rfl ?_
          subst h64
          refine Rn.callV0 dX12_conjunction_14 vX12_303 (rc149 hRKK) (by decide) rfl (knot64 (M := KK) hEKK.2.2.2.2.1 hEKK.2.2.1 hRKK) (by omega) ⟨(Nat.le_of_ble_eq_true rfl), (Nat.le_of_ble_eq_true rfl), (Nat.le_of_ble_eq_true rfl)⟩ (fun h => by cases h) (fun v1 ly1 M1 ⟨q1, q2, q3⟩ => ?_)
          rw [q1, q2, q3]
          obtain ⟨N1, hN1⟩ : ∃ N9, N9 = wrM KK 2 := ⟨_, rfl⟩
          rw [← hN1]
          have hfN1 : ¬ N1.1 149 29 = 0 := by rw [hN1]; exact (show ¬ ((2 : Int32) = 0) by decide)
          have hvN1 : N1.1 149 29 = 2 ∧ N1.1 149 30 = KK.1 149 26 := by rw [hN1]; exact ⟨rfl, rfl⟩
          have hFN1 : exF KK N1 k0 := by rw [hN1]; exact exF.wr
          have hRN1 : RW ly N1.2.2 := by rw [hFN1.1.trans (hFKK.1)]; exact hR
          refine Rn.aload_n dX12_conjunction_17 rfl ?_
          refine Rn.callV0 dX12_conjunction_18 vX12_238 (rc149 hRN1) (by decide) rfl (rdGo0 (M := N1) hfN1 hRN1) (by omega) ⟨(Nat.le_of_ble_eq_true rfl), (Nat.le_of_ble_eq_true rfl), (Nat.le_of_ble_eq_true rfl)⟩ (fun h => by cases h) (fun v1 ly1 M1 ⟨q1, q2, q3⟩ => ?_)
          rw [q1, q2, q3]
          refine Rn.aload_n dX12_conjunction_21 rfl ?_
          refine Rn.callV0 dX12_conjunction_22 vX12_309 (rc149 hRN1) (by decide) rfl (neg0 (M := N1) hfN1 hRN1) (by omega) ⟨(Nat.le_of_ble_eq_true rfl), (Nat.le_of_ble_eq_true rfl), (Nat.le_of_ble_eq_true rfl)⟩ (fun h => by cases h) (fun v1 ly1 M1 ⟨q1, q2, q3⟩ => ?_)
          rw [q1, q2, q3]
          refine Rn.aload_n dX12_conjunction_25 rfl ?_
          refine Rn.iconstv (v := 2) dX12_conjunction_26 ic_2 ?_
          refine Rn.sipushv (v := 261) dX12_conjunction_27 sp_261 ?_
          refine Rn.callV2 dX12_conjunction_30 vX12_306 (rc149 hRN1) (by decide) rfl (puts0 (M := N1) hfN1 hRN1) (by omega) ⟨(Nat.le_of_ble_eq_true rfl), (Nat.le_of_ble_eq_true rfl), (Nat.le_of_ble_eq_true rfl)⟩ (fun h => by cases h) (fun v1 ly1 M1 ⟨q1, q2, q3⟩ => ?_)
          rw [q1, q2, q3]
          refine Rn.goto dX12_conjunction_33 ?_
          refine Rn.aload_n dX12_conjunction_4 rfl ?_
          refine Rn.bipushv (v := 17) dX12_conjunction_5 bp_17 ?_
          refine Rn.callV1 dX12_conjunction_7 vX12_300 (rc149 hRN1) (by decide) rfl (tX12_isWord (M := N1) (x := 17) hRN1) (by omega) ⟨(Nat.le_of_ble_eq_true rfl), (Nat.le_of_ble_eq_true rfl), (Nat.le_of_ble_eq_true rfl)⟩ (fun h => by cases h) (fun v1 ly1 M1 ⟨q1, q2, q3⟩ => ?_)
          rw [q1, q2, q3]
          refine Rn.topI (y := 0) (isT_f hfN1) ?_
          refine Rn.if_eq dX12_conjunction_10 (fun h9 => ?_) (fun h9 => (by first | exact absurd h9 (by decide) | exact absurd (by decide) h9))
          exact Rn.vret dX12_conjunction_36 rfl ⟨rfl, rfl, hFKK.tr hFN1, Or.inr ⟨2, j, hr _ (Dd.lpB hL hb), hvN1.1, hvN1.2.trans hEKK.pl⟩⟩
        · skip
          refine Rn.aload_n dX12_conjunction_13 rfl ?_
          refine Rn.callV0 dX12_conjunction_14 vX12_303 (rc149 hRKK) (by decide) rfl (knotGo (M := KK) hEKK.2.2.2.2.1 (by omega) hEKK.2.2.1 hRKK) (by omega) ⟨(Nat.le_of_ble_eq_true rfl), (Nat.le_of_ble_eq_true rfl), (Nat.le_of_ble_eq_true rfl)⟩ (fun h => by cases h) (fun v1 ly1 M1 ⟨q1, q2, q3⟩ => ?_)
          rw [q1, q2, q3]
          obtain ⟨N1, hN1⟩ : ∃ N9, N9 = sI KK 149 (upd (KK.1 149) 34 (nI (c2 + 1))) := ⟨_, rfl⟩
          rw [← hN1]
          have hEN1 : EX N1 f n j o (c2 + 1) k0 e2 := by rw [hN1]; exact hEKK.knot
          have hGN1 : exF KK N1 k0 := by rw [hN1]; exact exF.f (fun j hj => pk_un (by omega))
          have hRN1 : RW ly N1.2.2 := by rw [hGN1.1.trans hFKK.1]; exact hR
          refine Rn.aload_n dX12_conjunction_17 rfl ?_
          refine Rn.callV0 dX12_conjunction_18 vX12_238 (rc149 hRN1) (by decide) rfl (goOnY (M := N1) hEN1 hRN1) (by omega) ⟨(Nat.le_of_ble_eq_true rfl), (Nat.le_of_ble_eq_true rfl), (Nat.le_of_ble_eq_true rfl)⟩ (fun h => by cases h) (fun v1 ly1 N2 ⟨q1, q2, t1, hEN2⟩ => ?_)
          rw [q1, q2]
          have hFN2 : exF M N2 k0 := hFKK.tr (hGN1.tr (exF.tok t1))
          have hRN2 : RW ly N2.2.2 := by rw [hFN2.1]; exact hR
          refine Rn.aload_n dX12_conjunction_21 rfl ?_
          refine Rn.callV0 dX12_conjunction_22 vX12_309 (rc149 hRN2) (by decide) rfl (hsub (nx f n j) (by omega) N2 o (c2 + 1) e2 hEN2 hRN2 (by omega) (by omega) ho) (by omega) ⟨(Nat.le_of_ble_eq_true rfl), (Nat.le_of_ble_eq_true rfl), (Nat.le_of_ble_eq_true rfl)⟩ (fun h => by cases h) (fun v1 ly1 N3 ⟨q1, q2, hGN3, hh⟩ => ?_)
          rw [q1, q2]
          have hFN3 : exF M N3 k0 := hFN2.tr hGN3
          have hRN3 : RW ly N3.2.2 := by rw [hFN3.1]; exact hR
          rcases hh with ⟨j3, c3, e3, hD, hEN3⟩ | ⟨k3, j3, hD, hk3, hp3⟩
          · skip
            have hB := hD.b
            obtain ⟨hB1, hB2, hB3, hB4⟩ := hB
            have hB5 := hB3 (by omega)
            have hB6 := hB4 (nx_mono hby)
            have hkd : kdF f n j = 17 := by rw [← htc.2.1]; exact (htc.1.w (w := 17) (by decide)).mp htb
            refine Rn.aload_n dX12_conjunction_25 rfl ?_
            refine Rn.iconstv (v := 2) dX12_conjunction_26 ic_2 ?_
            refine Rn.sipushv (v := 261) dX12_conjunction_27 sp_261 ?_
            refine Rn.callV2 dX12_conjunction_30 vX12_306 (rc149 hRN3) (by decide) rfl (putsY (M := N3) (x := 2) (y := 261) hEN3 (by omega) hRN3) (by omega) ⟨(Nat.le_of_ble_eq_true rfl), (Nat.le_of_ble_eq_true rfl), (Nat.le_of_ble_eq_true rfl)⟩ (fun h => by cases h) (fun v1 ly1 M1 ⟨q1, q2, q3⟩ => ?_)
            rw [q1, q2, q3]
            obtain ⟨N4, hN4⟩ : ∃ N9, N9 = sI (sI (sI N3 167 (upd (N3.1 167) (64 + (k0 + e3.length)) 2)) 168 (upd (N3.1 168) (64 + (k0 + e3.length)) 261)) 151 (upd (N3.1 151) 25 (nI (k0 + e3.length + 1))) := ⟨_, rfl⟩
            rw [← hN4]
            have hEN4 : EX N4 f n j3 o c3 k0 ((-1 - kdF f n j) :: e3) := by rw [hN4]; exact hEN3.put (by rw [hkd]; exact Or.inr (Or.inr (Or.inr ⟨rfl, (17, 261), by decide, rfl, rfl⟩)))
            have hGN4 : exF N3 N4 k0 := by rw [hN4]; exact exF.put (by omega)
            have hRN4 : RW ly N4.2.2 := by rw [hGN4.1.trans hFN3.1]; exact hR
            have hFN4 : exF M N4 k0 := hFN3.tr hGN4
            refine Rn.goto dX12_conjunction_33 ?_
            exact ih (n - j3) (by omega) N4 j3 c3 _ rfl (by omega) hEN4 hFN4 (by rw [List.length_cons]; omega) (by omega) (by omega) (fun r hd => hr r (Dd.lpY hL hb (by omega) hD hd))
          · skip
            have hf := drf hD hk3
            refine Rn.aload_n dX12_conjunction_25 rfl ?_
            refine Rn.iconstv (v := 2) dX12_conjunction_26 ic_2 ?_
            refine Rn.sipushv (v := 261) dX12_conjunction_27 sp_261 ?_
            refine Rn.callV2 dX12_conjunction_30 vX12_306 (rc149 hRN3) (by decide) rfl (puts0 (M := N3) hf hRN3) (by omega) ⟨(Nat.le_of_ble_eq_true rfl), (Nat.le_of_ble_eq_true rfl), (Nat.le_of_ble_eq_true rfl)⟩ (fun h => by cases h) (fun v1 ly1 M1 ⟨q1, q2, q3⟩ => ?_)
            rw [q1, q2, q3]
            refine Rn.goto dX12_conjunction_33 ?_
            refine Rn.aload_n dX12_conjunction_4 rfl ?_
            refine Rn.bipushv (v := 17) dX12_conjunction_5 bp_17 ?_
            refine Rn.callV1 dX12_conjunction_7 vX12_300 (rc149 hRN3) (by decide) rfl (tX12_isWord (M := N3) (x := 17) hRN3) (by omega) ⟨(Nat.le_of_ble_eq_true rfl), (Nat.le_of_ble_eq_true rfl), (Nat.le_of_ble_eq_true rfl)⟩ (fun h => by cases h) (fun v1 ly1 M1 ⟨q1, q2, q3⟩ => ?_)
            rw [q1, q2, q3]
            refine Rn.topI (y := 0) (isT_f hf) ?_
            refine Rn.if_eq dX12_conjunction_10 (fun h9 => ?_) (fun h9 => (by first | exact absurd h9 (by decide) | exact absurd (by decide) h9))
            exact Rn.vret dX12_conjunction_36 rfl ⟨rfl, rfl, hFN3, Or.inr ⟨k3, j3, hr _ (Dd.lpN hL hb (by omega) hD), hk3, hp3⟩⟩
      by_cases hb : bnd (kdF f n j) = nI 2
      · skip
        have htb := htc.1.b.2.2.2.2.1.mpr (by rw [htc.2.1]; exact hb)
        refine Rn.aload_n dX12_conjunction_4 rfl ?_
        refine Rn.bipushv (v := 17) dX12_conjunction_5 bp_17 ?_
        refine Rn.callV1 dX12_conjunction_7 vX12_300 (rc149 hRKK) (by decide) rfl (tX12_isWord (M := KK) (x := 17) hRKK) (by omega) ⟨(Nat.le_of_ble_eq_true rfl), (Nat.le_of_ble_eq_true rfl), (Nat.le_of_ble_eq_true rfl)⟩ (fun h => by cases h) (fun v1 ly1 M1 ⟨q1, q2, q3⟩ => ?_)
        rw [q1, q2, q3]
        refine Rn.topI (y := 1) (isT_y hEKK.2.2.1 htb) ?_
        refine Rn.if_eq dX12_conjunction_10 (fun h9 => (by first | exact absurd h9 (by decide) | exact absurd (by decide) h9)) (fun h9 => ?_)
        exact body hb
      · skip
        have htb := fun g => hb (by rw [← htc.2.1]; exact htc.1.b.2.2.2.2.1.mp g)
        refine Rn.aload_n dX12_conjunction_4 rfl ?_
        refine Rn.bipushv (v := 17) dX12_conjunction_5 bp_17 ?_
        refine Rn.callV1 dX12_conjunction_7 vX12_300 (rc149 hRKK) (by decide) rfl (tX12_isWord (M := KK) (x := 17) hRKK) (by omega) ⟨(Nat.le_of_ble_eq_true rfl), (Nat.le_of_ble_eq_true rfl), (Nat.le_of_ble_eq_true rfl)⟩ (fun h => by cases h) (fun v1 ly1 M1 ⟨q1, q2, q3⟩ => ?_)
        rw [q1, q2, q3]
        refine Rn.topI (y := 0) (isT_n htb) ?_
        refine Rn.if_eq dX12_conjunction_10 (fun h9 => ?_) (fun h9 => (by first | exact absurd h9 (by decide) | exact absurd (by decide) h9))
        exact Rn.vret dX12_conjunction_36 rfl ⟨rfl, rfl, hFKK, Or.inl ⟨j, c2, e2, hr _ (Dd.lpE hL hb), hEKK⟩⟩
  refine Rn.aload_n dX12_conjunction_0 rfl ?_
  refine Rn.callV0 dX12_conjunction_1 vX12_309 (rc149 hR) (by decide) rfl (hsub i (Nat.le_refl i) M o c e hE hR hk hc ho) (by omega) ⟨(Nat.le_of_ble_eq_true rfl), (Nat.le_of_ble_eq_true rfl), (Nat.le_of_ble_eq_true rfl)⟩ (fun h => by cases h) (fun v1 ly1 N3 ⟨q1, q2, hFN3, hh⟩ => ?_)
  rw [q1, q2]
  have hRN3 : RW ly N3.2.2 := by rw [hFN3.1]; exact hR
  rcases hh with ⟨j3, c3, e3, hD, hEN3⟩ | ⟨k3, j3, hD, hk3, hp3⟩
  · skip
    have hB := hD.b
    obtain ⟨hB1, hB2, hB3, hB4⟩ := hB
    have hB5 := hB3 (by omega)
    have hB6 := hB4 (nx_mono hby)
    exact loop (n - j3) N3 j3 c3 e3 rfl (by omega) hEN3 hFN3 (by omega) (by omega) (by omega) (fun r hd => Dd.lvY hL hD hd)
  · skip
    have hf := drf hD hk3
    refine Rn.aload_n dX12_conjunction_4 rfl ?_
    refine Rn.bipushv (v := 17) dX12_conjunction_5 bp_17 ?_
    refine Rn.callV1 dX12_conjunction_7 vX12_300 (rc149 hRN3) (by decide) rfl (tX12_isWord (M := N3) (x := 17) hRN3) (by omega) ⟨(Nat.le_of_ble_eq_true rfl), (Nat.le_of_ble_eq_true rfl), (Nat.le_of_ble_eq_true rfl)⟩ (fun h => by cases h) (fun v1 ly1 M1 ⟨q1, q2, q3⟩ => ?_)
    rw [q1, q2, q3]
    refine Rn.topI (y := 0) (isT_f hf) ?_
    refine Rn.if_eq dX12_conjunction_10 (fun h9 => ?_) (fun h9 => (by first | exact absurd h9 (by decide) | exact absurd (by decide) h9))
    exact Rn.vret dX12_conjunction_36 rfl ⟨rfl, rfl, hFN3, Or.inr ⟨k3, j3, Dd.lvN hL hD, hk3, hp3⟩⟩
theorem tL_expression {G : Gx} {l : Launch} {ly : Ly} {f : Nat → Int32} {n k0 i : Nat} (hby : byA f n) (hsub : ∀ i2, i ≤ i2 → CT G l ly f n k0 2 4 mX12_conjunction i2) : CT G l ly f n k0 1 5 mX12_expression i := by
  intro M o c e hE hR hk hc ho
  refine Mt.of (lv := [some (.ref 149)]) rfl ?_
  have hL : biL 1 := by unfold biL; decide
  have loop : ∀ (k : Nat) (KK : Mm) (j c2 : Nat) (e2 : List Int32), n - j = k → i ≤ j → EX KK f n j o c2 k0 e2 → exF M KK k0 → k0 + e2.length ≤ c2 → c ≤ c2 → c2 ≤ 64 → (∀ r, Dd (kdF f n) (nvF f n) (nx f n) (10 + 1) o j c2 e2 r → Dd (kdF f n) (nvF f n) (nx f n) 1 o i c e r) → Rn G l mX12_expression (5 + 9 + (64 - c) + 6 * (8 - o), 0, 0, false) 4 [some (.ref 149)] [] ly KK (PT ly M f n k0 1 o i c e) := by
    intro k
    induction k using Nat.strongRecOn with
    | _ k ih =>
      intro KK j c2 e2 hkk hij hEKK hFKK hke hcc hc64 hr
      have hRKK : RW ly KK.2.2 := by rw [hFKK.1]; exact hR
      have htc := hEKK.tc
      have hjn : j ≤ n := hEKK.1.2.1
      have body : bnd (kdF f n j) = nI 1 → Rn G l mX12_expression (5 + 9 + (64 - c) + 6 * (8 - o), 0, 0, false) 13 [some (.ref 149)] [] ly KK (PT ly M f n k0 1 o i c e) := by
        intro hb
        have h40 : ¬ kdF f n j = 40 := fun g => by rw [g] at hb; exact absurd hb (by decide)
        have hlt := nx_lt hby hjn h40
        have hnn := (nx_le hby hjn).1
        have htb := htc.1.b.2.2.2.1.mpr (by rw [htc.2.1]; exact hb)
        by_cases h64 : c2 = 64
        · skip
          refine Rn.aload_n dX12_expression_13 rfl ?_
          subst h64
          refine Rn.callV0 dX12_expression_14 vX12_303 (rc149 hRKK) (by decide) rfl (knot64 (M := KK) hEKK.2.2.2.2.1 hEKK.2.2.1 hRKK) (by omega) ⟨(Nat.le_of_ble_eq_true rfl), (Nat.le_of_ble_eq_true rfl), (Nat.le_of_ble_eq_true rfl)⟩ (fun h => by cases h) (fun v1 ly1 M1 ⟨q1, q2, q3⟩ => ?_)
          rw [q1, q2, q3]
          obtain ⟨N1, hN1⟩ : ∃ N9, N9 = wrM KK 2 := ⟨_, rfl⟩
          rw [← hN1]
          have hfN1 : ¬ N1.1 149 29 = 0 := by rw [hN1]; exact (show ¬ ((2 : Int32) = 0) by decide)
          have hvN1 : N1.1 149 29 = 2 ∧ N1.1 149 30 = KK.1 149 26 := by rw [hN1]; exact ⟨rfl, rfl⟩
          have hFN1 : exF KK N1 k0 := by rw [hN1]; exact exF.wr
          have hRN1 : RW ly N1.2.2 := by rw [hFN1.1.trans (hFKK.1)]; exact hR
          refine Rn.aload_n dX12_expression_17 rfl ?_
          refine Rn.callV0 dX12_expression_18 vX12_238 (rc149 hRN1) (by decide) rfl (rdGo0 (M := N1) hfN1 hRN1) (by omega) ⟨(Nat.le_of_ble_eq_true rfl), (Nat.le_of_ble_eq_true rfl), (Nat.le_of_ble_eq_true rfl)⟩ (fun h => by cases h) (fun v1 ly1 M1 ⟨q1, q2, q3⟩ => ?_)
          rw [q1, q2, q3]
          refine Rn.aload_n dX12_expression_21 rfl ?_
          refine Rn.callV0 dX12_expression_22 vX12_297 (rc149 hRN1) (by decide) rfl (con0 (M := N1) hfN1 hRN1) (by omega) ⟨(Nat.le_of_ble_eq_true rfl), (Nat.le_of_ble_eq_true rfl), (Nat.le_of_ble_eq_true rfl)⟩ (fun h => by cases h) (fun v1 ly1 M1 ⟨q1, q2, q3⟩ => ?_)
          rw [q1, q2, q3]
          refine Rn.aload_n dX12_expression_25 rfl ?_
          refine Rn.iconstv (v := 2) dX12_expression_26 ic_2 ?_
          refine Rn.sipushv (v := 262) dX12_expression_27 sp_262 ?_
          refine Rn.callV2 dX12_expression_30 vX12_306 (rc149 hRN1) (by decide) rfl (puts0 (M := N1) hfN1 hRN1) (by omega) ⟨(Nat.le_of_ble_eq_true rfl), (Nat.le_of_ble_eq_true rfl), (Nat.le_of_ble_eq_true rfl)⟩ (fun h => by cases h) (fun v1 ly1 M1 ⟨q1, q2, q3⟩ => ?_)
          rw [q1, q2, q3]
          refine Rn.goto dX12_expression_33 ?_
          refine Rn.aload_n dX12_expression_4 rfl ?_
          refine Rn.bipushv (v := 16) dX12_expression_5 bp_16 ?_
          refine Rn.callV1 dX12_expression_7 vX12_300 (rc149 hRN1) (by decide) rfl (tX12_isWord (M := N1) (x := 16) hRN1) (by omega) ⟨(Nat.le_of_ble_eq_true rfl), (Nat.le_of_ble_eq_true rfl), (Nat.le_of_ble_eq_true rfl)⟩ (fun h => by cases h) (fun v1 ly1 M1 ⟨q1, q2, q3⟩ => ?_)
          rw [q1, q2, q3]
          refine Rn.topI (y := 0) (isT_f hfN1) ?_
          refine Rn.if_eq dX12_expression_10 (fun h9 => ?_) (fun h9 => (by first | exact absurd h9 (by decide) | exact absurd (by decide) h9))
          exact Rn.vret dX12_expression_36 rfl ⟨rfl, rfl, hFKK.tr hFN1, Or.inr ⟨2, j, hr _ (Dd.lpB hL hb), hvN1.1, hvN1.2.trans hEKK.pl⟩⟩
        · skip
          refine Rn.aload_n dX12_expression_13 rfl ?_
          refine Rn.callV0 dX12_expression_14 vX12_303 (rc149 hRKK) (by decide) rfl (knotGo (M := KK) hEKK.2.2.2.2.1 (by omega) hEKK.2.2.1 hRKK) (by omega) ⟨(Nat.le_of_ble_eq_true rfl), (Nat.le_of_ble_eq_true rfl), (Nat.le_of_ble_eq_true rfl)⟩ (fun h => by cases h) (fun v1 ly1 M1 ⟨q1, q2, q3⟩ => ?_)
          rw [q1, q2, q3]
          obtain ⟨N1, hN1⟩ : ∃ N9, N9 = sI KK 149 (upd (KK.1 149) 34 (nI (c2 + 1))) := ⟨_, rfl⟩
          rw [← hN1]
          have hEN1 : EX N1 f n j o (c2 + 1) k0 e2 := by rw [hN1]; exact hEKK.knot
          have hGN1 : exF KK N1 k0 := by rw [hN1]; exact exF.f (fun j hj => pk_un (by omega))
          have hRN1 : RW ly N1.2.2 := by rw [hGN1.1.trans hFKK.1]; exact hR
          refine Rn.aload_n dX12_expression_17 rfl ?_
          refine Rn.callV0 dX12_expression_18 vX12_238 (rc149 hRN1) (by decide) rfl (goOnY (M := N1) hEN1 hRN1) (by omega) ⟨(Nat.le_of_ble_eq_true rfl), (Nat.le_of_ble_eq_true rfl), (Nat.le_of_ble_eq_true rfl)⟩ (fun h => by cases h) (fun v1 ly1 N2 ⟨q1, q2, t1, hEN2⟩ => ?_)
          rw [q1, q2]
          have hFN2 : exF M N2 k0 := hFKK.tr (hGN1.tr (exF.tok t1))
          have hRN2 : RW ly N2.2.2 := by rw [hFN2.1]; exact hR
          refine Rn.aload_n dX12_expression_21 rfl ?_
          refine Rn.callV0 dX12_expression_22 vX12_297 (rc149 hRN2) (by decide) rfl (hsub (nx f n j) (by omega) N2 o (c2 + 1) e2 hEN2 hRN2 (by omega) (by omega) ho) (by omega) ⟨(Nat.le_of_ble_eq_true rfl), (Nat.le_of_ble_eq_true rfl), (Nat.le_of_ble_eq_true rfl)⟩ (fun h => by cases h) (fun v1 ly1 N3 ⟨q1, q2, hGN3, hh⟩ => ?_)
          rw [q1, q2]
          have hFN3 : exF M N3 k0 := hFN2.tr hGN3
          have hRN3 : RW ly N3.2.2 := by rw [hFN3.1]; exact hR
          rcases hh with ⟨j3, c3, e3, hD, hEN3⟩ | ⟨k3, j3, hD, hk3, hp3⟩
          · skip
            have hB := hD.b
            obtain ⟨hB1, hB2, hB3, hB4⟩ := hB
            have hB5 := hB3 (by omega)
            have hB6 := hB4 (nx_mono hby)
            have hkd : kdF f n j = 16 := by rw [← htc.2.1]; exact (htc.1.w (w := 16) (by decide)).mp htb
            refine Rn.aload_n dX12_expression_25 rfl ?_
            refine Rn.iconstv (v := 2) dX12_expression_26 ic_2 ?_
            refine Rn.sipushv (v := 262) dX12_expression_27 sp_262 ?_
            refine Rn.callV2 dX12_expression_30 vX12_306 (rc149 hRN3) (by decide) rfl (putsY (M := N3) (x := 2) (y := 262) hEN3 (by omega) hRN3) (by omega) ⟨(Nat.le_of_ble_eq_true rfl), (Nat.le_of_ble_eq_true rfl), (Nat.le_of_ble_eq_true rfl)⟩ (fun h => by cases h) (fun v1 ly1 M1 ⟨q1, q2, q3⟩ => ?_)
            rw [q1, q2, q3]
            obtain ⟨N4, hN4⟩ : ∃ N9, N9 = sI (sI (sI N3 167 (upd (N3.1 167) (64 + (k0 + e3.length)) 2)) 168 (upd (N3.1 168) (64 + (k0 + e3.length)) 262)) 151 (upd (N3.1 151) 25 (nI (k0 + e3.length + 1))) := ⟨_, rfl⟩
            rw [← hN4]
            have hEN4 : EX N4 f n j3 o c3 k0 ((-1 - kdF f n j) :: e3) := by rw [hN4]; exact hEN3.put (by rw [hkd]; exact Or.inr (Or.inr (Or.inr ⟨rfl, (16, 262), by decide, rfl, rfl⟩)))
            have hGN4 : exF N3 N4 k0 := by rw [hN4]; exact exF.put (by omega)
            have hRN4 : RW ly N4.2.2 := by rw [hGN4.1.trans hFN3.1]; exact hR
            have hFN4 : exF M N4 k0 := hFN3.tr hGN4
            refine Rn.goto dX12_expression_33 ?_
            exact ih (n - j3) (by omega) N4 j3 c3 _ rfl (by omega) hEN4 hFN4 (by rw [List.length_cons]; omega) (by omega) (by omega) (fun r hd => hr r (Dd.lpY hL hb (by omega) hD hd))
          · skip
            have hf := drf hD hk3
            refine Rn.aload_n dX12_expression_25 rfl ?_
            refine Rn.iconstv (v := 2) dX12_expression_26 ic_2 ?_
            refine Rn.sipushv (v := 262) dX12_expression_27 sp_262 ?_
            refine Rn.callV2 dX12_expression_30 vX12_306 (rc149 hRN3) (by decide) rfl (puts0 (M := N3) hf hRN3) (by omega) ⟨(Nat.le_of_ble_eq_true rfl), (Nat.le_of_ble_eq_true rfl), (Nat.le_of_ble_eq_true rfl)⟩ (fun h => by cases h) (fun v1 ly1 M1 ⟨q1, q2, q3⟩ => ?_)
            rw [q1, q2, q3]
            refine Rn.goto dX12_expression_33 ?_
            refine Rn.aload_n dX12_expression_4 rfl ?_
            refine Rn.bipushv (v := 16) dX12_expression_5 bp_16 ?_
            refine Rn.callV1 dX12_expression_7 vX12_300 (rc149 hRN3) (by decide) rfl (tX12_isWord (M := N3) (x := 16) hRN3) (by omega) ⟨(Nat.le_of_ble_eq_true rfl), (Nat.le_of_ble_eq_true rfl), (Nat.le_of_ble_eq_true rfl)⟩ (fun h => by cases h) (fun v1 ly1 M1 ⟨q1, q2, q3⟩ => ?_)
            rw [q1, q2, q3]
            refine Rn.topI (y := 0) (isT_f hf) ?_
            refine Rn.if_eq dX12_expression_10 (fun h9 => ?_) (fun h9 => (by first | exact absurd h9 (by decide) | exact absurd (by decide) h9))
            exact Rn.vret dX12_expression_36 rfl ⟨rfl, rfl, hFN3, Or.inr ⟨k3, j3, hr _ (Dd.lpN hL hb (by omega) hD), hk3, hp3⟩⟩
      by_cases hb : bnd (kdF f n j) = nI 1
      · skip
        have htb := htc.1.b.2.2.2.1.mpr (by rw [htc.2.1]; exact hb)
        refine Rn.aload_n dX12_expression_4 rfl ?_
        refine Rn.bipushv (v := 16) dX12_expression_5 bp_16 ?_
        refine Rn.callV1 dX12_expression_7 vX12_300 (rc149 hRKK) (by decide) rfl (tX12_isWord (M := KK) (x := 16) hRKK) (by omega) ⟨(Nat.le_of_ble_eq_true rfl), (Nat.le_of_ble_eq_true rfl), (Nat.le_of_ble_eq_true rfl)⟩ (fun h => by cases h) (fun v1 ly1 M1 ⟨q1, q2, q3⟩ => ?_)
        rw [q1, q2, q3]
        refine Rn.topI (y := 1) (isT_y hEKK.2.2.1 htb) ?_
        refine Rn.if_eq dX12_expression_10 (fun h9 => (by first | exact absurd h9 (by decide) | exact absurd (by decide) h9)) (fun h9 => ?_)
        exact body hb
      · skip
        have htb := fun g => hb (by rw [← htc.2.1]; exact htc.1.b.2.2.2.1.mp g)
        refine Rn.aload_n dX12_expression_4 rfl ?_
        refine Rn.bipushv (v := 16) dX12_expression_5 bp_16 ?_
        refine Rn.callV1 dX12_expression_7 vX12_300 (rc149 hRKK) (by decide) rfl (tX12_isWord (M := KK) (x := 16) hRKK) (by omega) ⟨(Nat.le_of_ble_eq_true rfl), (Nat.le_of_ble_eq_true rfl), (Nat.le_of_ble_eq_true rfl)⟩ (fun h => by cases h) (fun v1 ly1 M1 ⟨q1, q2, q3⟩ => ?_)
        rw [q1, q2, q3]
        refine Rn.topI (y := 0) (isT_n htb) ?_
        refine Rn.if_eq dX12_expression_10 (fun h9 => ?_) (fun h9 => (by first | exact absurd h9 (by decide) | exact absurd (by decide) h9))
        exact Rn.vret dX12_expression_36 rfl ⟨rfl, rfl, hFKK, Or.inl ⟨j, c2, e2, hr _ (Dd.lpE hL hb), hEKK⟩⟩
  refine Rn.aload_n dX12_expression_0 rfl ?_
  refine Rn.callV0 dX12_expression_1 vX12_297 (rc149 hR) (by decide) rfl (hsub i (Nat.le_refl i) M o c e hE hR hk hc ho) (by omega) ⟨(Nat.le_of_ble_eq_true rfl), (Nat.le_of_ble_eq_true rfl), (Nat.le_of_ble_eq_true rfl)⟩ (fun h => by cases h) (fun v1 ly1 N3 ⟨q1, q2, hFN3, hh⟩ => ?_)
  rw [q1, q2]
  have hRN3 : RW ly N3.2.2 := by rw [hFN3.1]; exact hR
  rcases hh with ⟨j3, c3, e3, hD, hEN3⟩ | ⟨k3, j3, hD, hk3, hp3⟩
  · skip
    have hB := hD.b
    obtain ⟨hB1, hB2, hB3, hB4⟩ := hB
    have hB5 := hB3 (by omega)
    have hB6 := hB4 (nx_mono hby)
    exact loop (n - j3) N3 j3 c3 e3 rfl (by omega) hEN3 hFN3 (by omega) (by omega) (by omega) (fun r hd => Dd.lvY hL hD hd)
  · skip
    have hf := drf hD hk3
    refine Rn.aload_n dX12_expression_4 rfl ?_
    refine Rn.bipushv (v := 16) dX12_expression_5 bp_16 ?_
    refine Rn.callV1 dX12_expression_7 vX12_300 (rc149 hRN3) (by decide) rfl (tX12_isWord (M := N3) (x := 16) hRN3) (by omega) ⟨(Nat.le_of_ble_eq_true rfl), (Nat.le_of_ble_eq_true rfl), (Nat.le_of_ble_eq_true rfl)⟩ (fun h => by cases h) (fun v1 ly1 M1 ⟨q1, q2, q3⟩ => ?_)
    rw [q1, q2, q3]
    refine Rn.topI (y := 0) (isT_f hf) ?_
    refine Rn.if_eq dX12_expression_10 (fun h9 => ?_) (fun h9 => (by first | exact absurd h9 (by decide) | exact absurd (by decide) h9))
    exact Rn.vret dX12_expression_36 rfl ⟨rfl, rfl, hFN3, Or.inr ⟨k3, j3, Dd.lvN hL hD, hk3, hp3⟩⟩
