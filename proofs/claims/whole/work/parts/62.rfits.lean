/-- by which law, of the guesses -/
def lkN (nm d : Nat) : Nat := if d < nm then 2 + d else 0
theorem lkN_lt {nm d : Nat} (h : nm ≤ 3) : lkN nm d < 5 := by unfold lkN; split <;> omega
theorem tX12_fits {G : Gx} {l : Launch} {ly : Ly} {M : Mm} {nm : Nat} {n nw t nf : Nat} {p : P4} {h0 c0 : Int32} {W : Wx} {lw : Nat → (Nat → Int32) × Nat} {s : Sc} {fc fk ca : Nat → Int32} (hS : RS M n nw t nf p h0 c0 W lw s fc fk) (hca : cas n nf c0 fc fk ca) (hnm : M.1 151 9 = nI nm ∧ nm ≤ 3) {ng m L : Nat} {tm ce mu al : Nat → Int32} (hG : GR M ng m L tm ce mu al) (hR : RW ly M.2.2) {Q : Qt} (hQ : ∀ K, qR M K → Q (some (.int (ftS (fun d => soB (TR n nw p h0 0 ca W (fun m => valL m (lw (lkN nm d)).1 (lw (lkN nm d)).2) (fun m => valL m (lw 1).1 (lw 1).2)) (zsc 0 (fun _ => 0)) (kbR M m) tm ce mu al ng L) (nm + 1)))) ly K) : Mt G l mX12_fits (9, 0, 0, false) [.ref 149] ly M Q := by
  refine Mt.of (lv := [some (.ref 149), none, none]) rfl ?_
  refine Rn.aload_n dX12_fits_0 rfl ?_
  refine Rn.iconstv (v := 0) dX12_fits_1 ic_0 ?_
  refine Rn.putI dX12_fits_2 fX12_169 rfl rfl rfl (rc149 hR) ?_
  refine Rn.aload_n dX12_fits_5 rfl ?_
  refine Rn.callV0 dX12_fits_6 vX12_447 (rc149 hR) (by decide) rfl (tX12_plain (M := sI M 149 (upd (M.1 149) 0 0)) hR) (by decide) ⟨(Nat.le_of_ble_eq_true rfl), (Nat.le_of_ble_eq_true rfl), (Nat.le_of_ble_eq_true rfl)⟩ (fun h => by cases h) (fun v1 ly1 M1 ⟨q1, q2, q3⟩ => ?_)
  rw [q1, q2, q3]
  have hm0m : md (sI (sI M 149 (upd (M.1 149) 0 0)) 149 (upd (upd (upd (upd (upd ((sI M 149 (upd (M.1 149) 0 0)).1 149) 55 (-1)) 56 0) 57 (-1)) 61 0) 62 0)) (-1) 0 := ⟨rfl, rfl, rfl, rfl⟩
  have hq0m : qR M (sI (sI M 149 (upd (M.1 149) 0 0)) 149 (upd (upd (upd (upd (upd ((sI M 149 (upd (M.1 149) 0 0)).1 149) 55 (-1)) 56 0) 57 (-1)) 61 0) 62 0)) := qR.plain ((qR.rf (M := M)).f0)
  revert hm0m hq0m
  generalize (sI (sI M 149 (upd (M.1 149) 0 0)) 149 (upd (upd (upd (upd (upd ((sI M 149 (upd (M.1 149) 0 0)).1 149) 55 (-1)) 56 0) 57 (-1)) 61 0) 62 0)) = N0
  intro hm0 hq0
  have hRN0 : RW ly N0.2.2 := by rw [hq0.1]; exact hR
  refine Rn.aload_n dX12_fits_9 rfl ?_
  have hGq1 := hG.q hq0
  refine Rn.callV0 dX12_fits_10 vX12_524 (rc149 hRN0) (by decide) rfl (tX12_layStruck (M := N0) (m := m) (Q := fun v0 ly0 K => v0 = none ∧ ly0 = ly ∧ ∃ z, K = sI N0 195 z ∧ skR z (M.1 194) m) hGq1.2.1.1 (by have := hG.2.1.2; have := hG.1.2; omega) hGq1.2.2.1 hRN0 (fun z h => ⟨rfl, rfl, z, rfl, by rw [hq0.at 194 (by omega)] at h; exact h⟩)) (by decide) ⟨(Nat.le_of_ble_eq_true rfl), (Nat.le_of_ble_eq_true rfl), (Nat.le_of_ble_eq_true rfl)⟩ (fun h => by cases h) (fun v1 ly1 N1 ⟨q1, q2, z1, q3, hz1⟩ => ?_)
  rw [q1, q2]
  have hq1 : qR M N1 := by rw [q3]; exact hq0.tr ⟨rfl, fun a a1 a2 a3 a4 => sI_ne a4, fun j a1 a2 a3 a4 a5 => rfl, fun a ha j a1 a2 => congrFun (sI_ne (by omega)) j, fun a ha j hj => congrFun (sI_ne (by omega)) j, fun a ha j hj => congrFun (sI_ne (by omega)) j⟩
  have hm1 : md N1 (-1) 0 := by rw [q3]; exact hm0.eq rfl
  have hy1 : skR (N1.1 195) (M.1 194) m := by rw [q3]; exact hz1
  clear q3
  have hRN1 : RW ly N1.2.2 := by rw [hq1.1]; exact hR
  refine Rn.iconstv (v := 0) dX12_fits_13 ic_0 ?_
  refine Rn.istore_n (lv' := [some (.ref 149), some (.int 0), none]) dX12_fits_14 (by decide) rfl ?_
  refine Rn.iconstv (v := 0) dX12_fits_15 ic_0 ?_
  refine Rn.istore_n (lv' := [some (.ref 149), some (.int 0), some (.int 0)]) dX12_fits_16 (by decide) rfl ?_
  have loop : ∀ (f d : Nat) (KK : Mm), d + f = nm + 1 → qR M KK → (KK.1 149 55 = -1 ∧ KK.1 149 57 = -1 ∧ KK.1 149 62 = 0) → skR (KK.1 195) (M.1 194) m → Rn G l mX12_fits (9, 0, 0, false) 17 [some (.ref 149), some (.int (ftS (fun d => soB (TR n nw p h0 0 ca W (fun m => valL m (lw (lkN nm d)).1 (lw (lkN nm d)).2) (fun m => valL m (lw 1).1 (lw 1).2)) (zsc 0 (fun _ => 0)) (kbR M m) tm ce mu al ng L) d)), some (.int (nI d))] [] ly KK Q := by
    intro f
    induction f with
    | zero =>
      intro d KK hd hqK hmK hyK
      have hRKK : RW ly KK.2.2 := by rw [hqK.1]; exact hR
      have hnmK : KK.1 151 9 = nI nm := by rw [hqK.at 151 (by omega)]; exact hnm.1
      refine Rn.iload_n dX12_fits_17 rfl ?_
      refine Rn.aload_n dX12_fits_18 rfl ?_
      refine Rn.getR dX12_fits_19 fX12_15 rfl (rc149 hRKK) (show KK.2.2 149 3 = some 151 from (rpt3 hRKK)) ?_
      refine Rn.bipushv (v := 9) dX12_fits_22 bp_9 ?_
      refine Rn.iald dX12_fits_24 (rc151 hRKK) (by unfold vp_in; decide) ?_
      refine Rn.topI (y := KK.1 151 9) (rfl) ?_
      refine Rn.topI (y := nI nm) (hnmK) ?_
      refine Rn.icmp_gt dX12_fits_25 (fun hc => ?_) (fun hc => ?_)
      · skip
        have ed : nm + 1 = d := by omega
        refine Rn.aload_n dX12_fits_73 rfl ?_
        refine Rn.callV0 dX12_fits_74 vX12_447 (rc149 hRKK) (by decide) rfl (tX12_plain (M := KK) hRKK) (by decide) ⟨(Nat.le_of_ble_eq_true rfl), (Nat.le_of_ble_eq_true rfl), (Nat.le_of_ble_eq_true rfl)⟩ (fun h => by cases h) (fun v1 ly1 M1 ⟨q1, q2, q3⟩ => ?_)
        rw [q1, q2, q3]
        have hm9m : md (sI (KK) 149 (upd (upd (upd (upd (upd ((KK).1 149) 55 (-1)) 56 0) 57 (-1)) 61 0) 62 0)) (-1) 0 := ⟨rfl, rfl, rfl, rfl⟩
        have hq9m : qR M (sI (KK) 149 (upd (upd (upd (upd (upd ((KK).1 149) 55 (-1)) 56 0) 57 (-1)) 61 0) 62 0)) := qR.plain (hqK)
        revert hm9m hq9m
        generalize (sI (KK) 149 (upd (upd (upd (upd (upd ((KK).1 149) 55 (-1)) 56 0) 57 (-1)) 61 0) 62 0)) = N9
        intro hm9 hq9
        have hRN9 : RW ly N9.2.2 := by rw [hq9.1]; exact hR
        refine Rn.iload_n dX12_fits_77 rfl ?_
        rw [ed] at hQ
        exact Rn.iret (ty := .int) dX12_fits_78 rfl rfl (hQ N9 hq9)
      · skip
        exact absurd ((nI_ltI (a := nm) (b := d) (by omega) (by omega)).mpr (by omega)) hc
    | succ f ih =>
      intro d KK hd hqK hmK hyK
      have hRKK : RW ly KK.2.2 := by rw [hqK.1]; exact hR
      have hnmK : KK.1 151 9 = nI nm := by rw [hqK.at 151 (by omega)]; exact hnm.1
      refine Rn.iload_n dX12_fits_17 rfl ?_
      refine Rn.aload_n dX12_fits_18 rfl ?_
      refine Rn.getR dX12_fits_19 fX12_15 rfl (rc149 hRKK) (show KK.2.2 149 3 = some 151 from (rpt3 hRKK)) ?_
      refine Rn.bipushv (v := 9) dX12_fits_22 bp_9 ?_
      refine Rn.iald dX12_fits_24 (rc151 hRKK) (by unfold vp_in; decide) ?_
      refine Rn.topI (y := KK.1 151 9) (rfl) ?_
      refine Rn.topI (y := nI nm) (hnmK) ?_
      refine Rn.icmp_gt dX12_fits_25 (fun hc => ?_) (fun hc => ?_)
      · skip
        exact absurd ((nI_ltI (a := nm) (b := d) (by omega) (by omega)).mp hc) (by omega)
      · skip
        refine Rn.aload_n dX12_fits_28 rfl ?_
        refine Rn.iload_n dX12_fits_29 rfl ?_
        refine Rn.aload_n dX12_fits_30 rfl ?_
        refine Rn.getR dX12_fits_31 fX12_15 rfl (rc149 hRKK) (show KK.2.2 149 3 = some 151 from (rpt3 hRKK)) ?_
        refine Rn.bipushv (v := 9) dX12_fits_34 bp_9 ?_
        refine Rn.iald dX12_fits_36 (rc151 hRKK) (by unfold vp_in; decide) ?_
        refine Rn.topI (y := KK.1 151 9) (rfl) ?_
        refine Rn.topI (y := nI nm) (hnmK) ?_
        obtain ⟨kp, hkp⟩ : ∃ kp : Nat, kp = lkN nm d := ⟨_, rfl⟩
        have join : Rn G l mX12_fits (9, 0, 0, false) 47 [some (.ref 149), some (.int (ftS (fun d => soB (TR n nw p h0 0 ca W (fun m => valL m (lw (lkN nm d)).1 (lw (lkN nm d)).2) (fun m => valL m (lw 1).1 (lw 1).2)) (zsc 0 (fun _ => 0)) (kbR M m) tm ce mu al ng L) d)), some (.int (nI d))] [.int (nI kp), .ref 149] ly KK Q := by
          refine Rn.putI dX12_fits_47 fX12_390 rfl rfl rfl (rc149 hRKK) ?_
          refine Rn.aload_n dX12_fits_50 rfl ?_
          have hm2m : md (sI KK 149 (upd (KK.1 149) 56 (nI kp))) (-1) kp := ⟨hmK.1, rfl, hmK.2.1, hmK.2.2⟩
          have hq2m : qR M (sI KK 149 (upd (KK.1 149) 56 (nI kp))) := hqK.fj (by omega)
          have hy2m : skR ((sI KK 149 (upd (KK.1 149) 56 (nI kp))).1 195) (M.1 194) m := hyK
          revert hm2m hq2m hy2m
          generalize (sI KK 149 (upd (KK.1 149) 56 (nI kp))) = N2
          intro hm2 hq2 hy2
          have hRN2 : RW ly N2.2.2 := by rw [hq2.1]; exact hR
          refine Rn.callV0 dX12_fits_51 vX12_493 (rc149 hRN2) (by decide) rfl (rvRest (M := M) (N := N2) (x := (-1)) (kp := kp) (Q := fun v0 ly0 K => v0 = none ∧ ly0 = ly ∧ Rt M K nw 0 nf (-1) kp (zsc 0 (fun _ => 0)) fc fk ∧ K.1 171 1 = 0 ∧ K.1 195 = N2.1 195) hm2 hS hq2 hR (fun K a c d => ⟨rfl, rfl, a nw hS.w6, c, d⟩)) (by decide) ⟨(Nat.le_of_ble_eq_true rfl), (Nat.le_of_ble_eq_true rfl), (Nat.le_of_ble_eq_true rfl)⟩ (fun h => by cases h) (fun v1 ly1 N3 ⟨q1, q2, hT3, hb3, hz3⟩ => ?_)
          rw [q1, q2]
          have hRN3 : RW ly N3.2.2 := by rw [hT3.1.1]; exact hR
          have hy3 : skR (N3.1 195) (M.1 194) m := by rw [hz3]; exact hy2
          have hE3 := hT3.ev2 (K := N3) hS (fun a _ _ => rfl) hb3 (by rw [hkp]; exact lkN_lt hnm.2) (by decide) (by decide) (by decide) hca
          refine Rn.aload_n dX12_fits_54 rfl ?_
          refine Rn.callV0 dX12_fits_55 vX12_520 (rc149 hRN3) (by decide) rfl (rvSo (M := M) (N := N3) (Q := fun v0 ly0 K => v0 = some (.int (b01 (soB (TR n nw p h0 0 ca W (fun m => valL m (lw kp).1 (lw kp).2) (fun m => valL m (lw 1).1 (lw 1).2)) (zsc 0 (fun _ => 0)) (kbR M m) tm ce mu al ng L))) ∧ ly0 = ly ∧ qR M K ∧ md K (-1) kp ∧ K.1 195 = N3.1 195) hG hT3.1 hy3 hE3 hT3.2.1.2.2.1 hT3.2.2.1 (by omega) hR (fun K a c d => ⟨rfl, rfl, a, ⟨(d 55 (by decide)).trans hT3.2.1.1, (d 56 (by decide)).trans hT3.2.1.2.1, (d 57 (by decide)).trans hT3.2.1.2.2.1, (d 62 (by decide)).trans hT3.2.1.2.2.2⟩, c⟩)) (by decide) ⟨(Nat.le_of_ble_eq_true rfl), (Nat.le_of_ble_eq_true rfl), (Nat.le_of_ble_eq_true rfl)⟩ (fun h => by cases h) (fun v1 ly1 N4 ⟨q1, q2, hq4, hm4, hz4⟩ => ?_)
          rw [q1, q2]
          have hRN4 : RW ly N4.2.2 := by rw [hq4.1]; exact hR
          have hy4 : skR (N4.1 195) (M.1 194) m := by rw [hz4]; exact hy3
          have hmm : N4.1 149 55 = -1 ∧ N4.1 149 57 = -1 ∧ N4.1 149 62 = 0 := ⟨hm4.1, hm4.2.2.1, hm4.2.2.2⟩
          refine Rn.if_eq dX12_fits_58 (fun hB => ?_) (fun hB => ?_)
          · skip
            have hBf : ¬ (fun d => soB (TR n nw p h0 0 ca W (fun m => valL m (lw (lkN nm d)).1 (lw (lkN nm d)).2) (fun m => valL m (lw 1).1 (lw 1).2)) (zsc 0 (fun _ => 0)) (kbR M m) tm ce mu al ng L) d = true := by show ¬ soB (TR n nw p h0 0 ca W (fun m => valL m (lw (lkN nm d)).1 (lw (lkN nm d)).2) (fun m => valL m (lw 1).1 (lw 1).2)) (zsc 0 (fun _ => 0)) (kbR M m) tm ce mu al ng L = true; rw [← hkp]; exact b01_0 hB
            refine Rn.iincN (lv' := [some (.ref 149), some (.int (ftS (fun d => soB (TR n nw p h0 0 ca W (fun m => valL m (lw (lkN nm d)).1 (lw (lkN nm d)).2) (fun m => valL m (lw 1).1 (lw 1).2)) (zsc 0 (fun _ => 0)) (kbR M m) tm ce mu al ng L) d)), some (.int (nI (d + 1)))]) dX12_fits_67 rfl (by decide) rfl ?_
            refine Rn.goto dX12_fits_70 ?_
            refine Rn.lveq (lv2 := [some (.ref 149), some (.int (ftS (fun d => soB (TR n nw p h0 0 ca W (fun m => valL m (lw (lkN nm d)).1 (lw (lkN nm d)).2) (fun m => valL m (lw 1).1 (lw 1).2)) (zsc 0 (fun _ => 0)) (kbR M m) tm ce mu al ng L) (d + 1))), some (.int (nI (d + 1)))]) (by rw [show ftS (fun d => soB (TR n nw p h0 0 ca W (fun m => valL m (lw (lkN nm d)).1 (lw (lkN nm d)).2) (fun m => valL m (lw 1).1 (lw 1).2)) (zsc 0 (fun _ => 0)) (kbR M m) tm ce mu al ng L) (d + 1) = ftS (fun d => soB (TR n nw p h0 0 ca W (fun m => valL m (lw (lkN nm d)).1 (lw (lkN nm d)).2) (fun m => valL m (lw 1).1 (lw 1).2)) (zsc 0 (fun _ => 0)) (kbR M m) tm ce mu al ng L) d from if_neg hBf]) ?_
            exact ih (d + 1) N4 (by omega) hq4 hmm hy4
          · skip
            have hBt : (fun d => soB (TR n nw p h0 0 ca W (fun m => valL m (lw (lkN nm d)).1 (lw (lkN nm d)).2) (fun m => valL m (lw 1).1 (lw 1).2)) (zsc 0 (fun _ => 0)) (kbR M m) tm ce mu al ng L) d = true := by show soB (TR n nw p h0 0 ca W (fun m => valL m (lw (lkN nm d)).1 (lw (lkN nm d)).2) (fun m => valL m (lw 1).1 (lw 1).2)) (zsc 0 (fun _ => 0)) (kbR M m) tm ce mu al ng L = true; rw [← hkp]; exact b01_n hB
            refine Rn.iload_n dX12_fits_61 rfl ?_
            refine Rn.iconstv (v := 1) dX12_fits_62 ic_1 ?_
            refine Rn.iload_n dX12_fits_63 rfl ?_
            refine Rn.ishl dX12_fits_64 ?_
            refine Rn.ior dX12_fits_65 ?_
            refine Rn.topI (y := ftS (fun d => soB (TR n nw p h0 0 ca W (fun m => valL m (lw (lkN nm d)).1 (lw (lkN nm d)).2) (fun m => valL m (lw 1).1 (lw 1).2)) (zsc 0 (fun _ => 0)) (kbR M m) tm ce mu al ng L) (d + 1)) ((if_pos hBt).symm) ?_
            refine Rn.istore_n (lv' := [some (.ref 149), some (.int (ftS (fun d => soB (TR n nw p h0 0 ca W (fun m => valL m (lw (lkN nm d)).1 (lw (lkN nm d)).2) (fun m => valL m (lw 1).1 (lw 1).2)) (zsc 0 (fun _ => 0)) (kbR M m) tm ce mu al ng L) (d + 1))), some (.int (nI d))]) dX12_fits_66 (by decide) rfl ?_
            refine Rn.iincN (lv' := [some (.ref 149), some (.int (ftS (fun d => soB (TR n nw p h0 0 ca W (fun m => valL m (lw (lkN nm d)).1 (lw (lkN nm d)).2) (fun m => valL m (lw 1).1 (lw 1).2)) (zsc 0 (fun _ => 0)) (kbR M m) tm ce mu al ng L) (d + 1))), some (.int (nI (d + 1)))]) dX12_fits_67 rfl (by decide) rfl ?_
            refine Rn.goto dX12_fits_70 ?_
            exact ih (d + 1) N4 (by omega) hq4 hmm hy4
        refine Rn.icmp_ge dX12_fits_37 (fun hlt => ?_) (fun hlt => ?_)
        · skip
          refine Rn.iconstv (v := 0) dX12_fits_46 ic_0 ?_
          refine Rn.topI (y := nI kp) (by rw [hkp]; unfold lkN; rw [if_neg (fun h => Int32.not_lt.mpr hlt ((nI_ltI (a := d) (b := nm) (by omega) (by omega)).mpr h))]; rfl) ?_
          exact join
        · skip
          refine Rn.iconstv (v := 2) dX12_fits_40 ic_2 ?_
          refine Rn.iload_n dX12_fits_41 rfl ?_
          refine Rn.iadd dX12_fits_42 ?_
          refine Rn.topI (y := nI (2 + d)) (nI_add 2 d) ?_
          refine Rn.goto dX12_fits_43 ?_
          refine Rn.topI (y := nI kp) (by rw [hkp]; unfold lkN; rw [if_pos ((nI_ltI (a := d) (b := nm) (by omega) (by omega)).mp (Int32.not_le.mp hlt))]) ?_
          exact join
  exact loop (nm + 1) 0 N1 (by omega) hq1 ⟨hm1.1, hm1.2.2.1, hm1.2.2.2⟩ hy1
