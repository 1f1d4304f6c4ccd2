theorem z6 : ∀ i, i < 6 → ((0 : Int32) >>> (nI i &&& 31)) &&& 1 = 0 := by decide +kernel
/-- the scene N times on, tried otherwise: as the reference has it -/
def triR (n nw : Nat) (p : P4) (h0 c0 : Int32) (ca : Nat → Int32) (W : Wx) (pv sv : Lv) (s : Sc) (w N : Nat) : Nat → Sc
  | 0 => itF (fun _ => TR n nw p 0 0 ca W pv sv) N s
  | 1 => itF (fun _ => TR n nw p h0 0 (fun _ => mn 100 c0) W pv sv) N s
  | 2 => itF (fun _ => TR n nw p h0 0 ca W pv sv) N (stgS s (lvO 0 s.2.2.2.2.1.2.2.1 6))
  | 3 => itF (fun _ => TR n nw p h0 0 ca W pv sv) N (stgS s (upd s.2.2.2.2.1.2.2.1 w 2))
  | 4 => itF (fun _ => TR n nw p h0 1 ca W pv sv) N s
  | _ => itF (fun _ => TR n nw p h0 0 ca W pv (fun _ => erL)) N s
theorem tX12_tried {G : Gx} {l : Launch} {ly : Ly} {M : Mm} {x y z : Int32} {n nw t nf : Nat} {p : P4} {h0 c0 : Int32} {W : Wx} {lw : Nat → (Nat → Int32) × Nat} {s : Sc} {fc fk ca : Nat → Int32} (hS : RS M n nw t nf p h0 c0 W lw s fc fk) (hca : cas n nf c0 fc fk ca)  (hR : RW ly M.2.2) {Q : Qt} (hQ : (¬ ((0 ≤ x ∧ x ≤ 11) ∧ (0 ≤ z ∧ z ≤ 64) ∧ (if x = 3 ∨ x = 9 then (∃ j : Nat, j < nw ∧ y = nI j) else y = 0)) → ∀ K, qR M K → Q (some (.int (-1))) ly K) ∧ (∀ ch w N : Nat, ch < 6 → (if ch = 3 then w < nw ∧ y = nI w else y = 0) → N ≤ 64 → z = nI N → ∀ K, qR M K → (x = nI ch → Q (some (.int (gr (triR n nw p h0 c0 ca W (fun m => valL m (lw 0).1 (lw 0).2) (fun m => valL m (lw 1).1 (lw 1).2) s w N ch).1 n))) ly K) ∧ (x = nI (6 + ch) → Q (some (.int (gr (triR n nw p h0 c0 ca W (fun m => valL m (lw 0).1 (lw 0).2) (fun m => valL m (lw 1).1 (lw 1).2) s w N ch).2.2.1 n))) ly K))) : Mt G l mX12_tried (8, 0, 0, false) [.ref 149, .int x, .int y, .int z] ly M Q := by
  refine Mt.of (lv := [some (.ref 149), some (.int x), some (.int y), some (.int z), none, none]) rfl ?_
  refine Rn.aload_n dX12_tried_0 rfl ?_
  refine Rn.iconstv (v := 0) dX12_tried_1 ic_0 ?_
  refine Rn.putI dX12_tried_2 fX12_169 rfl rfl rfl (rc149 hR) ?_
  refine Rn.iload_n dX12_tried_5 rfl ?_
  refine Rn.if_lt dX12_tried_6 (fun g1 => ?_) (fun g1 => ?_)
  · skip
    refine Rn.iconstv (v := -1) dX12_tried_25 ic_m1 ?_
    exact Rn.iret (ty := .int) dX12_tried_26 rfl rfl (hQ.1 (fun h => absurd g1 (Int32.not_lt.mpr h.1.1)) _ qR.rf.f0)
  · skip
    refine Rn.iload_n dX12_tried_9 rfl ?_
    refine Rn.bipushv (v := 11) dX12_tried_10 bp_11 ?_
    refine Rn.icmp_gt dX12_tried_12 (fun g2 => ?_) (fun g2 => ?_)
    · skip
      refine Rn.iconstv (v := -1) dX12_tried_25 ic_m1 ?_
      exact Rn.iret (ty := .int) dX12_tried_26 rfl rfl (hQ.1 (fun h => absurd g2 (Int32.not_lt.mpr h.1.2)) _ qR.rf.f0)
    · skip
      refine Rn.iload_n dX12_tried_15 rfl ?_
      refine Rn.if_lt dX12_tried_16 (fun g3 => ?_) (fun g3 => ?_)
      · skip
        refine Rn.iconstv (v := -1) dX12_tried_25 ic_m1 ?_
        exact Rn.iret (ty := .int) dX12_tried_26 rfl rfl (hQ.1 (fun h => absurd g3 (Int32.not_lt.mpr h.2.1.1)) _ qR.rf.f0)
      · skip
        refine Rn.iload_n dX12_tried_19 rfl ?_
        refine Rn.bipushv (v := 64) dX12_tried_20 bp_64 ?_
        refine Rn.icmp_le dX12_tried_22 (fun g4 => ?_) (fun g4 => ?_)
        · skip
          obtain ⟨c, hc, rfl⟩ := nat_of0 (b := 11) (k := 11) rfl (by decide) (Int32.not_lt.mp g1) (Int32.not_lt.mp g2)
          obtain ⟨N, hN, rfl⟩ := nat_of0 (b := 64) (k := 64) rfl (by decide) (Int32.not_lt.mp g3) g4
          obtain ⟨ch, hch, hcc⟩ : ∃ ch : Nat, ch < 6 ∧ (c = ch ∨ c = 6 + ch) := ⟨c % 6, by omega, by omega⟩
          refine Rn.iload_n dX12_tried_27 rfl ?_
          refine Rn.bipushv (v := 6) dX12_tried_28 bp_6 ?_
          refine Rn.irem dX12_tried_30 (by decide) ?_
          refine Rn.topI (y := nI ch) ((i32rem (b := 6) (by omega) (by decide)).trans (congrArg nI (by omega))) ?_
          refine Rn.istore (lv' := [some (.ref 149), some (.int (nI c)), some (.int y), some (.int (nI N)), some (.int (nI ch)), none]) dX12_tried_31 (by decide) rfl ?_
          rcases (show ch = 0 ∨ ch = 1 ∨ ch = 2 ∨ ch = 3 ∨ ch = 4 ∨ ch = 5 by omega) with rfl | rfl | rfl | rfl | rfl | rfl
          · skip
            show Rn G l mX12_tried (8, 0, 0, false) 33 [some (.ref 149), some (.int (nI c)), some (.int y), some (.int (nI N)), some (.int 0), none] [] ly (sI M 149 (upd (M.1 149) 0 0)) Q
            refine Rn.iload dX12_tried_33 rfl ?_
            refine Rn.iconstv (v := 3) dX12_tried_35 ic_3 ?_
            refine Rn.icmp_ne dX12_tried_36 (fun h36 => ?_) (fun h36 => ?_)
            · skip
              refine Rn.iload_n dX12_tried_50 rfl ?_
              refine Rn.if_eq dX12_tried_51 (fun gy => ?_) (fun gy => ?_)
              · skip
                subst gy
                obtain ⟨w, hwd⟩ : ∃ w : Nat, w = 0 := ⟨0, rfl⟩
                have hA := hQ.2 0 w N (by decide) (by rw [if_neg (by decide)]) hN rfl
                clear hQ
                refine Rn.aload_n dX12_tried_56 rfl ?_
                refine Rn.callV0 dX12_tried_57 vX12_447 (rc149 hR) (by decide) rfl (tX12_plain (M := sI M 149 (upd (M.1 149) 0 0)) hR) (by decide) ⟨(Nat.le_of_ble_eq_true rfl), (Nat.le_of_ble_eq_true rfl), (Nat.le_of_ble_eq_true rfl)⟩ (fun h => by cases h) (fun v1 ly1 M1 ⟨q1, q2, q3⟩ => ?_)
                rw [q1, q2, q3]
                have hm0m : md (sI (sI M 149 (upd (M.1 149) 0 0)) 149 (upd (upd (upd (upd (upd ((sI M 149 (upd (M.1 149) 0 0)).1 149) 55 (-1)) 56 0) 57 (-1)) 61 0) 62 0)) (-1) 0 := ⟨rfl, rfl, rfl, rfl⟩
                have hq0m : qR M (sI (sI M 149 (upd (M.1 149) 0 0)) 149 (upd (upd (upd (upd (upd ((sI M 149 (upd (M.1 149) 0 0)).1 149) 55 (-1)) 56 0) 57 (-1)) 61 0) 62 0)) := qR.plain ((qR.rf (M := M)).f0)
                revert hm0m hq0m
                generalize (sI (sI M 149 (upd (M.1 149) 0 0)) 149 (upd (upd (upd (upd (upd ((sI M 149 (upd (M.1 149) 0 0)).1 149) 55 (-1)) 56 0) 57 (-1)) 61 0) 62 0)) = N0
                intro hm0 hq0
                have hRN0 : RW ly N0.2.2 := by rw [hq0.1]; exact hR
                refine Rn.aload_n dX12_tried_60 rfl ?_
                refine Rn.iconstv (v := 1) dX12_tried_61 ic_1 ?_
                refine Rn.iconstv (v := 0) dX12_tried_62 ic_0 ?_
                refine Rn.callV2 dX12_tried_63 vX12_461 (rc149 hRN0) (by decide) rfl (rvNow (M := M) (N := N0) (x := (-1)) (kp := 0) (Q := fun v0 ly0 K => v0 = none ∧ ly0 = ly ∧ Rt M K nw t nf (-1) 0 s fc fk ∧ K.1 171 1 = M.1 171 0) hS hq0 hm0 hRN0 (fun K a c => ⟨rfl, rfl, a, c⟩)) (by decide) ⟨(Nat.le_of_ble_eq_true rfl), (Nat.le_of_ble_eq_true rfl), (Nat.le_of_ble_eq_true rfl)⟩ (fun h => by cases h) (fun v1 ly1 N1 ⟨q1, q2, hT1, hb1⟩ => ?_)
                rw [q1, q2]
                have hRN1 : RW ly N1.2.2 := by rw [hT1.1.1]; exact hR
                refine Rn.aload_n dX12_tried_66 rfl ?_
                refine Rn.getR dX12_tried_67 fX12_79 rfl (rc149 hRN1) (show N1.2.2 149 37 = some 171 from (rpt37 hRN1)) ?_
                refine Rn.iconstv (v := 1) dX12_tried_70 ic_1 ?_
                refine Rn.iload dX12_tried_71 rfl ?_
                refine Rn.iconstv (v := 4) dX12_tried_73 ic_4 ?_
                refine Rn.icmp_ne dX12_tried_74 (fun hb4 => ?_) (fun hb4 => ?_)
                · skip
                  refine Rn.iconstv (v := 0) dX12_tried_81 ic_0 ?_
                  refine Rn.zast dX12_tried_82 (rc171 hRN1) (by unfold vp_in; decide) ?_
                  refine Rn.iconstv (v := 0) dX12_tried_83 ic_0 ?_
                  refine Rn.istore (lv' := [some (.ref 149), some (.int (nI c)), some (.int 0), some (.int (nI N)), some (.int 0), some (.int 0)]) dX12_tried_84 (by decide) rfl ?_
                  refine Rn.meq (M2 := sI N1 171 (upd (N1.1 171) 1 0)) rfl ?_
                  have hT2m : Rt M (sI N1 171 (upd (N1.1 171) 1 0)) nw t nf (-1) 0 s fc fk ∧ (sI N1 171 (upd (N1.1 171) 1 0)).1 171 1 = 0 := ⟨⟨hT1.1.bl, hT1.2.1.eq rfl, hT1.2.2.1, hT1.2.2.2⟩, rfl⟩
                  revert hT2m
                  generalize sI N1 171 (upd (N1.1 171) 1 0) = N2
                  rintro ⟨hT2, hbl2⟩
                  have hRN2 : RW ly N2.2.2 := by rw [hT2.1.1]; exact hR
                  have loop : ∀ (k i : Nat) (K : Mm), i + k = nw → Rt M K nw t nf (-1) 0 (stgS s (s.2.2.2.2.1.2.2.1)) fc fk → K.1 171 1 = 0 → Rn G l mX12_tried (8, 0, 0, false) 86 [some (.ref 149), some (.int (nI c)), some (.int 0), some (.int (nI N)), some (.int 0), some (.int (nI i))] [] ly K Q := by
                    intro k
                    induction k with
                    | zero =>
                      intro i K hi hT hb
                      have hRK : RW ly K.2.2 := by rw [hT.1.1]; exact hR
                      have hnw : K.1 151 6 = nI nw := (hS.q hT.1).nw
                      have hw6 := hS.w6
                      refine Rn.iload dX12_tried_86 rfl ?_
                      refine Rn.aload_n dX12_tried_88 rfl ?_
                      refine Rn.getR dX12_tried_89 fX12_15 rfl (rc149 hRK) (show K.2.2 149 3 = some 151 from (rpt3 hRK)) ?_
                      refine Rn.bipushv (v := 6) dX12_tried_92 bp_6 ?_
                      refine Rn.iald dX12_tried_94 (rc151 hRK) (by unfold vp_in; decide) ?_
                      refine Rn.topI (y := K.1 151 6) (rfl) ?_
                      refine Rn.topI (y := nI nw) (hnw) ?_
                      refine Rn.icmp_ge dX12_tried_95 (fun hc => ?_) (fun hc => ?_)
                      · skip
                        have e0 : i = nw := by omega
                        have hT3 : Rt M K nw t nf (-1) 0 s fc fk := hT
                        refine Rn.aload_n dX12_tried_129 rfl ?_
                        refine Rn.iload dX12_tried_130 rfl ?_
                        refine Rn.putI dX12_tried_132 fX12_126 rfl rfl rfl (rc149 hRK) ?_
                        refine Rn.iconstv (v := 0) dX12_tried_135 ic_0 ?_
                        refine Rn.istore (lv' := [some (.ref 149), some (.int (nI c)), some (.int 0), some (.int (nI N)), some (.int 0), some (.int 0)]) dX12_tried_136 (by decide) rfl ?_
                        have hp := hS.1.q hT3.1
                        have hm3 : md (sI K 149 (upd (K.1 149) 55 0)) 0 0 := ⟨rfl, hT3.2.1.2.1, hT3.2.1.2.2.1, hT3.2.1.2.2.2⟩
                        have hE3 : EVt (sI K 149 (upd (K.1 149) 55 0)).1 1 n nw p (htR 0 h0) 0 ca W (fun m => valL m (lw 0).1 (lw 0).2) (fun m => valL m (lw 1).1 (lw 1).2) := EVt.ofg (N := sI K 149 (upd (K.1 149) 55 0)) (hp.mv (fun a ha => sI_ne (by omega))) hm3 (by decide) hb (ftR.cm (nf := nf) (fc := fc) (fk := fk) hT3.2.2.2 (show ¬ ((0 : Int32) = 1) by decide) (fun c hc => by show mn 100 (cmR (K.1 151 3) fc fk (nI c) nf) = ca c; rw [hp.2.2.2.1]; exact hca c hc)) (fun m => (if_neg (by decide)).symm)
                        have ehet : htR 0 h0 = 0 := rfl
                        rw [ehet] at hE3
                        have hq3 : qR M (sI K 149 (upd (K.1 149) 55 0)) := hT3.1.fj (by decide)
                        have hs3 : rAl (sI K 149 (upd (K.1 149) 55 0)).1 1 nw t (s) := hT3.2.2.1
                        clear hT3 hT
                        revert hm3 hE3 hq3 hs3
                        generalize sI K 149 (upd (K.1 149) 55 0) = N3
                        intro hm3 hE3 hq3 hs3
                        have hRN3 : RW ly N3.2.2 := by rw [hq3.1]; exact hR
                        have loop2 : ∀ (k j : Nat) (K2 : Mm), j + k = N → qR M K2 → md K2 0 0 → EVt K2.1 1 n nw p 0 0 ca W (fun m => valL m (lw 0).1 (lw 0).2) (fun m => valL m (lw 1).1 (lw 1).2) → rAl K2.1 1 nw (t + j) (itF (fun _ => TR n nw p 0 0 ca W (fun m => valL m (lw 0).1 (lw 0).2) (fun m => valL m (lw 1).1 (lw 1).2)) j (s)) → Rn G l mX12_tried (8, 0, 0, false) 138 [some (.ref 149), some (.int (nI c)), some (.int 0), some (.int (nI N)), some (.int 0), some (.int (nI j))] [] ly K2 Q := by
                          intro k
                          induction k with
                          | zero =>
                            intro j K2 hj hq hm hE hs
                            have hRK2 : RW ly K2.2.2 := by rw [hq.1]; exact hR
                            refine Rn.iload dX12_tried_138 rfl ?_
                            refine Rn.iload_n dX12_tried_140 rfl ?_
                            refine Rn.icmp_ge dX12_tried_141 (fun hc2 => ?_) (fun hc2 => ?_)
                            · skip
                              have ej : j = N := by omega
                              rw [ej] at hs
                              refine Rn.aload_n dX12_tried_155 rfl ?_
                              refine Rn.callV0 dX12_tried_156 vX12_447 (rc149 hRK2) (by decide) rfl (tX12_plain (M := K2) hRK2) (by decide) ⟨(Nat.le_of_ble_eq_true rfl), (Nat.le_of_ble_eq_true rfl), (Nat.le_of_ble_eq_true rfl)⟩ (fun h => by cases h) (fun v1 ly1 M1 ⟨q1, q2, q3⟩ => ?_)
                              rw [q1, q2, q3]
                              have hq4m : qR M (sI K2 149 (upd (upd (upd (upd (upd (K2.1 149) 55 (-1)) 56 0) 57 (-1)) 61 0) 62 0)) := qR.plain hq
                              have hs4m : rAl (sI K2 149 (upd (upd (upd (upd (upd (K2.1 149) 55 (-1)) 56 0) 57 (-1)) 61 0) 62 0)).1 1 nw (t + N) (triR n nw p h0 c0 ca W (fun m => valL m (lw 0).1 (lw 0).2) (fun m => valL m (lw 1).1 (lw 1).2) s w N 0) := hs
                              have hn4m : (sI K2 149 (upd (upd (upd (upd (upd (K2.1 149) 55 (-1)) 56 0) 57 (-1)) 61 0) 62 0)).1 151 0 = nI n := hE.1.1
                              revert hq4m hs4m hn4m
                              generalize (sI K2 149 (upd (upd (upd (upd (upd (K2.1 149) 55 (-1)) 56 0) 57 (-1)) 61 0) 62 0)) = N4
                              intro hq4 hs4 hn4
                              have hRN4 : RW ly N4.2.2 := by rw [hq4.1]; exact hR
                              refine Rn.aload_n dX12_tried_159 rfl ?_
                              refine Rn.iconstv (v := 1) dX12_tried_160 ic_1 ?_
                              refine Rn.iload_n dX12_tried_161 rfl ?_
                              refine Rn.bipushv (v := 6) dX12_tried_162 bp_6 ?_
                              refine Rn.icmp_ge dX12_tried_164 (fun hx6 => ?_) (fun hx6 => ?_)
                              · skip
                                have hcx : c = 6 + 0 := hcc.resolve_left (fun h => absurd hx6 (by rw [h]; decide))
                                refine Rn.aload_n dX12_tried_174 rfl ?_
                                refine Rn.getR dX12_tried_175 fX12_92 rfl (rc149 hRN4) (show N4.2.2 149 41 = some 175 from (rpt41 hRN4)) ?_
                                refine Rn.callV2 dX12_tried_178 vX12_457 (rc149 hRN4) (by decide) rfl (tX12_greatest175 (b := 1) (n := n) (M := N4) (by decide) hn4 hS.n.2 hRN4) (by decide) ⟨(Nat.le_of_ble_eq_true rfl), (Nat.le_of_ble_eq_true rfl), (Nat.le_of_ble_eq_true rfl)⟩ (fun h => by cases h) (fun v1 ly1 M1 ⟨q1, q2, q3⟩ => ?_)
                                rw [q1, q2, q3]
                                refine Rn.topI (y := gr (triR n nw p h0 c0 ca W (fun m => valL m (lw 0).1 (lw 0).2) (fun m => valL m (lw 1).1 (lw 1).2) s w N 0).2.2.1 n) (gr_E hs4.2.2.1 n hS.n.2) ?_
                                exact Rn.iret (ty := .int) dX12_tried_181 rfl rfl ((hA N4 hq4).2 (by rw [hcx]))
                              · skip
                                have hcx : c = 0 := hcc.resolve_right (fun h => hx6 (by rw [h]; decide))
                                refine Rn.aload_n dX12_tried_167 rfl ?_
                                refine Rn.getR dX12_tried_168 fX12_86 rfl (rc149 hRN4) (show N4.2.2 149 39 = some 173 from (rpt39 hRN4)) ?_
                                refine Rn.goto dX12_tried_171 ?_
                                refine Rn.callV2 dX12_tried_178 vX12_457 (rc149 hRN4) (by decide) rfl (tX12_greatest173 (b := 1) (n := n) (M := N4) (by decide) hn4 hS.n.2 hRN4) (by decide) ⟨(Nat.le_of_ble_eq_true rfl), (Nat.le_of_ble_eq_true rfl), (Nat.le_of_ble_eq_true rfl)⟩ (fun h => by cases h) (fun v1 ly1 M1 ⟨q1, q2, q3⟩ => ?_)
                                rw [q1, q2, q3]
                                refine Rn.topI (y := gr (triR n nw p h0 c0 ca W (fun m => valL m (lw 0).1 (lw 0).2) (fun m => valL m (lw 1).1 (lw 1).2) s w N 0).1 n) (gr_E hs4.1 n hS.n.2) ?_
                                exact Rn.iret (ty := .int) dX12_tried_181 rfl rfl ((hA N4 hq4).1 (by rw [hcx]))
                            · skip
                              exact absurd (nI_le (a := N) (b := j) (by omega) (by omega)) hc2
                          | succ k ih2 =>
                            intro j K2 hj hq hm hE hs
                            have hRK2 : RW ly K2.2.2 := by rw [hq.1]; exact hR
                            refine Rn.iload dX12_tried_138 rfl ?_
                            refine Rn.iload_n dX12_tried_140 rfl ?_
                            refine Rn.icmp_ge dX12_tried_141 (fun hc2 => ?_) (fun hc2 => ?_)
                            · skip
                              exact absurd hc2 (nI_ge (a := j) (b := N) (by omega) (by omega))
                            · skip
                              refine Rn.aload_n dX12_tried_144 rfl ?_
                              refine Rn.iconstv (v := 1) dX12_tried_145 ic_1 ?_
                              refine Rn.callV1 dX12_tried_146 vX12_454 (rc149 hRK2) (by decide) rfl (rvPass (b := 1) (N := K2) (Q := fun v0 ly0 K3 => v0 = none ∧ ly0 = ly ∧ psF K2 K3 1 ∧ EVt K3.1 1 n nw p 0 0 ca W (fun m => valL m (lw 0).1 (lw 0).2) (fun m => valL m (lw 1).1 (lw 1).2) ∧ rAl K3.1 1 nw (t + j + 1) (itF (fun _ => TR n nw p 0 0 ca W (fun m => valL m (lw 0).1 (lw 0).2) (fun m => valL m (lw 1).1 (lw 1).2)) (j + 1) (s))) (by decide) hE hm.2.2.1 hs (by have := hS.2.2.2.2; omega) hRK2 (fun K3 a c d => ⟨rfl, rfl, a, c, d⟩)) (by decide) ⟨(Nat.le_of_ble_eq_true rfl), (Nat.le_of_ble_eq_true rfl), (Nat.le_of_ble_eq_true rfl)⟩ (fun h => by cases h) (fun v1 ly1 K3 ⟨q1, q2, hF3, hE3, hs3⟩ => ?_)
                              rw [q1, q2]
                              refine Rn.iincN (lv' := [some (.ref 149), some (.int (nI c)), some (.int 0), some (.int (nI N)), some (.int 0), some (.int (nI (j + 1)))]) dX12_tried_149 rfl (by decide) rfl ?_
                              refine Rn.goto dX12_tried_152 ?_
                              exact ih2 (j + 1) K3 (by omega) (hq.tr hF3.q) (hm.ps hF3) hE3 hs3
                        exact loop2 N 0 N3 (by omega) hq3 hm3 hE3 hs3
                      · skip
                        exact absurd (nI_le (a := nw) (b := i) (by omega) (by omega)) hc
                    | succ k ih =>
                      intro i K hi hT hb
                      have hRK : RW ly K.2.2 := by rw [hT.1.1]; exact hR
                      have hnw : K.1 151 6 = nI nw := (hS.q hT.1).nw
                      have hw6 := hS.w6
                      refine Rn.iload dX12_tried_86 rfl ?_
                      refine Rn.aload_n dX12_tried_88 rfl ?_
                      refine Rn.getR dX12_tried_89 fX12_15 rfl (rc149 hRK) (show K.2.2 149 3 = some 151 from (rpt3 hRK)) ?_
                      refine Rn.bipushv (v := 6) dX12_tried_92 bp_6 ?_
                      refine Rn.iald dX12_tried_94 (rc151 hRK) (by unfold vp_in; decide) ?_
                      refine Rn.topI (y := K.1 151 6) (rfl) ?_
                      refine Rn.topI (y := nI nw) (hnw) ?_
                      refine Rn.icmp_ge dX12_tried_95 (fun hc => ?_) (fun hc => ?_)
                      · skip
                        exact absurd hc (nI_ge (a := i) (b := nw) (by omega) (by omega))
                      · skip
                        refine Rn.iload dX12_tried_98 rfl ?_
                        refine Rn.iconstv (v := 2) dX12_tried_100 ic_2 ?_
                        refine Rn.icmp_eq dX12_tried_101 (fun h2 => ?_) (fun h2 => ?_)
                        · skip
                          first | exact absurd h2 (by decide) | exact absurd (by decide) h2
                        · skip
                          refine Rn.iload dX12_tried_104 rfl ?_
                          refine Rn.iconstv (v := 3) dX12_tried_106 ic_3 ?_
                          refine Rn.icmp_ne dX12_tried_107 (fun h3 => ?_) (fun h3 => ?_)
                          · skip
                            refine Rn.iincN (lv' := [some (.ref 149), some (.int (nI c)), some (.int 0), some (.int (nI N)), some (.int 0), some (.int (nI (i + 1)))]) dX12_tried_123 rfl (by decide) rfl ?_
                            refine Rn.goto dX12_tried_126 ?_
                            exact ih (i + 1) K (by omega) (hT) hb
                          · skip
                            first | exact absurd h3 (by decide) | exact absurd (by decide) h3
                  exact loop nw 0 N2 (by omega) hT2 hbl2
                · skip
                  first | exact absurd hb4 (by decide) | exact absurd (by decide) hb4
              · skip
                refine Rn.iconstv (v := -1) dX12_tried_54 ic_m1 ?_
                exact Rn.iret (ty := .int) dX12_tried_55 rfl rfl (hQ.1 (fun h => gy (by have h2 := h.2.2; rw [if_neg (by rcases hcc with rfl | rfl <;> decide)] at h2; exact h2)) _ qR.rf.f0)
            · skip
              first | exact absurd h36 (by decide) | exact absurd (by decide) h36
          · skip
            show Rn G l mX12_tried (8, 0, 0, false) 33 [some (.ref 149), some (.int (nI c)), some (.int y), some (.int (nI N)), some (.int 1), none] [] ly (sI M 149 (upd (M.1 149) 0 0)) Q
            refine Rn.iload dX12_tried_33 rfl ?_
            refine Rn.iconstv (v := 3) dX12_tried_35 ic_3 ?_
            refine Rn.icmp_ne dX12_tried_36 (fun h36 => ?_) (fun h36 => ?_)
            · skip
              refine Rn.iload_n dX12_tried_50 rfl ?_
              refine Rn.if_eq dX12_tried_51 (fun gy => ?_) (fun gy => ?_)
              · skip
                subst gy
                obtain ⟨w, hwd⟩ : ∃ w : Nat, w = 0 := ⟨0, rfl⟩
                have hA := hQ.2 1 w N (by decide) (by rw [if_neg (by decide)]) hN rfl
                clear hQ
                refine Rn.aload_n dX12_tried_56 rfl ?_
                refine Rn.callV0 dX12_tried_57 vX12_447 (rc149 hR) (by decide) rfl (tX12_plain (M := sI M 149 (upd (M.1 149) 0 0)) hR) (by decide) ⟨(Nat.le_of_ble_eq_true rfl), (Nat.le_of_ble_eq_true rfl), (Nat.le_of_ble_eq_true rfl)⟩ (fun h => by cases h) (fun v1 ly1 M1 ⟨q1, q2, q3⟩ => ?_)
                rw [q1, q2, q3]
                have hm0m : md (sI (sI M 149 (upd (M.1 149) 0 0)) 149 (upd (upd (upd (upd (upd ((sI M 149 (upd (M.1 149) 0 0)).1 149) 55 (-1)) 56 0) 57 (-1)) 61 0) 62 0)) (-1) 0 := ⟨rfl, rfl, rfl, rfl⟩
                have hq0m : qR M (sI (sI M 149 (upd (M.1 149) 0 0)) 149 (upd (upd (upd (upd (upd ((sI M 149 (upd (M.1 149) 0 0)).1 149) 55 (-1)) 56 0) 57 (-1)) 61 0) 62 0)) := qR.plain ((qR.rf (M := M)).f0)
                revert hm0m hq0m
                generalize (sI (sI M 149 (upd (M.1 149) 0 0)) 149 (upd (upd (upd (upd (upd ((sI M 149 (upd (M.1 149) 0 0)).1 149) 55 (-1)) 56 0) 57 (-1)) 61 0) 62 0)) = N0
                intro hm0 hq0
                have hRN0 : RW ly N0.2.2 := by rw [hq0.1]; exact hR
                refine Rn.aload_n dX12_tried_60 rfl ?_
                refine Rn.iconstv (v := 1) dX12_tried_61 ic_1 ?_
                refine Rn.iconstv (v := 0) dX12_tried_62 ic_0 ?_
                refine Rn.callV2 dX12_tried_63 vX12_461 (rc149 hRN0) (by decide) rfl (rvNow (M := M) (N := N0) (x := (-1)) (kp := 0) (Q := fun v0 ly0 K => v0 = none ∧ ly0 = ly ∧ Rt M K nw t nf (-1) 0 s fc fk ∧ K.1 171 1 = M.1 171 0) hS hq0 hm0 hRN0 (fun K a c => ⟨rfl, rfl, a, c⟩)) (by decide) ⟨(Nat.le_of_ble_eq_true rfl), (Nat.le_of_ble_eq_true rfl), (Nat.le_of_ble_eq_true rfl)⟩ (fun h => by cases h) (fun v1 ly1 N1 ⟨q1, q2, hT1, hb1⟩ => ?_)
                rw [q1, q2]
                have hRN1 : RW ly N1.2.2 := by rw [hT1.1.1]; exact hR
                refine Rn.aload_n dX12_tried_66 rfl ?_
                refine Rn.getR dX12_tried_67 fX12_79 rfl (rc149 hRN1) (show N1.2.2 149 37 = some 171 from (rpt37 hRN1)) ?_
                refine Rn.iconstv (v := 1) dX12_tried_70 ic_1 ?_
                refine Rn.iload dX12_tried_71 rfl ?_
                refine Rn.iconstv (v := 4) dX12_tried_73 ic_4 ?_
                refine Rn.icmp_ne dX12_tried_74 (fun hb4 => ?_) (fun hb4 => ?_)
                · skip
                  refine Rn.iconstv (v := 0) dX12_tried_81 ic_0 ?_
                  refine Rn.zast dX12_tried_82 (rc171 hRN1) (by unfold vp_in; decide) ?_
                  refine Rn.iconstv (v := 0) dX12_tried_83 ic_0 ?_
                  refine Rn.istore (lv' := [some (.ref 149), some (.int (nI c)), some (.int 0), some (.int (nI N)), some (.int 1), some (.int 0)]) dX12_tried_84 (by decide) rfl ?_
                  refine Rn.meq (M2 := sI N1 171 (upd (N1.1 171) 1 0)) rfl ?_
                  have hT2m : Rt M (sI N1 171 (upd (N1.1 171) 1 0)) nw t nf (-1) 0 s fc fk ∧ (sI N1 171 (upd (N1.1 171) 1 0)).1 171 1 = 0 := ⟨⟨hT1.1.bl, hT1.2.1.eq rfl, hT1.2.2.1, hT1.2.2.2⟩, rfl⟩
                  revert hT2m
                  generalize sI N1 171 (upd (N1.1 171) 1 0) = N2
                  rintro ⟨hT2, hbl2⟩
                  have hRN2 : RW ly N2.2.2 := by rw [hT2.1.1]; exact hR
                  have loop : ∀ (k i : Nat) (K : Mm), i + k = nw → Rt M K nw t nf (-1) 0 (stgS s (s.2.2.2.2.1.2.2.1)) fc fk → K.1 171 1 = 0 → Rn G l mX12_tried (8, 0, 0, false) 86 [some (.ref 149), some (.int (nI c)), some (.int 0), some (.int (nI N)), some (.int 1), some (.int (nI i))] [] ly K Q := by
                    intro k
                    induction k with
                    | zero =>
                      intro i K hi hT hb
                      have hRK : RW ly K.2.2 := by rw [hT.1.1]; exact hR
                      have hnw : K.1 151 6 = nI nw := (hS.q hT.1).nw
                      have hw6 := hS.w6
                      refine Rn.iload dX12_tried_86 rfl ?_
                      refine Rn.aload_n dX12_tried_88 rfl ?_
                      refine Rn.getR dX12_tried_89 fX12_15 rfl (rc149 hRK) (show K.2.2 149 3 = some 151 from (rpt3 hRK)) ?_
                      refine Rn.bipushv (v := 6) dX12_tried_92 bp_6 ?_
                      refine Rn.iald dX12_tried_94 (rc151 hRK) (by unfold vp_in; decide) ?_
                      refine Rn.topI (y := K.1 151 6) (rfl) ?_
                      refine Rn.topI (y := nI nw) (hnw) ?_
                      refine Rn.icmp_ge dX12_tried_95 (fun hc => ?_) (fun hc => ?_)
                      · skip
                        have e0 : i = nw := by omega
                        have hT3 : Rt M K nw t nf (-1) 0 s fc fk := hT
                        refine Rn.aload_n dX12_tried_129 rfl ?_
                        refine Rn.iload dX12_tried_130 rfl ?_
                        refine Rn.putI dX12_tried_132 fX12_126 rfl rfl rfl (rc149 hRK) ?_
                        refine Rn.iconstv (v := 0) dX12_tried_135 ic_0 ?_
                        refine Rn.istore (lv' := [some (.ref 149), some (.int (nI c)), some (.int 0), some (.int (nI N)), some (.int 1), some (.int 0)]) dX12_tried_136 (by decide) rfl ?_
                        have hp := hS.1.q hT3.1
                        have hm3 : md (sI K 149 (upd (K.1 149) 55 1)) 1 0 := ⟨rfl, hT3.2.1.2.1, hT3.2.1.2.2.1, hT3.2.1.2.2.2⟩
                        have hE3 : EVt (sI K 149 (upd (K.1 149) 55 1)).1 1 n nw p (htR 1 h0) 0 (fun _ => mn 100 c0) W (fun m => valL m (lw 0).1 (lw 0).2) (fun m => valL m (lw 1).1 (lw 1).2) := EVt.ofg (N := sI K 149 (upd (K.1 149) 55 1)) (hp.mv (fun a ha => sI_ne (by omega))) hm3 (by decide) hb (Or.inl ⟨rfl, fun c hc => by show mn 100 (K.1 151 3) = mn 100 c0; rw [hp.2.2.2.1]⟩) (fun m => (if_neg (by decide)).symm)
                        have ehet : htR 1 h0 = h0 := if_neg (by decide)
                        rw [ehet] at hE3
                        have hq3 : qR M (sI K 149 (upd (K.1 149) 55 1)) := hT3.1.fj (by decide)
                        have hs3 : rAl (sI K 149 (upd (K.1 149) 55 1)).1 1 nw t (s) := hT3.2.2.1
                        clear hT3 hT
                        revert hm3 hE3 hq3 hs3
                        generalize sI K 149 (upd (K.1 149) 55 1) = N3
                        intro hm3 hE3 hq3 hs3
                        have hRN3 : RW ly N3.2.2 := by rw [hq3.1]; exact hR
                        have loop2 : ∀ (k j : Nat) (K2 : Mm), j + k = N → qR M K2 → md K2 1 0 → EVt K2.1 1 n nw p h0 0 (fun _ => mn 100 c0) W (fun m => valL m (lw 0).1 (lw 0).2) (fun m => valL m (lw 1).1 (lw 1).2) → rAl K2.1 1 nw (t + j) (itF (fun _ => TR n nw p h0 0 (fun _ => mn 100 c0) W (fun m => valL m (lw 0).1 (lw 0).2) (fun m => valL m (lw 1).1 (lw 1).2)) j (s)) → Rn G l mX12_tried (8, 0, 0, false) 138 [some (.ref 149), some (.int (nI c)), some (.int 0), some (.int (nI N)), some (.int 1), some (.int (nI j))] [] ly K2 Q := by
                          intro k
                          induction k with
                          | zero =>
                            intro j K2 hj hq hm hE hs
                            have hRK2 : RW ly K2.2.2 := by rw [hq.1]; exact hR
                            refine Rn.iload dX12_tried_138 rfl ?_
                            refine Rn.iload_n dX12_tried_140 rfl ?_
                            refine Rn.icmp_ge dX12_tried_141 (fun hc2 => ?_) (fun hc2 => ?_)
                            · skip
                              have ej : j = N := by omega
                              rw [ej] at hs
                              refine Rn.aload_n dX12_tried_155 rfl ?_
                              refine Rn.callV0 dX12_tried_156 vX12_447 (rc149 hRK2) (by decide) rfl (tX12_plain (M := K2) hRK2) (by decide) ⟨(Nat.le_of_ble_eq_true rfl), (Nat.le_of_ble_eq_true rfl), (Nat.le_of_ble_eq_true rfl)⟩ (fun h => by cases h) (fun v1 ly1 M1 ⟨q1, q2, q3⟩ => ?_)
                              rw [q1, q2, q3]
                              have hq4m : qR M (sI K2 149 (upd (upd (upd (upd (upd (K2.1 149) 55 (-1)) 56 0) 57 (-1)) 61 0) 62 0)) := qR.plain hq
                              have hs4m : rAl (sI K2 149 (upd (upd (upd (upd (upd (K2.1 149) 55 (-1)) 56 0) 57 (-1)) 61 0) 62 0)).1 1 nw (t + N) (triR n nw p h0 c0 ca W (fun m => valL m (lw 0).1 (lw 0).2) (fun m => valL m (lw 1).1 (lw 1).2) s w N 1) := hs
                              have hn4m : (sI K2 149 (upd (upd (upd (upd (upd (K2.1 149) 55 (-1)) 56 0) 57 (-1)) 61 0) 62 0)).1 151 0 = nI n := hE.1.1
                              revert hq4m hs4m hn4m
                              generalize (sI K2 149 (upd (upd (upd (upd (upd (K2.1 149) 55 (-1)) 56 0) 57 (-1)) 61 0) 62 0)) = N4
                              intro hq4 hs4 hn4
                              have hRN4 : RW ly N4.2.2 := by rw [hq4.1]; exact hR
                              refine Rn.aload_n dX12_tried_159 rfl ?_
                              refine Rn.iconstv (v := 1) dX12_tried_160 ic_1 ?_
                              refine Rn.iload_n dX12_tried_161 rfl ?_
                              refine Rn.bipushv (v := 6) dX12_tried_162 bp_6 ?_
                              refine Rn.icmp_ge dX12_tried_164 (fun hx6 => ?_) (fun hx6 => ?_)
                              · skip
                                have hcx : c = 6 + 1 := hcc.resolve_left (fun h => absurd hx6 (by rw [h]; decide))
                                refine Rn.aload_n dX12_tried_174 rfl ?_
                                refine Rn.getR dX12_tried_175 fX12_92 rfl (rc149 hRN4) (show N4.2.2 149 41 = some 175 from (rpt41 hRN4)) ?_
                                refine Rn.callV2 dX12_tried_178 vX12_457 (rc149 hRN4) (by decide) rfl (tX12_greatest175 (b := 1) (n := n) (M := N4) (by decide) hn4 hS.n.2 hRN4) (by decide) ⟨(Nat.le_of_ble_eq_true rfl), (Nat.le_of_ble_eq_true rfl), (Nat.le_of_ble_eq_true rfl)⟩ (fun h => by cases h) (fun v1 ly1 M1 ⟨q1, q2, q3⟩ => ?_)
                                rw [q1, q2, q3]
                                refine Rn.topI (y := gr (triR n nw p h0 c0 ca W (fun m => valL m (lw 0).1 (lw 0).2) (fun m => valL m (lw 1).1 (lw 1).2) s w N 1).2.2.1 n) (gr_E hs4.2.2.1 n hS.n.2) ?_
                                exact Rn.iret (ty := .int) dX12_tried_181 rfl rfl ((hA N4 hq4).2 (by rw [hcx]))
                              · skip
                                have hcx : c = 1 := hcc.resolve_right (fun h => hx6 (by rw [h]; decide))
                                refine Rn.aload_n dX12_tried_167 rfl ?_
                                refine Rn.getR dX12_tried_168 fX12_86 rfl (rc149 hRN4) (show N4.2.2 149 39 = some 173 from (rpt39 hRN4)) ?_
                                refine Rn.goto dX12_tried_171 ?_
                                refine Rn.callV2 dX12_tried_178 vX12_457 (rc149 hRN4) (by decide) rfl (tX12_greatest173 (b := 1) (n := n) (M := N4) (by decide) hn4 hS.n.2 hRN4) (by decide) ⟨(Nat.le_of_ble_eq_true rfl), (Nat.le_of_ble_eq_true rfl), (Nat.le_of_ble_eq_true rfl)⟩ (fun h => by cases h) (fun v1 ly1 M1 ⟨q1, q2, q3⟩ => ?_)
                                rw [q1, q2, q3]
                                refine Rn.topI (y := gr (triR n nw p h0 c0 ca W (fun m => valL m (lw 0).1 (lw 0).2) (fun m => valL m (lw 1).1 (lw 1).2) s w N 1).1 n) (gr_E hs4.1 n hS.n.2) ?_
                                exact Rn.iret (ty := .int) dX12_tried_181 rfl rfl ((hA N4 hq4).1 (by rw [hcx]))
                            · skip
                              exact absurd (nI_le (a := N) (b := j) (by omega) (by omega)) hc2
                          | succ k ih2 =>
                            intro j K2 hj hq hm hE hs
                            have hRK2 : RW ly K2.2.2 := by rw [hq.1]; exact hR
                            refine Rn.iload dX12_tried_138 rfl ?_
                            refine Rn.iload_n dX12_tried_140 rfl ?_
                            refine Rn.icmp_ge dX12_tried_141 (fun hc2 => ?_) (fun hc2 => ?_)
                            · skip
                              exact absurd hc2 (nI_ge (a := j) (b := N) (by omega) (by omega))
                            · skip
                              refine Rn.aload_n dX12_tried_144 rfl ?_
                              refine Rn.iconstv (v := 1) dX12_tried_145 ic_1 ?_
                              refine Rn.callV1 dX12_tried_146 vX12_454 (rc149 hRK2) (by decide) rfl (rvPass (b := 1) (N := K2) (Q := fun v0 ly0 K3 => v0 = none ∧ ly0 = ly ∧ psF K2 K3 1 ∧ EVt K3.1 1 n nw p h0 0 (fun _ => mn 100 c0) W (fun m => valL m (lw 0).1 (lw 0).2) (fun m => valL m (lw 1).1 (lw 1).2) ∧ rAl K3.1 1 nw (t + j + 1) (itF (fun _ => TR n nw p h0 0 (fun _ => mn 100 c0) W (fun m => valL m (lw 0).1 (lw 0).2) (fun m => valL m (lw 1).1 (lw 1).2)) (j + 1) (s))) (by decide) hE hm.2.2.1 hs (by have := hS.2.2.2.2; omega) hRK2 (fun K3 a c d => ⟨rfl, rfl, a, c, d⟩)) (by decide) ⟨(Nat.le_of_ble_eq_true rfl), (Nat.le_of_ble_eq_true rfl), (Nat.le_of_ble_eq_true rfl)⟩ (fun h => by cases h) (fun v1 ly1 K3 ⟨q1, q2, hF3, hE3, hs3⟩ => ?_)
                              rw [q1, q2]
                              refine Rn.iincN (lv' := [some (.ref 149), some (.int (nI c)), some (.int 0), some (.int (nI N)), some (.int 1), some (.int (nI (j + 1)))]) dX12_tried_149 rfl (by decide) rfl ?_
                              refine Rn.goto dX12_tried_152 ?_
                              exact ih2 (j + 1) K3 (by omega) (hq.tr hF3.q) (hm.ps hF3) hE3 hs3
                        exact loop2 N 0 N3 (by omega) hq3 hm3 hE3 hs3
                      · skip
                        exact absurd (nI_le (a := nw) (b := i) (by omega) (by omega)) hc
                    | succ k ih =>
                      intro i K hi hT hb
                      have hRK : RW ly K.2.2 := by rw [hT.1.1]; exact hR
                      have hnw : K.1 151 6 = nI nw := (hS.q hT.1).nw
                      have hw6 := hS.w6
                      refine Rn.iload dX12_tried_86 rfl ?_
                      refine Rn.aload_n dX12_tried_88 rfl ?_
                      refine Rn.getR dX12_tried_89 fX12_15 rfl (rc149 hRK) (show K.2.2 149 3 = some 151 from (rpt3 hRK)) ?_
                      refine Rn.bipushv (v := 6) dX12_tried_92 bp_6 ?_
                      refine Rn.iald dX12_tried_94 (rc151 hRK) (by unfold vp_in; decide) ?_
                      refine Rn.topI (y := K.1 151 6) (rfl) ?_
                      refine Rn.topI (y := nI nw) (hnw) ?_
                      refine Rn.icmp_ge dX12_tried_95 (fun hc => ?_) (fun hc => ?_)
                      · skip
                        exact absurd hc (nI_ge (a := i) (b := nw) (by omega) (by omega))
                      · skip
                        refine Rn.iload dX12_tried_98 rfl ?_
                        refine Rn.iconstv (v := 2) dX12_tried_100 ic_2 ?_
                        refine Rn.icmp_eq dX12_tried_101 (fun h2 => ?_) (fun h2 => ?_)
                        · skip
                          first | exact absurd h2 (by decide) | exact absurd (by decide) h2
                        · skip
                          refine Rn.iload dX12_tried_104 rfl ?_
                          refine Rn.iconstv (v := 3) dX12_tried_106 ic_3 ?_
                          refine Rn.icmp_ne dX12_tried_107 (fun h3 => ?_) (fun h3 => ?_)
                          · skip
                            refine Rn.iincN (lv' := [some (.ref 149), some (.int (nI c)), some (.int 0), some (.int (nI N)), some (.int 1), some (.int (nI (i + 1)))]) dX12_tried_123 rfl (by decide) rfl ?_
                            refine Rn.goto dX12_tried_126 ?_
                            exact ih (i + 1) K (by omega) (hT) hb
                          · skip
                            first | exact absurd h3 (by decide) | exact absurd (by decide) h3
                  exact loop nw 0 N2 (by omega) hT2 hbl2
                · skip
                  first | exact absurd hb4 (by decide) | exact absurd (by decide) hb4
              · skip
                refine Rn.iconstv (v := -1) dX12_tried_54 ic_m1 ?_
                exact Rn.iret (ty := .int) dX12_tried_55 rfl rfl (hQ.1 (fun h => gy (by have h2 := h.2.2; rw [if_neg (by rcases hcc with rfl | rfl <;> decide)] at h2; exact h2)) _ qR.rf.f0)
            · skip
              first | exact absurd h36 (by decide) | exact absurd (by decide) h36
          · skip
            show Rn G l mX12_tried (8, 0, 0, false) 33 [some (.ref 149), some (.int (nI c)), some (.int y), some (.int (nI N)), some (.int 2), none] [] ly (sI M 149 (upd (M.1 149) 0 0)) Q
            refine Rn.iload dX12_tried_33 rfl ?_
            refine Rn.iconstv (v := 3) dX12_tried_35 ic_3 ?_
            refine Rn.icmp_ne dX12_tried_36 (fun h36 => ?_) (fun h36 => ?_)
            · skip
              refine Rn.iload_n dX12_tried_50 rfl ?_
              refine Rn.if_eq dX12_tried_51 (fun gy => ?_) (fun gy => ?_)
              · skip
                subst gy
                obtain ⟨w, hwd⟩ : ∃ w : Nat, w = 0 := ⟨0, rfl⟩
                have hA := hQ.2 2 w N (by decide) (by rw [if_neg (by decide)]) hN rfl
                clear hQ
                refine Rn.aload_n dX12_tried_56 rfl ?_
                refine Rn.callV0 dX12_tried_57 vX12_447 (rc149 hR) (by decide) rfl (tX12_plain (M := sI M 149 (upd (M.1 149) 0 0)) hR) (by decide) ⟨(Nat.le_of_ble_eq_true rfl), (Nat.le_of_ble_eq_true rfl), (Nat.le_of_ble_eq_true rfl)⟩ (fun h => by cases h) (fun v1 ly1 M1 ⟨q1, q2, q3⟩ => ?_)
                rw [q1, q2, q3]
                have hm0m : md (sI (sI M 149 (upd (M.1 149) 0 0)) 149 (upd (upd (upd (upd (upd ((sI M 149 (upd (M.1 149) 0 0)).1 149) 55 (-1)) 56 0) 57 (-1)) 61 0) 62 0)) (-1) 0 := ⟨rfl, rfl, rfl, rfl⟩
                have hq0m : qR M (sI (sI M 149 (upd (M.1 149) 0 0)) 149 (upd (upd (upd (upd (upd ((sI M 149 (upd (M.1 149) 0 0)).1 149) 55 (-1)) 56 0) 57 (-1)) 61 0) 62 0)) := qR.plain ((qR.rf (M := M)).f0)
                revert hm0m hq0m
                generalize (sI (sI M 149 (upd (M.1 149) 0 0)) 149 (upd (upd (upd (upd (upd ((sI M 149 (upd (M.1 149) 0 0)).1 149) 55 (-1)) 56 0) 57 (-1)) 61 0) 62 0)) = N0
                intro hm0 hq0
                have hRN0 : RW ly N0.2.2 := by rw [hq0.1]; exact hR
                refine Rn.aload_n dX12_tried_60 rfl ?_
                refine Rn.iconstv (v := 1) dX12_tried_61 ic_1 ?_
                refine Rn.iconstv (v := 0) dX12_tried_62 ic_0 ?_
                refine Rn.callV2 dX12_tried_63 vX12_461 (rc149 hRN0) (by decide) rfl (rvNow (M := M) (N := N0) (x := (-1)) (kp := 0) (Q := fun v0 ly0 K => v0 = none ∧ ly0 = ly ∧ Rt M K nw t nf (-1) 0 s fc fk ∧ K.1 171 1 = M.1 171 0) hS hq0 hm0 hRN0 (fun K a c => ⟨rfl, rfl, a, c⟩)) (by decide) ⟨(Nat.le_of_ble_eq_true rfl), (Nat.le_of_ble_eq_true rfl), (Nat.le_of_ble_eq_true rfl)⟩ (fun h => by cases h) (fun v1 ly1 N1 ⟨q1, q2, hT1, hb1⟩ => ?_)
                rw [q1, q2]
                have hRN1 : RW ly N1.2.2 := by rw [hT1.1.1]; exact hR
                refine Rn.aload_n dX12_tried_66 rfl ?_
                refine Rn.getR dX12_tried_67 fX12_79 rfl (rc149 hRN1) (show N1.2.2 149 37 = some 171 from (rpt37 hRN1)) ?_
                refine Rn.iconstv (v := 1) dX12_tried_70 ic_1 ?_
                refine Rn.iload dX12_tried_71 rfl ?_
                refine Rn.iconstv (v := 4) dX12_tried_73 ic_4 ?_
                refine Rn.icmp_ne dX12_tried_74 (fun hb4 => ?_) (fun hb4 => ?_)
                · skip
                  refine Rn.iconstv (v := 0) dX12_tried_81 ic_0 ?_
                  refine Rn.zast dX12_tried_82 (rc171 hRN1) (by unfold vp_in; decide) ?_
                  refine Rn.iconstv (v := 0) dX12_tried_83 ic_0 ?_
                  refine Rn.istore (lv' := [some (.ref 149), some (.int (nI c)), some (.int 0), some (.int (nI N)), some (.int 2), some (.int 0)]) dX12_tried_84 (by decide) rfl ?_
                  refine Rn.meq (M2 := sI N1 171 (upd (N1.1 171) 1 0)) rfl ?_
                  have hT2m : Rt M (sI N1 171 (upd (N1.1 171) 1 0)) nw t nf (-1) 0 s fc fk ∧ (sI N1 171 (upd (N1.1 171) 1 0)).1 171 1 = 0 := ⟨⟨hT1.1.bl, hT1.2.1.eq rfl, hT1.2.2.1, hT1.2.2.2⟩, rfl⟩
                  revert hT2m
                  generalize sI N1 171 (upd (N1.1 171) 1 0) = N2
                  rintro ⟨hT2, hbl2⟩
                  have hRN2 : RW ly N2.2.2 := by rw [hT2.1.1]; exact hR
                  have loop : ∀ (k i : Nat) (K : Mm), i + k = nw → Rt M K nw t nf (-1) 0 (stgS s (lvO 0 s.2.2.2.2.1.2.2.1 i)) fc fk → K.1 171 1 = 0 → Rn G l mX12_tried (8, 0, 0, false) 86 [some (.ref 149), some (.int (nI c)), some (.int 0), some (.int (nI N)), some (.int 2), some (.int (nI i))] [] ly K Q := by
                    intro k
                    induction k with
                    | zero =>
                      intro i K hi hT hb
                      have hRK : RW ly K.2.2 := by rw [hT.1.1]; exact hR
                      have hnw : K.1 151 6 = nI nw := (hS.q hT.1).nw
                      have hw6 := hS.w6
                      refine Rn.iload dX12_tried_86 rfl ?_
                      refine Rn.aload_n dX12_tried_88 rfl ?_
                      refine Rn.getR dX12_tried_89 fX12_15 rfl (rc149 hRK) (show K.2.2 149 3 = some 151 from (rpt3 hRK)) ?_
                      refine Rn.bipushv (v := 6) dX12_tried_92 bp_6 ?_
                      refine Rn.iald dX12_tried_94 (rc151 hRK) (by unfold vp_in; decide) ?_
                      refine Rn.topI (y := K.1 151 6) (rfl) ?_
                      refine Rn.topI (y := nI nw) (hnw) ?_
                      refine Rn.icmp_ge dX12_tried_95 (fun hc => ?_) (fun hc => ?_)
                      · skip
                        have e0 : i = nw := by omega
                        have hT3 : Rt M K nw t nf (-1) 0 (stgS s (lvO 0 s.2.2.2.2.1.2.2.1 6)) fc fk := hT.sg (fun w hw => by rw [lvO_at, lvO_at, if_pos ⟨by omega, z6 w (by omega)⟩, if_pos ⟨by omega, z6 w (by omega)⟩])
                        refine Rn.aload_n dX12_tried_129 rfl ?_
                        refine Rn.iload dX12_tried_130 rfl ?_
                        refine Rn.putI dX12_tried_132 fX12_126 rfl rfl rfl (rc149 hRK) ?_
                        refine Rn.iconstv (v := 0) dX12_tried_135 ic_0 ?_
                        refine Rn.istore (lv' := [some (.ref 149), some (.int (nI c)), some (.int 0), some (.int (nI N)), some (.int 2), some (.int 0)]) dX12_tried_136 (by decide) rfl ?_
                        have hp := hS.1.q hT3.1
                        have hm3 : md (sI K 149 (upd (K.1 149) 55 2)) 2 0 := ⟨rfl, hT3.2.1.2.1, hT3.2.1.2.2.1, hT3.2.1.2.2.2⟩
                        have hE3 : EVt (sI K 149 (upd (K.1 149) 55 2)).1 1 n nw p (htR 2 h0) 0 ca W (fun m => valL m (lw 0).1 (lw 0).2) (fun m => valL m (lw 1).1 (lw 1).2) := EVt.ofg (N := sI K 149 (upd (K.1 149) 55 2)) (hp.mv (fun a ha => sI_ne (by omega))) hm3 (by decide) hb (ftR.cm (nf := nf) (fc := fc) (fk := fk) hT3.2.2.2 (show ¬ ((2 : Int32) = 1) by decide) (fun c hc => by show mn 100 (cmR (K.1 151 3) fc fk (nI c) nf) = ca c; rw [hp.2.2.2.1]; exact hca c hc)) (fun m => (if_neg (by decide)).symm)
                        have ehet : htR 2 h0 = h0 := if_neg (by decide)
                        rw [ehet] at hE3
                        have hq3 : qR M (sI K 149 (upd (K.1 149) 55 2)) := hT3.1.fj (by decide)
                        have hs3 : rAl (sI K 149 (upd (K.1 149) 55 2)).1 1 nw t (stgS s (lvO 0 s.2.2.2.2.1.2.2.1 6)) := hT3.2.2.1
                        clear hT3 hT
                        revert hm3 hE3 hq3 hs3
                        generalize sI K 149 (upd (K.1 149) 55 2) = N3
                        intro hm3 hE3 hq3 hs3
                        have hRN3 : RW ly N3.2.2 := by rw [hq3.1]; exact hR
                        have loop2 : ∀ (k j : Nat) (K2 : Mm), j + k = N → qR M K2 → md K2 2 0 → EVt K2.1 1 n nw p h0 0 ca W (fun m => valL m (lw 0).1 (lw 0).2) (fun m => valL m (lw 1).1 (lw 1).2) → rAl K2.1 1 nw (t + j) (itF (fun _ => TR n nw p h0 0 ca W (fun m => valL m (lw 0).1 (lw 0).2) (fun m => valL m (lw 1).1 (lw 1).2)) j (stgS s (lvO 0 s.2.2.2.2.1.2.2.1 6))) → Rn G l mX12_tried (8, 0, 0, false) 138 [some (.ref 149), some (.int (nI c)), some (.int 0), some (.int (nI N)), some (.int 2), some (.int (nI j))] [] ly K2 Q := by
                          intro k
                          induction k with
                          | zero =>
                            intro j K2 hj hq hm hE hs
                            have hRK2 : RW ly K2.2.2 := by rw [hq.1]; exact hR
                            refine Rn.iload dX12_tried_138 rfl ?_
                            refine Rn.iload_n dX12_tried_140 rfl ?_
                            refine Rn.icmp_ge dX12_tried_141 (fun hc2 => ?_) (fun hc2 => ?_)
                            · skip
                              have ej : j = N := by omega
                              rw [ej] at hs
                              refine Rn.aload_n dX12_tried_155 rfl ?_
                              refine Rn.callV0 dX12_tried_156 vX12_447 (rc149 hRK2) (by decide) rfl (tX12_plain (M := K2) hRK2) (by decide) ⟨(Nat.le_of_ble_eq_true rfl), (Nat.le_of_ble_eq_true rfl), (Nat.le_of_ble_eq_true rfl)⟩ (fun h => by cases h) (fun v1 ly1 M1 ⟨q1, q2, q3⟩ => ?_)
                              rw [q1, q2, q3]
                              have hq4m : qR M (sI K2 149 (upd (upd (upd (upd (upd (K2.1 149) 55 (-1)) 56 0) 57 (-1)) 61 0) 62 0)) := qR.plain hq
                              have hs4m : rAl (sI K2 149 (upd (upd (upd (upd (upd (K2.1 149) 55 (-1)) 56 0) 57 (-1)) 61 0) 62 0)).1 1 nw (t + N) (triR n nw p h0 c0 ca W (fun m => valL m (lw 0).1 (lw 0).2) (fun m => valL m (lw 1).1 (lw 1).2) s w N 2) := hs
                              have hn4m : (sI K2 149 (upd (upd (upd (upd (upd (K2.1 149) 55 (-1)) 56 0) 57 (-1)) 61 0) 62 0)).1 151 0 = nI n := hE.1.1
                              revert hq4m hs4m hn4m
                              generalize (sI K2 149 (upd (upd (upd (upd (upd (K2.1 149) 55 (-1)) 56 0) 57 (-1)) 61 0) 62 0)) = N4
                              intro hq4 hs4 hn4
                              have hRN4 : RW ly N4.2.2 := by rw [hq4.1]; exact hR
                              refine Rn.aload_n dX12_tried_159 rfl ?_
                              refine Rn.iconstv (v := 1) dX12_tried_160 ic_1 ?_
                              refine Rn.iload_n dX12_tried_161 rfl ?_
                              refine Rn.bipushv (v := 6) dX12_tried_162 bp_6 ?_
                              refine Rn.icmp_ge dX12_tried_164 (fun hx6 => ?_) (fun hx6 => ?_)
                              · skip
                                have hcx : c = 6 + 2 := hcc.resolve_left (fun h => absurd hx6 (by rw [h]; decide))
                                refine Rn.aload_n dX12_tried_174 rfl ?_
                                refine Rn.getR dX12_tried_175 fX12_92 rfl (rc149 hRN4) (show N4.2.2 149 41 = some 175 from (rpt41 hRN4)) ?_
                                refine Rn.callV2 dX12_tried_178 vX12_457 (rc149 hRN4) (by decide) rfl (tX12_greatest175 (b := 1) (n := n) (M := N4) (by decide) hn4 hS.n.2 hRN4) (by decide) ⟨(Nat.le_of_ble_eq_true rfl), (Nat.le_of_ble_eq_true rfl), (Nat.le_of_ble_eq_true rfl)⟩ (fun h => by cases h) (fun v1 ly1 M1 ⟨q1, q2, q3⟩ => ?_)
                                rw [q1, q2, q3]
                                refine Rn.topI (y := gr (triR n nw p h0 c0 ca W (fun m => valL m (lw 0).1 (lw 0).2) (fun m => valL m (lw 1).1 (lw 1).2) s w N 2).2.2.1 n) (gr_E hs4.2.2.1 n hS.n.2) ?_
                                exact Rn.iret (ty := .int) dX12_tried_181 rfl rfl ((hA N4 hq4).2 (by rw [hcx]))
                              · skip
                                have hcx : c = 2 := hcc.resolve_right (fun h => hx6 (by rw [h]; decide))
                                refine Rn.aload_n dX12_tried_167 rfl ?_
                                refine Rn.getR dX12_tried_168 fX12_86 rfl (rc149 hRN4) (show N4.2.2 149 39 = some 173 from (rpt39 hRN4)) ?_
                                refine Rn.goto dX12_tried_171 ?_
                                refine Rn.callV2 dX12_tried_178 vX12_457 (rc149 hRN4) (by decide) rfl (tX12_greatest173 (b := 1) (n := n) (M := N4) (by decide) hn4 hS.n.2 hRN4) (by decide) ⟨(Nat.le_of_ble_eq_true rfl), (Nat.le_of_ble_eq_true rfl), (Nat.le_of_ble_eq_true rfl)⟩ (fun h => by cases h) (fun v1 ly1 M1 ⟨q1, q2, q3⟩ => ?_)
                                rw [q1, q2, q3]
                                refine Rn.topI (y := gr (triR n nw p h0 c0 ca W (fun m => valL m (lw 0).1 (lw 0).2) (fun m => valL m (lw 1).1 (lw 1).2) s w N 2).1 n) (gr_E hs4.1 n hS.n.2) ?_
                                exact Rn.iret (ty := .int) dX12_tried_181 rfl rfl ((hA N4 hq4).1 (by rw [hcx]))
                            · skip
                              exact absurd (nI_le (a := N) (b := j) (by omega) (by omega)) hc2
                          | succ k ih2 =>
                            intro j K2 hj hq hm hE hs
                            have hRK2 : RW ly K2.2.2 := by rw [hq.1]; exact hR
                            refine Rn.iload dX12_tried_138 rfl ?_
                            refine Rn.iload_n dX12_tried_140 rfl ?_
                            refine Rn.icmp_ge dX12_tried_141 (fun hc2 => ?_) (fun hc2 => ?_)
                            · skip
                              exact absurd hc2 (nI_ge (a := j) (b := N) (by omega) (by omega))
                            · skip
                              refine Rn.aload_n dX12_tried_144 rfl ?_
                              refine Rn.iconstv (v := 1) dX12_tried_145 ic_1 ?_
                              refine Rn.callV1 dX12_tried_146 vX12_454 (rc149 hRK2) (by decide) rfl (rvPass (b := 1) (N := K2) (Q := fun v0 ly0 K3 => v0 = none ∧ ly0 = ly ∧ psF K2 K3 1 ∧ EVt K3.1 1 n nw p h0 0 ca W (fun m => valL m (lw 0).1 (lw 0).2) (fun m => valL m (lw 1).1 (lw 1).2) ∧ rAl K3.1 1 nw (t + j + 1) (itF (fun _ => TR n nw p h0 0 ca W (fun m => valL m (lw 0).1 (lw 0).2) (fun m => valL m (lw 1).1 (lw 1).2)) (j + 1) (stgS s (lvO 0 s.2.2.2.2.1.2.2.1 6)))) (by decide) hE hm.2.2.1 hs (by have := hS.2.2.2.2; omega) hRK2 (fun K3 a c d => ⟨rfl, rfl, a, c, d⟩)) (by decide) ⟨(Nat.le_of_ble_eq_true rfl), (Nat.le_of_ble_eq_true rfl), (Nat.le_of_ble_eq_true rfl)⟩ (fun h => by cases h) (fun v1 ly1 K3 ⟨q1, q2, hF3, hE3, hs3⟩ => ?_)
                              rw [q1, q2]
                              refine Rn.iincN (lv' := [some (.ref 149), some (.int (nI c)), some (.int 0), some (.int (nI N)), some (.int 2), some (.int (nI (j + 1)))]) dX12_tried_149 rfl (by decide) rfl ?_
                              refine Rn.goto dX12_tried_152 ?_
                              exact ih2 (j + 1) K3 (by omega) (hq.tr hF3.q) (hm.ps hF3) hE3 hs3
                        exact loop2 N 0 N3 (by omega) hq3 hm3 hE3 hs3
                      · skip
                        exact absurd (nI_le (a := nw) (b := i) (by omega) (by omega)) hc
                    | succ k ih =>
                      intro i K hi hT hb
                      have hRK : RW ly K.2.2 := by rw [hT.1.1]; exact hR
                      have hnw : K.1 151 6 = nI nw := (hS.q hT.1).nw
                      have hw6 := hS.w6
                      refine Rn.iload dX12_tried_86 rfl ?_
                      refine Rn.aload_n dX12_tried_88 rfl ?_
                      refine Rn.getR dX12_tried_89 fX12_15 rfl (rc149 hRK) (show K.2.2 149 3 = some 151 from (rpt3 hRK)) ?_
                      refine Rn.bipushv (v := 6) dX12_tried_92 bp_6 ?_
                      refine Rn.iald dX12_tried_94 (rc151 hRK) (by unfold vp_in; decide) ?_
                      refine Rn.topI (y := K.1 151 6) (rfl) ?_
                      refine Rn.topI (y := nI nw) (hnw) ?_
                      refine Rn.icmp_ge dX12_tried_95 (fun hc => ?_) (fun hc => ?_)
                      · skip
                        exact absurd hc (nI_ge (a := i) (b := nw) (by omega) (by omega))
                      · skip
                        refine Rn.iload dX12_tried_98 rfl ?_
                        refine Rn.iconstv (v := 2) dX12_tried_100 ic_2 ?_
                        refine Rn.icmp_eq dX12_tried_101 (fun h2 => ?_) (fun h2 => ?_)
                        · skip
                          refine Rn.aload_n dX12_tried_116 rfl ?_
                          refine Rn.iconstv (v := 1) dX12_tried_117 ic_1 ?_
                          refine Rn.iload dX12_tried_118 rfl ?_
                          refine Rn.callV2 dX12_tried_120 vX12_474 (rc149 hRK) (by decide) rfl (rvLv (M := M) (N := K) (w := i) (Q := fun v0 ly0 K2 => v0 = none ∧ ly0 = ly ∧ Rt M K2 nw t nf (-1) 0 (stgS s (upd (lvO 0 s.2.2.2.2.1.2.2.1 i) i 2)) fc fk ∧ K2.1 171 = K.1 171) hT hw6 (by omega) hRK (fun K2 a c => ⟨rfl, rfl, a, c.1⟩)) (by decide) ⟨(Nat.le_of_ble_eq_true rfl), (Nat.le_of_ble_eq_true rfl), (Nat.le_of_ble_eq_true rfl)⟩ (fun h => by cases h) (fun v1 ly1 K2 ⟨q1, q2, hT4, hb4⟩ => ?_)
                          rw [q1, q2]
                          refine Rn.iincN (lv' := [some (.ref 149), some (.int (nI c)), some (.int 0), some (.int (nI N)), some (.int 2), some (.int (nI (i + 1)))]) dX12_tried_123 rfl (by decide) rfl ?_
                          refine Rn.goto dX12_tried_126 ?_
                          exact ih (i + 1) K2 (by omega) (by show Rt M K2 nw t nf (-1) 0 (stgS s (if _ then _ else _)) fc fk; rw [if_pos (z6 i (by omega))]; exact hT4) (by rw [hb4]; exact hb)
                        · skip
                          first | exact absurd h2 (by decide) | exact absurd (by decide) h2
                  exact loop nw 0 N2 (by omega) hT2 hbl2
                · skip
                  first | exact absurd hb4 (by decide) | exact absurd (by decide) hb4
              · skip
                refine Rn.iconstv (v := -1) dX12_tried_54 ic_m1 ?_
                exact Rn.iret (ty := .int) dX12_tried_55 rfl rfl (hQ.1 (fun h => gy (by have h2 := h.2.2; rw [if_neg (by rcases hcc with rfl | rfl <;> decide)] at h2; exact h2)) _ qR.rf.f0)
            · skip
              first | exact absurd h36 (by decide) | exact absurd (by decide) h36
          · skip
            show Rn G l mX12_tried (8, 0, 0, false) 33 [some (.ref 149), some (.int (nI c)), some (.int y), some (.int (nI N)), some (.int 3), none] [] ly (sI M 149 (upd (M.1 149) 0 0)) Q
            refine Rn.iload dX12_tried_33 rfl ?_
            refine Rn.iconstv (v := 3) dX12_tried_35 ic_3 ?_
            refine Rn.icmp_ne dX12_tried_36 (fun h36 => ?_) (fun h36 => ?_)
            · skip
              first | exact absurd h36 (by decide) | exact absurd (by decide) h36
            · skip
              refine Rn.aload_n dX12_tried_39 rfl ?_
              refine Rn.iload_n dX12_tried_40 rfl ?_
              refine Rn.callV1 dX12_tried_41 vX12_443 (rc149 hR) (by decide) rfl (tX12_isWalker (M := sI M 149 (upd (M.1 149) 0 0)) hR) (by decide) ⟨(Nat.le_of_ble_eq_true rfl), (Nat.le_of_ble_eq_true rfl), (Nat.le_of_ble_eq_true rfl)⟩ (fun h => by cases h) (fun v1 ly1 M1 ⟨q1, q2, q3⟩ => ?_)
              rw [q1, q2, q3]
              refine Rn.topI (y := inN y (nI nw)) (congrArg (inN y) hS.nw) ?_
              refine Rn.if_ne dX12_tried_44 (fun gw => ?_) (fun gw => ?_)
              · skip
                obtain ⟨w, hw, rfl⟩ : ∃ j : Nat, j < nw ∧ y = nI j := (inN_1 (x := y) (k := nw) (lt31 hS.w6)).elim (fun k => absurd k.1 gw) (fun k => k.2)
                have hA := hQ.2 3 w N (by decide) (by rw [if_pos rfl]; exact ⟨hw, rfl⟩) hN rfl
                clear hQ
                refine Rn.aload_n dX12_tried_56 rfl ?_
                refine Rn.callV0 dX12_tried_57 vX12_447 (rc149 hR) (by decide) rfl (tX12_plain (M := sI M 149 (upd (M.1 149) 0 0)) hR) (by decide) ⟨(Nat.le_of_ble_eq_true rfl), (Nat.le_of_ble_eq_true rfl), (Nat.le_of_ble_eq_true rfl)⟩ (fun h => by cases h) (fun v1 ly1 M1 ⟨q1, q2, q3⟩ => ?_)
                rw [q1, q2, q3]
                have hm0m : md (sI (sI M 149 (upd (M.1 149) 0 0)) 149 (upd (upd (upd (upd (upd ((sI M 149 (upd (M.1 149) 0 0)).1 149) 55 (-1)) 56 0) 57 (-1)) 61 0) 62 0)) (-1) 0 := ⟨rfl, rfl, rfl, rfl⟩
                have hq0m : qR M (sI (sI M 149 (upd (M.1 149) 0 0)) 149 (upd (upd (upd (upd (upd ((sI M 149 (upd (M.1 149) 0 0)).1 149) 55 (-1)) 56 0) 57 (-1)) 61 0) 62 0)) := qR.plain ((qR.rf (M := M)).f0)
                revert hm0m hq0m
                generalize (sI (sI M 149 (upd (M.1 149) 0 0)) 149 (upd (upd (upd (upd (upd ((sI M 149 (upd (M.1 149) 0 0)).1 149) 55 (-1)) 56 0) 57 (-1)) 61 0) 62 0)) = N0
                intro hm0 hq0
                have hRN0 : RW ly N0.2.2 := by rw [hq0.1]; exact hR
                refine Rn.aload_n dX12_tried_60 rfl ?_
                refine Rn.iconstv (v := 1) dX12_tried_61 ic_1 ?_
                refine Rn.iconstv (v := 0) dX12_tried_62 ic_0 ?_
                refine Rn.callV2 dX12_tried_63 vX12_461 (rc149 hRN0) (by decide) rfl (rvNow (M := M) (N := N0) (x := (-1)) (kp := 0) (Q := fun v0 ly0 K => v0 = none ∧ ly0 = ly ∧ Rt M K nw t nf (-1) 0 s fc fk ∧ K.1 171 1 = M.1 171 0) hS hq0 hm0 hRN0 (fun K a c => ⟨rfl, rfl, a, c⟩)) (by decide) ⟨(Nat.le_of_ble_eq_true rfl), (Nat.le_of_ble_eq_true rfl), (Nat.le_of_ble_eq_true rfl)⟩ (fun h => by cases h) (fun v1 ly1 N1 ⟨q1, q2, hT1, hb1⟩ => ?_)
                rw [q1, q2]
                have hRN1 : RW ly N1.2.2 := by rw [hT1.1.1]; exact hR
                refine Rn.aload_n dX12_tried_66 rfl ?_
                refine Rn.getR dX12_tried_67 fX12_79 rfl (rc149 hRN1) (show N1.2.2 149 37 = some 171 from (rpt37 hRN1)) ?_
                refine Rn.iconstv (v := 1) dX12_tried_70 ic_1 ?_
                refine Rn.iload dX12_tried_71 rfl ?_
                refine Rn.iconstv (v := 4) dX12_tried_73 ic_4 ?_
                refine Rn.icmp_ne dX12_tried_74 (fun hb4 => ?_) (fun hb4 => ?_)
                · skip
                  refine Rn.iconstv (v := 0) dX12_tried_81 ic_0 ?_
                  refine Rn.zast dX12_tried_82 (rc171 hRN1) (by unfold vp_in; decide) ?_
                  refine Rn.iconstv (v := 0) dX12_tried_83 ic_0 ?_
                  refine Rn.istore (lv' := [some (.ref 149), some (.int (nI c)), some (.int (nI w)), some (.int (nI N)), some (.int 3), some (.int 0)]) dX12_tried_84 (by decide) rfl ?_
                  refine Rn.meq (M2 := sI N1 171 (upd (N1.1 171) 1 0)) rfl ?_
                  have hT2m : Rt M (sI N1 171 (upd (N1.1 171) 1 0)) nw t nf (-1) 0 s fc fk ∧ (sI N1 171 (upd (N1.1 171) 1 0)).1 171 1 = 0 := ⟨⟨hT1.1.bl, hT1.2.1.eq rfl, hT1.2.2.1, hT1.2.2.2⟩, rfl⟩
                  revert hT2m
                  generalize sI N1 171 (upd (N1.1 171) 1 0) = N2
                  rintro ⟨hT2, hbl2⟩
                  have hRN2 : RW ly N2.2.2 := by rw [hT2.1.1]; exact hR
                  have loop : ∀ (k i : Nat) (K : Mm), i + k = nw → Rt M K nw t nf (-1) 0 (stgS s ((if w < i then upd s.2.2.2.2.1.2.2.1 w 2 else s.2.2.2.2.1.2.2.1))) fc fk → K.1 171 1 = 0 → Rn G l mX12_tried (8, 0, 0, false) 86 [some (.ref 149), some (.int (nI c)), some (.int (nI w)), some (.int (nI N)), some (.int 3), some (.int (nI i))] [] ly K Q := by
                    intro k
                    induction k with
                    | zero =>
                      intro i K hi hT hb
                      have hRK : RW ly K.2.2 := by rw [hT.1.1]; exact hR
                      have hnw : K.1 151 6 = nI nw := (hS.q hT.1).nw
                      have hw6 := hS.w6
                      refine Rn.iload dX12_tried_86 rfl ?_
                      refine Rn.aload_n dX12_tried_88 rfl ?_
                      refine Rn.getR dX12_tried_89 fX12_15 rfl (rc149 hRK) (show K.2.2 149 3 = some 151 from (rpt3 hRK)) ?_
                      refine Rn.bipushv (v := 6) dX12_tried_92 bp_6 ?_
                      refine Rn.iald dX12_tried_94 (rc151 hRK) (by unfold vp_in; decide) ?_
                      refine Rn.topI (y := K.1 151 6) (rfl) ?_
                      refine Rn.topI (y := nI nw) (hnw) ?_
                      refine Rn.icmp_ge dX12_tried_95 (fun hc => ?_) (fun hc => ?_)
                      · skip
                        have e0 : i = nw := by omega
                        have hT3 : Rt M K nw t nf (-1) 0 (stgS s (upd s.2.2.2.2.1.2.2.1 w 2)) fc fk := hT.sg (fun v hv => by rw [if_pos (by omega)])
                        refine Rn.aload_n dX12_tried_129 rfl ?_
                        refine Rn.iload dX12_tried_130 rfl ?_
                        refine Rn.putI dX12_tried_132 fX12_126 rfl rfl rfl (rc149 hRK) ?_
                        refine Rn.iconstv (v := 0) dX12_tried_135 ic_0 ?_
                        refine Rn.istore (lv' := [some (.ref 149), some (.int (nI c)), some (.int (nI w)), some (.int (nI N)), some (.int 3), some (.int 0)]) dX12_tried_136 (by decide) rfl ?_
                        have hp := hS.1.q hT3.1
                        have hm3 : md (sI K 149 (upd (K.1 149) 55 3)) 3 0 := ⟨rfl, hT3.2.1.2.1, hT3.2.1.2.2.1, hT3.2.1.2.2.2⟩
                        have hE3 : EVt (sI K 149 (upd (K.1 149) 55 3)).1 1 n nw p (htR 3 h0) 0 ca W (fun m => valL m (lw 0).1 (lw 0).2) (fun m => valL m (lw 1).1 (lw 1).2) := EVt.ofg (N := sI K 149 (upd (K.1 149) 55 3)) (hp.mv (fun a ha => sI_ne (by omega))) hm3 (by decide) hb (ftR.cm (nf := nf) (fc := fc) (fk := fk) hT3.2.2.2 (show ¬ ((3 : Int32) = 1) by decide) (fun c hc => by show mn 100 (cmR (K.1 151 3) fc fk (nI c) nf) = ca c; rw [hp.2.2.2.1]; exact hca c hc)) (fun m => (if_neg (by decide)).symm)
                        have ehet : htR 3 h0 = h0 := if_neg (by decide)
                        rw [ehet] at hE3
                        have hq3 : qR M (sI K 149 (upd (K.1 149) 55 3)) := hT3.1.fj (by decide)
                        have hs3 : rAl (sI K 149 (upd (K.1 149) 55 3)).1 1 nw t (stgS s (upd s.2.2.2.2.1.2.2.1 w 2)) := hT3.2.2.1
                        clear hT3 hT
                        revert hm3 hE3 hq3 hs3
                        generalize sI K 149 (upd (K.1 149) 55 3) = N3
                        intro hm3 hE3 hq3 hs3
                        have hRN3 : RW ly N3.2.2 := by rw [hq3.1]; exact hR
                        have loop2 : ∀ (k j : Nat) (K2 : Mm), j + k = N → qR M K2 → md K2 3 0 → EVt K2.1 1 n nw p h0 0 ca W (fun m => valL m (lw 0).1 (lw 0).2) (fun m => valL m (lw 1).1 (lw 1).2) → rAl K2.1 1 nw (t + j) (itF (fun _ => TR n nw p h0 0 ca W (fun m => valL m (lw 0).1 (lw 0).2) (fun m => valL m (lw 1).1 (lw 1).2)) j (stgS s (upd s.2.2.2.2.1.2.2.1 w 2))) → Rn G l mX12_tried (8, 0, 0, false) 138 [some (.ref 149), some (.int (nI c)), some (.int (nI w)), some (.int (nI N)), some (.int 3), some (.int (nI j))] [] ly K2 Q := by
                          intro k
                          induction k with
                          | zero =>
                            intro j K2 hj hq hm hE hs
                            have hRK2 : RW ly K2.2.2 := by rw [hq.1]; exact hR
                            refine Rn.iload dX12_tried_138 rfl ?_
                            refine Rn.iload_n dX12_tried_140 rfl ?_
                            refine Rn.icmp_ge dX12_tried_141 (fun hc2 => ?_) (fun hc2 => ?_)
                            · skip
                              have ej : j = N := by omega
                              rw [ej] at hs
                              refine Rn.aload_n dX12_tried_155 rfl ?_
                              refine Rn.callV0 dX12_tried_156 vX12_447 (rc149 hRK2) (by decide) rfl (tX12_plain (M := K2) hRK2) (by decide) ⟨(Nat.le_of_ble_eq_true rfl), (Nat.le_of_ble_eq_true rfl), (Nat.le_of_ble_eq_true rfl)⟩ (fun h => by cases h) (fun v1 ly1 M1 ⟨q1, q2, q3⟩ => ?_)
                              rw [q1, q2, q3]
                              have hq4m : qR M (sI K2 149 (upd (upd (upd (upd (upd (K2.1 149) 55 (-1)) 56 0) 57 (-1)) 61 0) 62 0)) := qR.plain hq
                              have hs4m : rAl (sI K2 149 (upd (upd (upd (upd (upd (K2.1 149) 55 (-1)) 56 0) 57 (-1)) 61 0) 62 0)).1 1 nw (t + N) (triR n nw p h0 c0 ca W (fun m => valL m (lw 0).1 (lw 0).2) (fun m => valL m (lw 1).1 (lw 1).2) s w N 3) := hs
                              have hn4m : (sI K2 149 (upd (upd (upd (upd (upd (K2.1 149) 55 (-1)) 56 0) 57 (-1)) 61 0) 62 0)).1 151 0 = nI n := hE.1.1
                              revert hq4m hs4m hn4m
                              generalize (sI K2 149 (upd (upd (upd (upd (upd (K2.1 149) 55 (-1)) 56 0) 57 (-1)) 61 0) 62 0)) = N4
                              intro hq4 hs4 hn4
                              have hRN4 : RW ly N4.2.2 := by rw [hq4.1]; exact hR
                              refine Rn.aload_n dX12_tried_159 rfl ?_
                              refine Rn.iconstv (v := 1) dX12_tried_160 ic_1 ?_
                              refine Rn.iload_n dX12_tried_161 rfl ?_
                              refine Rn.bipushv (v := 6) dX12_tried_162 bp_6 ?_
                              refine Rn.icmp_ge dX12_tried_164 (fun hx6 => ?_) (fun hx6 => ?_)
                              · skip
                                have hcx : c = 6 + 3 := hcc.resolve_left (fun h => absurd hx6 (by rw [h]; decide))
                                refine Rn.aload_n dX12_tried_174 rfl ?_
                                refine Rn.getR dX12_tried_175 fX12_92 rfl (rc149 hRN4) (show N4.2.2 149 41 = some 175 from (rpt41 hRN4)) ?_
                                refine Rn.callV2 dX12_tried_178 vX12_457 (rc149 hRN4) (by decide) rfl (tX12_greatest175 (b := 1) (n := n) (M := N4) (by decide) hn4 hS.n.2 hRN4) (by decide) ⟨(Nat.le_of_ble_eq_true rfl), (Nat.le_of_ble_eq_true rfl), (Nat.le_of_ble_eq_true rfl)⟩ (fun h => by cases h) (fun v1 ly1 M1 ⟨q1, q2, q3⟩ => ?_)
                                rw [q1, q2, q3]
                                refine Rn.topI (y := gr (triR n nw p h0 c0 ca W (fun m => valL m (lw 0).1 (lw 0).2) (fun m => valL m (lw 1).1 (lw 1).2) s w N 3).2.2.1 n) (gr_E hs4.2.2.1 n hS.n.2) ?_
                                exact Rn.iret (ty := .int) dX12_tried_181 rfl rfl ((hA N4 hq4).2 (by rw [hcx]))
                              · skip
                                have hcx : c = 3 := hcc.resolve_right (fun h => hx6 (by rw [h]; decide))
                                refine Rn.aload_n dX12_tried_167 rfl ?_
                                refine Rn.getR dX12_tried_168 fX12_86 rfl (rc149 hRN4) (show N4.2.2 149 39 = some 173 from (rpt39 hRN4)) ?_
                                refine Rn.goto dX12_tried_171 ?_
                                refine Rn.callV2 dX12_tried_178 vX12_457 (rc149 hRN4) (by decide) rfl (tX12_greatest173 (b := 1) (n := n) (M := N4) (by decide) hn4 hS.n.2 hRN4) (by decide) ⟨(Nat.le_of_ble_eq_true rfl), (Nat.le_of_ble_eq_true rfl), (Nat.le_of_ble_eq_true rfl)⟩ (fun h => by cases h) (fun v1 ly1 M1 ⟨q1, q2, q3⟩ => ?_)
                                rw [q1, q2, q3]
                                refine Rn.topI (y := gr (triR n nw p h0 c0 ca W (fun m => valL m (lw 0).1 (lw 0).2) (fun m => valL m (lw 1).1 (lw 1).2) s w N 3).1 n) (gr_E hs4.1 n hS.n.2) ?_
                                exact Rn.iret (ty := .int) dX12_tried_181 rfl rfl ((hA N4 hq4).1 (by rw [hcx]))
                            · skip
                              exact absurd (nI_le (a := N) (b := j) (by omega) (by omega)) hc2
                          | succ k ih2 =>
                            intro j K2 hj hq hm hE hs
                            have hRK2 : RW ly K2.2.2 := by rw [hq.1]; exact hR
                            refine Rn.iload dX12_tried_138 rfl ?_
                            refine Rn.iload_n dX12_tried_140 rfl ?_
                            refine Rn.icmp_ge dX12_tried_141 (fun hc2 => ?_) (fun hc2 => ?_)
                            · skip
                              exact absurd hc2 (nI_ge (a := j) (b := N) (by omega) (by omega))
                            · skip
                              refine Rn.aload_n dX12_tried_144 rfl ?_
                              refine Rn.iconstv (v := 1) dX12_tried_145 ic_1 ?_
                              refine Rn.callV1 dX12_tried_146 vX12_454 (rc149 hRK2) (by decide) rfl (rvPass (b := 1) (N := K2) (Q := fun v0 ly0 K3 => v0 = none ∧ ly0 = ly ∧ psF K2 K3 1 ∧ EVt K3.1 1 n nw p h0 0 ca W (fun m => valL m (lw 0).1 (lw 0).2) (fun m => valL m (lw 1).1 (lw 1).2) ∧ rAl K3.1 1 nw (t + j + 1) (itF (fun _ => TR n nw p h0 0 ca W (fun m => valL m (lw 0).1 (lw 0).2) (fun m => valL m (lw 1).1 (lw 1).2)) (j + 1) (stgS s (upd s.2.2.2.2.1.2.2.1 w 2)))) (by decide) hE hm.2.2.1 hs (by have := hS.2.2.2.2; omega) hRK2 (fun K3 a c d => ⟨rfl, rfl, a, c, d⟩)) (by decide) ⟨(Nat.le_of_ble_eq_true rfl), (Nat.le_of_ble_eq_true rfl), (Nat.le_of_ble_eq_true rfl)⟩ (fun h => by cases h) (fun v1 ly1 K3 ⟨q1, q2, hF3, hE3, hs3⟩ => ?_)
                              rw [q1, q2]
                              refine Rn.iincN (lv' := [some (.ref 149), some (.int (nI c)), some (.int (nI w)), some (.int (nI N)), some (.int 3), some (.int (nI (j + 1)))]) dX12_tried_149 rfl (by decide) rfl ?_
                              refine Rn.goto dX12_tried_152 ?_
                              exact ih2 (j + 1) K3 (by omega) (hq.tr hF3.q) (hm.ps hF3) hE3 hs3
                        exact loop2 N 0 N3 (by omega) hq3 hm3 hE3 hs3
                      · skip
                        exact absurd (nI_le (a := nw) (b := i) (by omega) (by omega)) hc
                    | succ k ih =>
                      intro i K hi hT hb
                      have hRK : RW ly K.2.2 := by rw [hT.1.1]; exact hR
                      have hnw : K.1 151 6 = nI nw := (hS.q hT.1).nw
                      have hw6 := hS.w6
                      refine Rn.iload dX12_tried_86 rfl ?_
                      refine Rn.aload_n dX12_tried_88 rfl ?_
                      refine Rn.getR dX12_tried_89 fX12_15 rfl (rc149 hRK) (show K.2.2 149 3 = some 151 from (rpt3 hRK)) ?_
                      refine Rn.bipushv (v := 6) dX12_tried_92 bp_6 ?_
                      refine Rn.iald dX12_tried_94 (rc151 hRK) (by unfold vp_in; decide) ?_
                      refine Rn.topI (y := K.1 151 6) (rfl) ?_
                      refine Rn.topI (y := nI nw) (hnw) ?_
                      refine Rn.icmp_ge dX12_tried_95 (fun hc => ?_) (fun hc => ?_)
                      · skip
                        exact absurd hc (nI_ge (a := i) (b := nw) (by omega) (by omega))
                      · skip
                        refine Rn.iload dX12_tried_98 rfl ?_
                        refine Rn.iconstv (v := 2) dX12_tried_100 ic_2 ?_
                        refine Rn.icmp_eq dX12_tried_101 (fun h2 => ?_) (fun h2 => ?_)
                        · skip
                          first | exact absurd h2 (by decide) | exact absurd (by decide) h2
                        · skip
                          refine Rn.iload dX12_tried_104 rfl ?_
                          refine Rn.iconstv (v := 3) dX12_tried_106 ic_3 ?_
                          refine Rn.icmp_ne dX12_tried_107 (fun h3 => ?_) (fun h3 => ?_)
                          · skip
                            first | exact absurd h3 (by decide) | exact absurd (by decide) h3
                          · skip
                            refine Rn.iload dX12_tried_110 rfl ?_
                            refine Rn.iload_n dX12_tried_112 rfl ?_
                            refine Rn.icmp_ne dX12_tried_113 (fun hiw => ?_) (fun hiw => ?_)
                            · skip
                              have niw : ¬ i = w := fun e => hiw (by rw [e])
                              refine Rn.iincN (lv' := [some (.ref 149), some (.int (nI c)), some (.int (nI w)), some (.int (nI N)), some (.int 3), some (.int (nI (i + 1)))]) dX12_tried_123 rfl (by decide) rfl ?_
                              refine Rn.goto dX12_tried_126 ?_
                              exact ih (i + 1) K (by omega) (hT.sg (fun v hv => (Decidable.em (w < i)).elim (fun h => by rw [if_pos h, if_pos (by omega)]) (fun h => by rw [if_neg h, if_neg (by omega)]))) hb
                            · skip
                              have eiw : i = w := (nI_eq (by omega) (by omega)).mp hiw
                              refine Rn.aload_n dX12_tried_116 rfl ?_
                              refine Rn.iconstv (v := 1) dX12_tried_117 ic_1 ?_
                              refine Rn.iload dX12_tried_118 rfl ?_
                              refine Rn.callV2 dX12_tried_120 vX12_474 (rc149 hRK) (by decide) rfl (rvLv (M := M) (N := K) (w := i) (Q := fun v0 ly0 K2 => v0 = none ∧ ly0 = ly ∧ Rt M K2 nw t nf (-1) 0 (stgS s (upd ((if w < i then upd s.2.2.2.2.1.2.2.1 w 2 else s.2.2.2.2.1.2.2.1)) i 2)) fc fk ∧ K2.1 171 = K.1 171) hT hw6 (by omega) hRK (fun K2 a c => ⟨rfl, rfl, a, c.1⟩)) (by decide) ⟨(Nat.le_of_ble_eq_true rfl), (Nat.le_of_ble_eq_true rfl), (Nat.le_of_ble_eq_true rfl)⟩ (fun h => by cases h) (fun v1 ly1 K2 ⟨q1, q2, hT4, hb4⟩ => ?_)
                              rw [q1, q2]
                              refine Rn.iincN (lv' := [some (.ref 149), some (.int (nI c)), some (.int (nI w)), some (.int (nI N)), some (.int 3), some (.int (nI (i + 1)))]) dX12_tried_123 rfl (by decide) rfl ?_
                              refine Rn.goto dX12_tried_126 ?_
                              exact ih (i + 1) K2 (by omega) (hT4.sg (fun v hv => by rw [eiw, if_neg (Nat.lt_irrefl w), if_pos (Nat.lt_succ_self w)])) (by rw [hb4]; exact hb)
                  exact loop nw 0 N2 (by omega) (hT2.sg (g := s.2.2.2.2.1.2.2.1) (fun v hv => by rw [if_neg (by omega)])) hbl2
                · skip
                  first | exact absurd hb4 (by decide) | exact absurd (by decide) hb4
              · skip
                refine Rn.goto dX12_tried_47 ?_
                refine Rn.iconstv (v := -1) dX12_tried_54 ic_m1 ?_
                exact Rn.iret (ty := .int) dX12_tried_55 rfl rfl (hQ.1 (fun h => (inN_1 (x := y) (k := nw) (lt31 hS.w6)).elim (fun k => k.2 (by have h2 := h.2.2; rw [if_pos (by rcases hcc with rfl | rfl <;> decide)] at h2; exact h2)) (fun k => absurd (k.1.symm.trans gw) (by decide))) _ qR.rf.f0)
          · skip
            show Rn G l mX12_tried (8, 0, 0, false) 33 [some (.ref 149), some (.int (nI c)), some (.int y), some (.int (nI N)), some (.int 4), none] [] ly (sI M 149 (upd (M.1 149) 0 0)) Q
            refine Rn.iload dX12_tried_33 rfl ?_
            refine Rn.iconstv (v := 3) dX12_tried_35 ic_3 ?_
            refine Rn.icmp_ne dX12_tried_36 (fun h36 => ?_) (fun h36 => ?_)
            · skip
              refine Rn.iload_n dX12_tried_50 rfl ?_
              refine Rn.if_eq dX12_tried_51 (fun gy => ?_) (fun gy => ?_)
              · skip
                subst gy
                obtain ⟨w, hwd⟩ : ∃ w : Nat, w = 0 := ⟨0, rfl⟩
                have hA := hQ.2 4 w N (by decide) (by rw [if_neg (by decide)]) hN rfl
                clear hQ
                refine Rn.aload_n dX12_tried_56 rfl ?_
                refine Rn.callV0 dX12_tried_57 vX12_447 (rc149 hR) (by decide) rfl (tX12_plain (M := sI M 149 (upd (M.1 149) 0 0)) hR) (by decide) ⟨(Nat.le_of_ble_eq_true rfl), (Nat.le_of_ble_eq_true rfl), (Nat.le_of_ble_eq_true rfl)⟩ (fun h => by cases h) (fun v1 ly1 M1 ⟨q1, q2, q3⟩ => ?_)
                rw [q1, q2, q3]
                have hm0m : md (sI (sI M 149 (upd (M.1 149) 0 0)) 149 (upd (upd (upd (upd (upd ((sI M 149 (upd (M.1 149) 0 0)).1 149) 55 (-1)) 56 0) 57 (-1)) 61 0) 62 0)) (-1) 0 := ⟨rfl, rfl, rfl, rfl⟩
                have hq0m : qR M (sI (sI M 149 (upd (M.1 149) 0 0)) 149 (upd (upd (upd (upd (upd ((sI M 149 (upd (M.1 149) 0 0)).1 149) 55 (-1)) 56 0) 57 (-1)) 61 0) 62 0)) := qR.plain ((qR.rf (M := M)).f0)
                revert hm0m hq0m
                generalize (sI (sI M 149 (upd (M.1 149) 0 0)) 149 (upd (upd (upd (upd (upd ((sI M 149 (upd (M.1 149) 0 0)).1 149) 55 (-1)) 56 0) 57 (-1)) 61 0) 62 0)) = N0
                intro hm0 hq0
                have hRN0 : RW ly N0.2.2 := by rw [hq0.1]; exact hR
                refine Rn.aload_n dX12_tried_60 rfl ?_
                refine Rn.iconstv (v := 1) dX12_tried_61 ic_1 ?_
                refine Rn.iconstv (v := 0) dX12_tried_62 ic_0 ?_
                refine Rn.callV2 dX12_tried_63 vX12_461 (rc149 hRN0) (by decide) rfl (rvNow (M := M) (N := N0) (x := (-1)) (kp := 0) (Q := fun v0 ly0 K => v0 = none ∧ ly0 = ly ∧ Rt M K nw t nf (-1) 0 s fc fk ∧ K.1 171 1 = M.1 171 0) hS hq0 hm0 hRN0 (fun K a c => ⟨rfl, rfl, a, c⟩)) (by decide) ⟨(Nat.le_of_ble_eq_true rfl), (Nat.le_of_ble_eq_true rfl), (Nat.le_of_ble_eq_true rfl)⟩ (fun h => by cases h) (fun v1 ly1 N1 ⟨q1, q2, hT1, hb1⟩ => ?_)
                rw [q1, q2]
                have hRN1 : RW ly N1.2.2 := by rw [hT1.1.1]; exact hR
                refine Rn.aload_n dX12_tried_66 rfl ?_
                refine Rn.getR dX12_tried_67 fX12_79 rfl (rc149 hRN1) (show N1.2.2 149 37 = some 171 from (rpt37 hRN1)) ?_
                refine Rn.iconstv (v := 1) dX12_tried_70 ic_1 ?_
                refine Rn.iload dX12_tried_71 rfl ?_
                refine Rn.iconstv (v := 4) dX12_tried_73 ic_4 ?_
                refine Rn.icmp_ne dX12_tried_74 (fun hb4 => ?_) (fun hb4 => ?_)
                · skip
                  first | exact absurd hb4 (by decide) | exact absurd (by decide) hb4
                · skip
                  refine Rn.iconstv (v := 1) dX12_tried_77 ic_1 ?_
                  refine Rn.goto dX12_tried_78 ?_
                  refine Rn.zast dX12_tried_82 (rc171 hRN1) (by unfold vp_in; decide) ?_
                  refine Rn.iconstv (v := 0) dX12_tried_83 ic_0 ?_
                  refine Rn.istore (lv' := [some (.ref 149), some (.int (nI c)), some (.int 0), some (.int (nI N)), some (.int 4), some (.int 0)]) dX12_tried_84 (by decide) rfl ?_
                  refine Rn.meq (M2 := sI N1 171 (upd (N1.1 171) 1 1)) rfl ?_
                  have hT2m : Rt M (sI N1 171 (upd (N1.1 171) 1 1)) nw t nf (-1) 0 s fc fk ∧ (sI N1 171 (upd (N1.1 171) 1 1)).1 171 1 = 1 := ⟨⟨hT1.1.bl, hT1.2.1.eq rfl, hT1.2.2.1, hT1.2.2.2⟩, rfl⟩
                  revert hT2m
                  generalize sI N1 171 (upd (N1.1 171) 1 1) = N2
                  rintro ⟨hT2, hbl2⟩
                  have hRN2 : RW ly N2.2.2 := by rw [hT2.1.1]; exact hR
                  have loop : ∀ (k i : Nat) (K : Mm), i + k = nw → Rt M K nw t nf (-1) 0 (stgS s (s.2.2.2.2.1.2.2.1)) fc fk → K.1 171 1 = 1 → Rn G l mX12_tried (8, 0, 0, false) 86 [some (.ref 149), some (.int (nI c)), some (.int 0), some (.int (nI N)), some (.int 4), some (.int (nI i))] [] ly K Q := by
                    intro k
                    induction k with
                    | zero =>
                      intro i K hi hT hb
                      have hRK : RW ly K.2.2 := by rw [hT.1.1]; exact hR
                      have hnw : K.1 151 6 = nI nw := (hS.q hT.1).nw
                      have hw6 := hS.w6
                      refine Rn.iload dX12_tried_86 rfl ?_
                      refine Rn.aload_n dX12_tried_88 rfl ?_
                      refine Rn.getR dX12_tried_89 fX12_15 rfl (rc149 hRK) (show K.2.2 149 3 = some 151 from (rpt3 hRK)) ?_
                      refine Rn.bipushv (v := 6) dX12_tried_92 bp_6 ?_
                      refine Rn.iald dX12_tried_94 (rc151 hRK) (by unfold vp_in; decide) ?_
                      refine Rn.topI (y := K.1 151 6) (rfl) ?_
                      refine Rn.topI (y := nI nw) (hnw) ?_
                      refine Rn.icmp_ge dX12_tried_95 (fun hc => ?_) (fun hc => ?_)
                      · skip
                        have e0 : i = nw := by omega
                        have hT3 : Rt M K nw t nf (-1) 0 s fc fk := hT
                        refine Rn.aload_n dX12_tried_129 rfl ?_
                        refine Rn.iload dX12_tried_130 rfl ?_
                        refine Rn.putI dX12_tried_132 fX12_126 rfl rfl rfl (rc149 hRK) ?_
                        refine Rn.iconstv (v := 0) dX12_tried_135 ic_0 ?_
                        refine Rn.istore (lv' := [some (.ref 149), some (.int (nI c)), some (.int 0), some (.int (nI N)), some (.int 4), some (.int 0)]) dX12_tried_136 (by decide) rfl ?_
                        have hp := hS.1.q hT3.1
                        have hm3 : md (sI K 149 (upd (K.1 149) 55 4)) 4 0 := ⟨rfl, hT3.2.1.2.1, hT3.2.1.2.2.1, hT3.2.1.2.2.2⟩
                        have hE3 : EVt (sI K 149 (upd (K.1 149) 55 4)).1 1 n nw p (htR 4 h0) 1 ca W (fun m => valL m (lw 0).1 (lw 0).2) (fun m => valL m (lw 1).1 (lw 1).2) := EVt.ofg (N := sI K 149 (upd (K.1 149) 55 4)) (hp.mv (fun a ha => sI_ne (by omega))) hm3 (by decide) hb (ftR.cm (nf := nf) (fc := fc) (fk := fk) hT3.2.2.2 (show ¬ ((4 : Int32) = 1) by decide) (fun c hc => by show mn 100 (cmR (K.1 151 3) fc fk (nI c) nf) = ca c; rw [hp.2.2.2.1]; exact hca c hc)) (fun m => (if_neg (by decide)).symm)
                        have ehet : htR 4 h0 = h0 := if_neg (by decide)
                        rw [ehet] at hE3
                        have hq3 : qR M (sI K 149 (upd (K.1 149) 55 4)) := hT3.1.fj (by decide)
                        have hs3 : rAl (sI K 149 (upd (K.1 149) 55 4)).1 1 nw t (s) := hT3.2.2.1
                        clear hT3 hT
                        revert hm3 hE3 hq3 hs3
                        generalize sI K 149 (upd (K.1 149) 55 4) = N3
                        intro hm3 hE3 hq3 hs3
                        have hRN3 : RW ly N3.2.2 := by rw [hq3.1]; exact hR
                        have loop2 : ∀ (k j : Nat) (K2 : Mm), j + k = N → qR M K2 → md K2 4 0 → EVt K2.1 1 n nw p h0 1 ca W (fun m => valL m (lw 0).1 (lw 0).2) (fun m => valL m (lw 1).1 (lw 1).2) → rAl K2.1 1 nw (t + j) (itF (fun _ => TR n nw p h0 1 ca W (fun m => valL m (lw 0).1 (lw 0).2) (fun m => valL m (lw 1).1 (lw 1).2)) j (s)) → Rn G l mX12_tried (8, 0, 0, false) 138 [some (.ref 149), some (.int (nI c)), some (.int 0), some (.int (nI N)), some (.int 4), some (.int (nI j))] [] ly K2 Q := by
                          intro k
                          induction k with
                          | zero =>
                            intro j K2 hj hq hm hE hs
                            have hRK2 : RW ly K2.2.2 := by rw [hq.1]; exact hR
                            refine Rn.iload dX12_tried_138 rfl ?_
                            refine Rn.iload_n dX12_tried_140 rfl ?_
                            refine Rn.icmp_ge dX12_tried_141 (fun hc2 => ?_) (fun hc2 => ?_)
                            · skip
                              have ej : j = N := by omega
                              rw [ej] at hs
                              refine Rn.aload_n dX12_tried_155 rfl ?_
                              refine Rn.callV0 dX12_tried_156 vX12_447 (rc149 hRK2) (by decide) rfl (tX12_plain (M := K2) hRK2) (by decide) ⟨(Nat.le_of_ble_eq_true rfl), (Nat.le_of_ble_eq_true rfl), (Nat.le_of_ble_eq_true rfl)⟩ (fun h => by cases h) (fun v1 ly1 M1 ⟨q1, q2, q3⟩ => ?_)
                              rw [q1, q2, q3]
                              have hq4m : qR M (sI K2 149 (upd (upd (upd (upd (upd (K2.1 149) 55 (-1)) 56 0) 57 (-1)) 61 0) 62 0)) := qR.plain hq
                              have hs4m : rAl (sI K2 149 (upd (upd (upd (upd (upd (K2.1 149) 55 (-1)) 56 0) 57 (-1)) 61 0) 62 0)).1 1 nw (t + N) (triR n nw p h0 c0 ca W (fun m => valL m (lw 0).1 (lw 0).2) (fun m => valL m (lw 1).1 (lw 1).2) s w N 4) := hs
                              have hn4m : (sI K2 149 (upd (upd (upd (upd (upd (K2.1 149) 55 (-1)) 56 0) 57 (-1)) 61 0) 62 0)).1 151 0 = nI n := hE.1.1
                              revert hq4m hs4m hn4m
                              generalize (sI K2 149 (upd (upd (upd (upd (upd (K2.1 149) 55 (-1)) 56 0) 57 (-1)) 61 0) 62 0)) = N4
                              intro hq4 hs4 hn4
                              have hRN4 : RW ly N4.2.2 := by rw [hq4.1]; exact hR
                              refine Rn.aload_n dX12_tried_159 rfl ?_
                              refine Rn.iconstv (v := 1) dX12_tried_160 ic_1 ?_
                              refine Rn.iload_n dX12_tried_161 rfl ?_
                              refine Rn.bipushv (v := 6) dX12_tried_162 bp_6 ?_
                              refine Rn.icmp_ge dX12_tried_164 (fun hx6 => ?_) (fun hx6 => ?_)
                              · skip
                                have hcx : c = 6 + 4 := hcc.resolve_left (fun h => absurd hx6 (by rw [h]; decide))
                                refine Rn.aload_n dX12_tried_174 rfl ?_
                                refine Rn.getR dX12_tried_175 fX12_92 rfl (rc149 hRN4) (show N4.2.2 149 41 = some 175 from (rpt41 hRN4)) ?_
                                refine Rn.callV2 dX12_tried_178 vX12_457 (rc149 hRN4) (by decide) rfl (tX12_greatest175 (b := 1) (n := n) (M := N4) (by decide) hn4 hS.n.2 hRN4) (by decide) ⟨(Nat.le_of_ble_eq_true rfl), (Nat.le_of_ble_eq_true rfl), (Nat.le_of_ble_eq_true rfl)⟩ (fun h => by cases h) (fun v1 ly1 M1 ⟨q1, q2, q3⟩ => ?_)
                                rw [q1, q2, q3]
                                refine Rn.topI (y := gr (triR n nw p h0 c0 ca W (fun m => valL m (lw 0).1 (lw 0).2) (fun m => valL m (lw 1).1 (lw 1).2) s w N 4).2.2.1 n) (gr_E hs4.2.2.1 n hS.n.2) ?_
                                exact Rn.iret (ty := .int) dX12_tried_181 rfl rfl ((hA N4 hq4).2 (by rw [hcx]))
                              · skip
                                have hcx : c = 4 := hcc.resolve_right (fun h => hx6 (by rw [h]; decide))
                                refine Rn.aload_n dX12_tried_167 rfl ?_
                                refine Rn.getR dX12_tried_168 fX12_86 rfl (rc149 hRN4) (show N4.2.2 149 39 = some 173 from (rpt39 hRN4)) ?_
                                refine Rn.goto dX12_tried_171 ?_
                                refine Rn.callV2 dX12_tried_178 vX12_457 (rc149 hRN4) (by decide) rfl (tX12_greatest173 (b := 1) (n := n) (M := N4) (by decide) hn4 hS.n.2 hRN4) (by decide) ⟨(Nat.le_of_ble_eq_true rfl), (Nat.le_of_ble_eq_true rfl), (Nat.le_of_ble_eq_true rfl)⟩ (fun h => by cases h) (fun v1 ly1 M1 ⟨q1, q2, q3⟩ => ?_)
                                rw [q1, q2, q3]
                                refine Rn.topI (y := gr (triR n nw p h0 c0 ca W (fun m => valL m (lw 0).1 (lw 0).2) (fun m => valL m (lw 1).1 (lw 1).2) s w N 4).1 n) (gr_E hs4.1 n hS.n.2) ?_
                                exact Rn.iret (ty := .int) dX12_tried_181 rfl rfl ((hA N4 hq4).1 (by rw [hcx]))
                            · skip
                              exact absurd (nI_le (a := N) (b := j) (by omega) (by omega)) hc2
                          | succ k ih2 =>
                            intro j K2 hj hq hm hE hs
                            have hRK2 : RW ly K2.2.2 := by rw [hq.1]; exact hR
                            refine Rn.iload dX12_tried_138 rfl ?_
                            refine Rn.iload_n dX12_tried_140 rfl ?_
                            refine Rn.icmp_ge dX12_tried_141 (fun hc2 => ?_) (fun hc2 => ?_)
                            · skip
                              exact absurd hc2 (nI_ge (a := j) (b := N) (by omega) (by omega))
                            · skip
                              refine Rn.aload_n dX12_tried_144 rfl ?_
                              refine Rn.iconstv (v := 1) dX12_tried_145 ic_1 ?_
                              refine Rn.callV1 dX12_tried_146 vX12_454 (rc149 hRK2) (by decide) rfl (rvPass (b := 1) (N := K2) (Q := fun v0 ly0 K3 => v0 = none ∧ ly0 = ly ∧ psF K2 K3 1 ∧ EVt K3.1 1 n nw p h0 1 ca W (fun m => valL m (lw 0).1 (lw 0).2) (fun m => valL m (lw 1).1 (lw 1).2) ∧ rAl K3.1 1 nw (t + j + 1) (itF (fun _ => TR n nw p h0 1 ca W (fun m => valL m (lw 0).1 (lw 0).2) (fun m => valL m (lw 1).1 (lw 1).2)) (j + 1) (s))) (by decide) hE hm.2.2.1 hs (by have := hS.2.2.2.2; omega) hRK2 (fun K3 a c d => ⟨rfl, rfl, a, c, d⟩)) (by decide) ⟨(Nat.le_of_ble_eq_true rfl), (Nat.le_of_ble_eq_true rfl), (Nat.le_of_ble_eq_true rfl)⟩ (fun h => by cases h) (fun v1 ly1 K3 ⟨q1, q2, hF3, hE3, hs3⟩ => ?_)
                              rw [q1, q2]
                              refine Rn.iincN (lv' := [some (.ref 149), some (.int (nI c)), some (.int 0), some (.int (nI N)), some (.int 4), some (.int (nI (j + 1)))]) dX12_tried_149 rfl (by decide) rfl ?_
                              refine Rn.goto dX12_tried_152 ?_
                              exact ih2 (j + 1) K3 (by omega) (hq.tr hF3.q) (hm.ps hF3) hE3 hs3
                        exact loop2 N 0 N3 (by omega) hq3 hm3 hE3 hs3
                      · skip
                        exact absurd (nI_le (a := nw) (b := i) (by omega) (by omega)) hc
                    | succ k ih =>
                      intro i K hi hT hb
                      have hRK : RW ly K.2.2 := by rw [hT.1.1]; exact hR
                      have hnw : K.1 151 6 = nI nw := (hS.q hT.1).nw
                      have hw6 := hS.w6
                      refine Rn.iload dX12_tried_86 rfl ?_
                      refine Rn.aload_n dX12_tried_88 rfl ?_
                      refine Rn.getR dX12_tried_89 fX12_15 rfl (rc149 hRK) (show K.2.2 149 3 = some 151 from (rpt3 hRK)) ?_
                      refine Rn.bipushv (v := 6) dX12_tried_92 bp_6 ?_
                      refine Rn.iald dX12_tried_94 (rc151 hRK) (by unfold vp_in; decide) ?_
                      refine Rn.topI (y := K.1 151 6) (rfl) ?_
                      refine Rn.topI (y := nI nw) (hnw) ?_
                      refine Rn.icmp_ge dX12_tried_95 (fun hc => ?_) (fun hc => ?_)
                      · skip
                        exact absurd hc (nI_ge (a := i) (b := nw) (by omega) (by omega))
                      · skip
                        refine Rn.iload dX12_tried_98 rfl ?_
                        refine Rn.iconstv (v := 2) dX12_tried_100 ic_2 ?_
                        refine Rn.icmp_eq dX12_tried_101 (fun h2 => ?_) (fun h2 => ?_)
                        · skip
                          first | exact absurd h2 (by decide) | exact absurd (by decide) h2
                        · skip
                          refine Rn.iload dX12_tried_104 rfl ?_
                          refine Rn.iconstv (v := 3) dX12_tried_106 ic_3 ?_
                          refine Rn.icmp_ne dX12_tried_107 (fun h3 => ?_) (fun h3 => ?_)
                          · skip
                            refine Rn.iincN (lv' := [some (.ref 149), some (.int (nI c)), some (.int 0), some (.int (nI N)), some (.int 4), some (.int (nI (i + 1)))]) dX12_tried_123 rfl (by decide) rfl ?_
                            refine Rn.goto dX12_tried_126 ?_
                            exact ih (i + 1) K (by omega) (hT) hb
                          · skip
                            first | exact absurd h3 (by decide) | exact absurd (by decide) h3
                  exact loop nw 0 N2 (by omega) hT2 hbl2
              · skip
                refine Rn.iconstv (v := -1) dX12_tried_54 ic_m1 ?_
                exact Rn.iret (ty := .int) dX12_tried_55 rfl rfl (hQ.1 (fun h => gy (by have h2 := h.2.2; rw [if_neg (by rcases hcc with rfl | rfl <;> decide)] at h2; exact h2)) _ qR.rf.f0)
            · skip
              first | exact absurd h36 (by decide) | exact absurd (by decide) h36
          · skip
            show Rn G l mX12_tried (8, 0, 0, false) 33 [some (.ref 149), some (.int (nI c)), some (.int y), some (.int (nI N)), some (.int 5), none] [] ly (sI M 149 (upd (M.1 149) 0 0)) Q
            refine Rn.iload dX12_tried_33 rfl ?_
            refine Rn.iconstv (v := 3) dX12_tried_35 ic_3 ?_
            refine Rn.icmp_ne dX12_tried_36 (fun h36 => ?_) (fun h36 => ?_)
            · skip
              refine Rn.iload_n dX12_tried_50 rfl ?_
              refine Rn.if_eq dX12_tried_51 (fun gy => ?_) (fun gy => ?_)
              · skip
                subst gy
                obtain ⟨w, hwd⟩ : ∃ w : Nat, w = 0 := ⟨0, rfl⟩
                have hA := hQ.2 5 w N (by decide) (by rw [if_neg (by decide)]) hN rfl
                clear hQ
                refine Rn.aload_n dX12_tried_56 rfl ?_
                refine Rn.callV0 dX12_tried_57 vX12_447 (rc149 hR) (by decide) rfl (tX12_plain (M := sI M 149 (upd (M.1 149) 0 0)) hR) (by decide) ⟨(Nat.le_of_ble_eq_true rfl), (Nat.le_of_ble_eq_true rfl), (Nat.le_of_ble_eq_true rfl)⟩ (fun h => by cases h) (fun v1 ly1 M1 ⟨q1, q2, q3⟩ => ?_)
                rw [q1, q2, q3]
                have hm0m : md (sI (sI M 149 (upd (M.1 149) 0 0)) 149 (upd (upd (upd (upd (upd ((sI M 149 (upd (M.1 149) 0 0)).1 149) 55 (-1)) 56 0) 57 (-1)) 61 0) 62 0)) (-1) 0 := ⟨rfl, rfl, rfl, rfl⟩
                have hq0m : qR M (sI (sI M 149 (upd (M.1 149) 0 0)) 149 (upd (upd (upd (upd (upd ((sI M 149 (upd (M.1 149) 0 0)).1 149) 55 (-1)) 56 0) 57 (-1)) 61 0) 62 0)) := qR.plain ((qR.rf (M := M)).f0)
                revert hm0m hq0m
                generalize (sI (sI M 149 (upd (M.1 149) 0 0)) 149 (upd (upd (upd (upd (upd ((sI M 149 (upd (M.1 149) 0 0)).1 149) 55 (-1)) 56 0) 57 (-1)) 61 0) 62 0)) = N0
                intro hm0 hq0
                have hRN0 : RW ly N0.2.2 := by rw [hq0.1]; exact hR
                refine Rn.aload_n dX12_tried_60 rfl ?_
                refine Rn.iconstv (v := 1) dX12_tried_61 ic_1 ?_
                refine Rn.iconstv (v := 0) dX12_tried_62 ic_0 ?_
                refine Rn.callV2 dX12_tried_63 vX12_461 (rc149 hRN0) (by decide) rfl (rvNow (M := M) (N := N0) (x := (-1)) (kp := 0) (Q := fun v0 ly0 K => v0 = none ∧ ly0 = ly ∧ Rt M K nw t nf (-1) 0 s fc fk ∧ K.1 171 1 = M.1 171 0) hS hq0 hm0 hRN0 (fun K a c => ⟨rfl, rfl, a, c⟩)) (by decide) ⟨(Nat.le_of_ble_eq_true rfl), (Nat.le_of_ble_eq_true rfl), (Nat.le_of_ble_eq_true rfl)⟩ (fun h => by cases h) (fun v1 ly1 N1 ⟨q1, q2, hT1, hb1⟩ => ?_)
                rw [q1, q2]
                have hRN1 : RW ly N1.2.2 := by rw [hT1.1.1]; exact hR
                refine Rn.aload_n dX12_tried_66 rfl ?_
                refine Rn.getR dX12_tried_67 fX12_79 rfl (rc149 hRN1) (show N1.2.2 149 37 = some 171 from (rpt37 hRN1)) ?_
                refine Rn.iconstv (v := 1) dX12_tried_70 ic_1 ?_
                refine Rn.iload dX12_tried_71 rfl ?_
                refine Rn.iconstv (v := 4) dX12_tried_73 ic_4 ?_
                refine Rn.icmp_ne dX12_tried_74 (fun hb4 => ?_) (fun hb4 => ?_)
                · skip
                  refine Rn.iconstv (v := 0) dX12_tried_81 ic_0 ?_
                  refine Rn.zast dX12_tried_82 (rc171 hRN1) (by unfold vp_in; decide) ?_
                  refine Rn.iconstv (v := 0) dX12_tried_83 ic_0 ?_
                  refine Rn.istore (lv' := [some (.ref 149), some (.int (nI c)), some (.int 0), some (.int (nI N)), some (.int 5), some (.int 0)]) dX12_tried_84 (by decide) rfl ?_
                  refine Rn.meq (M2 := sI N1 171 (upd (N1.1 171) 1 0)) rfl ?_
                  have hT2m : Rt M (sI N1 171 (upd (N1.1 171) 1 0)) nw t nf (-1) 0 s fc fk ∧ (sI N1 171 (upd (N1.1 171) 1 0)).1 171 1 = 0 := ⟨⟨hT1.1.bl, hT1.2.1.eq rfl, hT1.2.2.1, hT1.2.2.2⟩, rfl⟩
                  revert hT2m
                  generalize sI N1 171 (upd (N1.1 171) 1 0) = N2
                  rintro ⟨hT2, hbl2⟩
                  have hRN2 : RW ly N2.2.2 := by rw [hT2.1.1]; exact hR
                  have loop : ∀ (k i : Nat) (K : Mm), i + k = nw → Rt M K nw t nf (-1) 0 (stgS s (s.2.2.2.2.1.2.2.1)) fc fk → K.1 171 1 = 0 → Rn G l mX12_tried (8, 0, 0, false) 86 [some (.ref 149), some (.int (nI c)), some (.int 0), some (.int (nI N)), some (.int 5), some (.int (nI i))] [] ly K Q := by
                    intro k
                    induction k with
                    | zero =>
                      intro i K hi hT hb
                      have hRK : RW ly K.2.2 := by rw [hT.1.1]; exact hR
                      have hnw : K.1 151 6 = nI nw := (hS.q hT.1).nw
                      have hw6 := hS.w6
                      refine Rn.iload dX12_tried_86 rfl ?_
                      refine Rn.aload_n dX12_tried_88 rfl ?_
                      refine Rn.getR dX12_tried_89 fX12_15 rfl (rc149 hRK) (show K.2.2 149 3 = some 151 from (rpt3 hRK)) ?_
                      refine Rn.bipushv (v := 6) dX12_tried_92 bp_6 ?_
                      refine Rn.iald dX12_tried_94 (rc151 hRK) (by unfold vp_in; decide) ?_
                      refine Rn.topI (y := K.1 151 6) (rfl) ?_
                      refine Rn.topI (y := nI nw) (hnw) ?_
                      refine Rn.icmp_ge dX12_tried_95 (fun hc => ?_) (fun hc => ?_)
                      · skip
                        have e0 : i = nw := by omega
                        have hT3 : Rt M K nw t nf (-1) 0 s fc fk := hT
                        refine Rn.aload_n dX12_tried_129 rfl ?_
                        refine Rn.iload dX12_tried_130 rfl ?_
                        refine Rn.putI dX12_tried_132 fX12_126 rfl rfl rfl (rc149 hRK) ?_
                        refine Rn.iconstv (v := 0) dX12_tried_135 ic_0 ?_
                        refine Rn.istore (lv' := [some (.ref 149), some (.int (nI c)), some (.int 0), some (.int (nI N)), some (.int 5), some (.int 0)]) dX12_tried_136 (by decide) rfl ?_
                        have hp := hS.1.q hT3.1
                        have hm3 : md (sI K 149 (upd (K.1 149) 55 5)) 5 0 := ⟨rfl, hT3.2.1.2.1, hT3.2.1.2.2.1, hT3.2.1.2.2.2⟩
                        have hE3 : EVt (sI K 149 (upd (K.1 149) 55 5)).1 1 n nw p (htR 5 h0) 0 ca W (fun m => valL m (lw 0).1 (lw 0).2) (fun _ => erL) := EVt.ofg (N := sI K 149 (upd (K.1 149) 55 5)) (hp.mv (fun a ha => sI_ne (by omega))) hm3 (by decide) hb (ftR.cm (nf := nf) (fc := fc) (fk := fk) hT3.2.2.2 (show ¬ ((5 : Int32) = 1) by decide) (fun c hc => by show mn 100 (cmR (K.1 151 3) fc fk (nI c) nf) = ca c; rw [hp.2.2.2.1]; exact hca c hc)) (fun m => (if_pos rfl).trans (if_pos rfl).symm)
                        have ehet : htR 5 h0 = h0 := if_neg (by decide)
                        rw [ehet] at hE3
                        have hq3 : qR M (sI K 149 (upd (K.1 149) 55 5)) := hT3.1.fj (by decide)
                        have hs3 : rAl (sI K 149 (upd (K.1 149) 55 5)).1 1 nw t (s) := hT3.2.2.1
                        clear hT3 hT
                        revert hm3 hE3 hq3 hs3
                        generalize sI K 149 (upd (K.1 149) 55 5) = N3
                        intro hm3 hE3 hq3 hs3
                        have hRN3 : RW ly N3.2.2 := by rw [hq3.1]; exact hR
                        have loop2 : ∀ (k j : Nat) (K2 : Mm), j + k = N → qR M K2 → md K2 5 0 → EVt K2.1 1 n nw p h0 0 ca W (fun m => valL m (lw 0).1 (lw 0).2) (fun _ => erL) → rAl K2.1 1 nw (t + j) (itF (fun _ => TR n nw p h0 0 ca W (fun m => valL m (lw 0).1 (lw 0).2) (fun _ => erL)) j (s)) → Rn G l mX12_tried (8, 0, 0, false) 138 [some (.ref 149), some (.int (nI c)), some (.int 0), some (.int (nI N)), some (.int 5), some (.int (nI j))] [] ly K2 Q := by
                          intro k
                          induction k with
                          | zero =>
                            intro j K2 hj hq hm hE hs
                            have hRK2 : RW ly K2.2.2 := by rw [hq.1]; exact hR
                            refine Rn.iload dX12_tried_138 rfl ?_
                            refine Rn.iload_n dX12_tried_140 rfl ?_
                            refine Rn.icmp_ge dX12_tried_141 (fun hc2 => ?_) (fun hc2 => ?_)
                            · skip
                              have ej : j = N := by omega
                              rw [ej] at hs
                              refine Rn.aload_n dX12_tried_155 rfl ?_
                              refine Rn.callV0 dX12_tried_156 vX12_447 (rc149 hRK2) (by decide) rfl (tX12_plain (M := K2) hRK2) (by decide) ⟨(Nat.le_of_ble_eq_true rfl), (Nat.le_of_ble_eq_true rfl), (Nat.le_of_ble_eq_true rfl)⟩ (fun h => by cases h) (fun v1 ly1 M1 ⟨q1, q2, q3⟩ => ?_)
                              rw [q1, q2, q3]
                              have hq4m : qR M (sI K2 149 (upd (upd (upd (upd (upd (K2.1 149) 55 (-1)) 56 0) 57 (-1)) 61 0) 62 0)) := qR.plain hq
                              have hs4m : rAl (sI K2 149 (upd (upd (upd (upd (upd (K2.1 149) 55 (-1)) 56 0) 57 (-1)) 61 0) 62 0)).1 1 nw (t + N) (triR n nw p h0 c0 ca W (fun m => valL m (lw 0).1 (lw 0).2) (fun m => valL m (lw 1).1 (lw 1).2) s w N 5) := hs
                              have hn4m : (sI K2 149 (upd (upd (upd (upd (upd (K2.1 149) 55 (-1)) 56 0) 57 (-1)) 61 0) 62 0)).1 151 0 = nI n := hE.1.1
                              revert hq4m hs4m hn4m
                              generalize (sI K2 149 (upd (upd (upd (upd (upd (K2.1 149) 55 (-1)) 56 0) 57 (-1)) 61 0) 62 0)) = N4
                              intro hq4 hs4 hn4
                              have hRN4 : RW ly N4.2.2 := by rw [hq4.1]; exact hR
                              refine Rn.aload_n dX12_tried_159 rfl ?_
                              refine Rn.iconstv (v := 1) dX12_tried_160 ic_1 ?_
                              refine Rn.iload_n dX12_tried_161 rfl ?_
                              refine Rn.bipushv (v := 6) dX12_tried_162 bp_6 ?_
                              refine Rn.icmp_ge dX12_tried_164 (fun hx6 => ?_) (fun hx6 => ?_)
                              · skip
                                have hcx : c = 6 + 5 := hcc.resolve_left (fun h => absurd hx6 (by rw [h]; decide))
                                refine Rn.aload_n dX12_tried_174 rfl ?_
                                refine Rn.getR dX12_tried_175 fX12_92 rfl (rc149 hRN4) (show N4.2.2 149 41 = some 175 from (rpt41 hRN4)) ?_
                                refine Rn.callV2 dX12_tried_178 vX12_457 (rc149 hRN4) (by decide) rfl (tX12_greatest175 (b := 1) (n := n) (M := N4) (by decide) hn4 hS.n.2 hRN4) (by decide) ⟨(Nat.le_of_ble_eq_true rfl), (Nat.le_of_ble_eq_true rfl), (Nat.le_of_ble_eq_true rfl)⟩ (fun h => by cases h) (fun v1 ly1 M1 ⟨q1, q2, q3⟩ => ?_)
                                rw [q1, q2, q3]
                                refine Rn.topI (y := gr (triR n nw p h0 c0 ca W (fun m => valL m (lw 0).1 (lw 0).2) (fun m => valL m (lw 1).1 (lw 1).2) s w N 5).2.2.1 n) (gr_E hs4.2.2.1 n hS.n.2) ?_
                                exact Rn.iret (ty := .int) dX12_tried_181 rfl rfl ((hA N4 hq4).2 (by rw [hcx]))
                              · skip
                                have hcx : c = 5 := hcc.resolve_right (fun h => hx6 (by rw [h]; decide))
                                refine Rn.aload_n dX12_tried_167 rfl ?_
                                refine Rn.getR dX12_tried_168 fX12_86 rfl (rc149 hRN4) (show N4.2.2 149 39 = some 173 from (rpt39 hRN4)) ?_
                                refine Rn.goto dX12_tried_171 ?_
                                refine Rn.callV2 dX12_tried_178 vX12_457 (rc149 hRN4) (by decide) rfl (tX12_greatest173 (b := 1) (n := n) (M := N4) (by decide) hn4 hS.n.2 hRN4) (by decide) ⟨(Nat.le_of_ble_eq_true rfl), (Nat.le_of_ble_eq_true rfl), (Nat.le_of_ble_eq_true rfl)⟩ (fun h => by cases h) (fun v1 ly1 M1 ⟨q1, q2, q3⟩ => ?_)
                                rw [q1, q2, q3]
                                refine Rn.topI (y := gr (triR n nw p h0 c0 ca W (fun m => valL m (lw 0).1 (lw 0).2) (fun m => valL m (lw 1).1 (lw 1).2) s w N 5).1 n) (gr_E hs4.1 n hS.n.2) ?_
                                exact Rn.iret (ty := .int) dX12_tried_181 rfl rfl ((hA N4 hq4).1 (by rw [hcx]))
                            · skip
                              exact absurd (nI_le (a := N) (b := j) (by omega) (by omega)) hc2
                          | succ k ih2 =>
                            intro j K2 hj hq hm hE hs
                            have hRK2 : RW ly K2.2.2 := by rw [hq.1]; exact hR
                            refine Rn.iload dX12_tried_138 rfl ?_
                            refine Rn.iload_n dX12_tried_140 rfl ?_
                            refine Rn.icmp_ge dX12_tried_141 (fun hc2 => ?_) (fun hc2 => ?_)
                            · skip
                              exact absurd hc2 (nI_ge (a := j) (b := N) (by omega) (by omega))
                            · skip
                              refine Rn.aload_n dX12_tried_144 rfl ?_
                              refine Rn.iconstv (v := 1) dX12_tried_145 ic_1 ?_
                              refine Rn.callV1 dX12_tried_146 vX12_454 (rc149 hRK2) (by decide) rfl (rvPass (b := 1) (N := K2) (Q := fun v0 ly0 K3 => v0 = none ∧ ly0 = ly ∧ psF K2 K3 1 ∧ EVt K3.1 1 n nw p h0 0 ca W (fun m => valL m (lw 0).1 (lw 0).2) (fun _ => erL) ∧ rAl K3.1 1 nw (t + j + 1) (itF (fun _ => TR n nw p h0 0 ca W (fun m => valL m (lw 0).1 (lw 0).2) (fun _ => erL)) (j + 1) (s))) (by decide) hE hm.2.2.1 hs (by have := hS.2.2.2.2; omega) hRK2 (fun K3 a c d => ⟨rfl, rfl, a, c, d⟩)) (by decide) ⟨(Nat.le_of_ble_eq_true rfl), (Nat.le_of_ble_eq_true rfl), (Nat.le_of_ble_eq_true rfl)⟩ (fun h => by cases h) (fun v1 ly1 K3 ⟨q1, q2, hF3, hE3, hs3⟩ => ?_)
                              rw [q1, q2]
                              refine Rn.iincN (lv' := [some (.ref 149), some (.int (nI c)), some (.int 0), some (.int (nI N)), some (.int 5), some (.int (nI (j + 1)))]) dX12_tried_149 rfl (by decide) rfl ?_
                              refine Rn.goto dX12_tried_152 ?_
                              exact ih2 (j + 1) K3 (by omega) (hq.tr hF3.q) (hm.ps hF3) hE3 hs3
                        exact loop2 N 0 N3 (by omega) hq3 hm3 hE3 hs3
                      · skip
                        exact absurd (nI_le (a := nw) (b := i) (by omega) (by omega)) hc
                    | succ k ih =>
                      intro i K hi hT hb
                      have hRK : RW ly K.2.2 := by rw [hT.1.1]; exact hR
                      have hnw : K.1 151 6 = nI nw := (hS.q hT.1).nw
                      have hw6 := hS.w6
                      refine Rn.iload dX12_tried_86 rfl ?_
                      refine Rn.aload_n dX12_tried_88 rfl ?_
                      refine Rn.getR dX12_tried_89 fX12_15 rfl (rc149 hRK) (show K.2.2 149 3 = some 151 from (rpt3 hRK)) ?_
                      refine Rn.bipushv (v := 6) dX12_tried_92 bp_6 ?_
                      refine Rn.iald dX12_tried_94 (rc151 hRK) (by unfold vp_in; decide) ?_
                      refine Rn.topI (y := K.1 151 6) (rfl) ?_
                      refine Rn.topI (y := nI nw) (hnw) ?_
                      refine Rn.icmp_ge dX12_tried_95 (fun hc => ?_) (fun hc => ?_)
                      · skip
                        exact absurd hc (nI_ge (a := i) (b := nw) (by omega) (by omega))
                      · skip
                        refine Rn.iload dX12_tried_98 rfl ?_
                        refine Rn.iconstv (v := 2) dX12_tried_100 ic_2 ?_
                        refine Rn.icmp_eq dX12_tried_101 (fun h2 => ?_) (fun h2 => ?_)
                        · skip
                          first | exact absurd h2 (by decide) | exact absurd (by decide) h2
                        · skip
                          refine Rn.iload dX12_tried_104 rfl ?_
                          refine Rn.iconstv (v := 3) dX12_tried_106 ic_3 ?_
                          refine Rn.icmp_ne dX12_tried_107 (fun h3 => ?_) (fun h3 => ?_)
                          · skip
                            refine Rn.iincN (lv' := [some (.ref 149), some (.int (nI c)), some (.int 0), some (.int (nI N)), some (.int 5), some (.int (nI (i + 1)))]) dX12_tried_123 rfl (by decide) rfl ?_
                            refine Rn.goto dX12_tried_126 ?_
                            exact ih (i + 1) K (by omega) (hT) hb
                          · skip
                            first | exact absurd h3 (by decide) | exact absurd (by decide) h3
                  exact loop nw 0 N2 (by omega) hT2 hbl2
                · skip
                  first | exact absurd hb4 (by decide) | exact absurd (by decide) hb4
              · skip
                refine Rn.iconstv (v := -1) dX12_tried_54 ic_m1 ?_
                exact Rn.iret (ty := .int) dX12_tried_55 rfl rfl (hQ.1 (fun h => gy (by have h2 := h.2.2; rw [if_neg (by rcases hcc with rfl | rfl <;> decide)] at h2; exact h2)) _ qR.rf.f0)
            · skip
              first | exact absurd h36 (by decide) | exact absurd (by decide) h36
        · skip
          refine Rn.iconstv (v := -1) dX12_tried_25 ic_m1 ?_
          exact Rn.iret (ty := .int) dX12_tried_26 rfl rfl (hQ.1 (fun h => g4 h.2.1.2) _ qR.rf.f0)
