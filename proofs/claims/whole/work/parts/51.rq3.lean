theorem lvO_at {s : Int32} {g : Nat → Int32} : ∀ (k w : Nat), lvO s g k w = if w < k ∧ (s >>> (nI w &&& 31)) &&& 1 = 0 then 2 else g w
  | 0, w => by rw [if_neg (by omega)]; rfl
  | k + 1, w => by
    have ih := lvO_at (s := s) (g := g) k w
    show (if (s >>> (nI k &&& 31)) &&& 1 = 0 then upd (lvO s g k) k 2 else lvO s g k) w = _
    by_cases h : (s >>> (nI k &&& 31)) &&& 1 = 0
    · rw [if_pos h]
      by_cases e : w = k
      · subst e; rw [pk_us, if_pos ⟨Nat.lt_succ_self w, h⟩]
      · rw [pk_un e, ih]
        by_cases h2 : w < k ∧ (s >>> (nI w &&& 31)) &&& 1 = 0
        · rw [if_pos h2, if_pos ⟨by omega, h2.2⟩]
        · rw [if_neg h2, if_neg (fun h3 => h2 ⟨by omega, h3.2⟩)]
    · rw [if_neg h, ih]
      by_cases h2 : w < k ∧ (s >>> (nI w &&& 31)) &&& 1 = 0
      · rw [if_pos h2, if_pos ⟨by omega, h2.2⟩]
      · rw [if_neg h2, if_neg (fun h3 => h2 ⟨Nat.lt_of_le_of_ne (by omega) (fun e => h (e ▸ h3.2)), h3.2⟩)]
theorem rvRest0 {G : Gx} {l : Launch} {ly : Ly} {M N : Mm} {n nw t nf : Nat} {p : P4} {h0 c0 : Int32} {W : Wx} {lw : Nat → (Nat → Int32) × Nat} {s : Sc} {fc fk : Nat → Int32}  (hS : RS M n nw t nf p h0 c0 W lw s fc fk) (hq : qR M N) (hR : RW ly M.2.2) {Q : Qt} (hQ : ∀ K : Mm, qR M K → K.1 149 = N.1 149 → (∀ nw2, nw2 ≤ 6 → rAl K.1 1 nw2 0 (zsc 0 (fun _ => 0))) → ftR K.1 1 nf fc fk → K.1 171 1 = 0 → K.1 195 = N.1 195 → Q none ly K) : Mt G l mX12_begins (2, 0, 0, false) [.ref 149] ly N Q := by
  refine Mt.of (lv := [some (.ref 149)]) rfl ?_
  have hRN : RW ly N.2.2 := by rw [hq.1]; exact hR
  have hS2 := hS.q hq
  have hf := hS2.2.2.1
  refine Rn.aload_n dX12_begins_0 rfl ?_
  refine Rn.iconstv (v := 1) dX12_begins_1 ic_1 ?_
  refine Rn.iconstv (v := 0) dX12_begins_2 ic_0 ?_
  refine Rn.callV2 dX12_begins_3 vX12_343 (rc149 hRN) (by decide) rfl (tX12_copiesFat (M := N) (p := 1) (q := 0) (nf := nf) (Q := fun v0 ly0 K => v0 = none ∧ ly0 = ly ∧ cfR N K 1 0 nf) (by decide) (by decide) (by decide) hf.1 hf.2.1 hRN (fun K h => ⟨rfl, rfl, h⟩)) (by decide) ⟨(Nat.le_of_ble_eq_true rfl), (Nat.le_of_ble_eq_true rfl), (Nat.le_of_ble_eq_true rfl)⟩ (fun h => by cases h) (fun v1 ly1 N1 ⟨q1, q2, k1, k2, k3, k4, k5⟩ => ?_)
  rw [q1, q2]
  have k1M : N1.2.2 = M.2.2 := k1.trans hq.1
  have hRN1 : RW ly N1.2.2 := by rw [k1M]; exact hR
  refine Rn.aload_n dX12_begins_6 rfl ?_
  refine Rn.getR dX12_begins_7 fX12_76 rfl (rc149 hRN1) (show N1.2.2 149 36 = some 170 from (rpt36 hRN1)) ?_
  refine Rn.iconstv (v := 1) dX12_begins_10 ic_1 ?_
  refine Rn.iconstv (v := 0) dX12_begins_11 ic_0 ?_
  refine Rn.iast dX12_begins_12 (rc170 hRN1) (by unfold vp_in; decide) ?_
  refine Rn.aload_n dX12_begins_13 rfl ?_
  refine Rn.getR dX12_begins_14 fX12_79 rfl (rc149 hRN1) (show N1.2.2 149 37 = some 171 from (rpt37 hRN1)) ?_
  refine Rn.iconstv (v := 1) dX12_begins_17 ic_1 ?_
  refine Rn.iconstv (v := 0) dX12_begins_18 ic_0 ?_
  refine Rn.zast dX12_begins_19 (rc171 hRN1) (by unfold vp_in; decide) ?_
  refine Rn.aload_n dX12_begins_20 rfl ?_
  refine Rn.iconstv (v := 1) dX12_begins_21 ic_1 ?_
  refine Rn.callV1 dX12_begins_22 vX12_165 (rc149 hRN1) (by decide) rfl (tX12_rests (M := sI (sI N1 170 (upd (N1.1 170) 1 0)) 171 (upd (N1.1 171) 1 (vp_nar .boolean 0))) (b := 1) (by decide) hRN1) (by decide) ⟨(Nat.le_of_ble_eq_true rfl), (Nat.le_of_ble_eq_true rfl), (Nat.le_of_ble_eq_true rfl)⟩ (fun h => by cases h) (fun v1 ly1 N2 ⟨q1, q2, q3⟩ => ?_)
  rw [q1, q2]
  have r2 : N2.2.2 = M.2.2 := by rw [q3]; exact k1M
  have eo : ∀ a, (a < 169 ∨ 180 ≤ a) → N2.1 a = N1.1 a := fun a ha => by rw [q3]; exact (sI_ne (by omega)).trans ((sI_ne (by omega)).trans ((sI_ne (by omega)).trans ((sI_ne (by omega)).trans ((sI_ne (by omega)).trans ((sI_ne (by omega)).trans ((sI_ne (by omega)).trans ((sI_ne (by omega)).trans ((sI_ne (by omega)).trans ((sI_ne (by omega)).trans (sI_ne (by omega)))))))))))
  have e1 : N2.1 169 = upd (N1.1 169) 1 0 ∧ N2.1 170 = upd (N1.1 170) 1 0 ∧ N2.1 171 = upd (N1.1 171) 1 0 ∧ N2.1 172 = upd (N1.1 172) 1 0 := by rw [q3]; exact ⟨rfl, rfl, rfl, rfl⟩
  have e2 : N2.1 173 = blk (12 * 1) 12 (fun _ => 0) (N1.1 173) ∧ N2.1 174 = blk (12 * 1) 12 (fun _ => 0) (N1.1 174) ∧ N2.1 175 = blk (12 * 1) 12 (fun _ => 0) (N1.1 175) ∧ N2.1 176 = blk (12 * 1) 12 (fun _ => 0) (N1.1 176) := by rw [q3]; exact ⟨rfl, rfl, rfl, rfl⟩
  have e3 : N2.1 177 = blk (6 * 1) 6 (fun _ => -1) (N1.1 177) ∧ N2.1 178 = blk (6 * 1) 6 (fun _ => 0) (N1.1 178) ∧ N2.1 179 = blk (6 * 1) 6 (fun _ => 0) (N1.1 179) := by rw [q3]; exact ⟨rfl, rfl, rfl⟩
  clear q3
  refine Rn.vret dX12_begins_25 rfl (hQ N2 (hq.tr ⟨r2.trans hq.1.symm, fun a a1 a2 a3 a4 => (eo a (by omega)).trans (k2 a (by omega) (by omega) (by omega)), fun j a1 a2 a3 a4 a5 => congrFun ((eo 149 (by omega)).trans (k2 149 (by decide) (by decide) (by decide))) j, fun a ha j a1 a2 => ?_, fun a ha j hj => ?_, fun a ha j hj => ?_⟩) ((eo 149 (by omega)).trans (k2 149 (by decide) (by decide) (by decide))) (fun nw2 hn2 => ⟨?_, ?_, ?_, ?_, fun w hw => ?_, ?_, ⟨?_, rfl⟩, ?_, fun c hc => rfl, fun c hc => rfl⟩) ⟨?_, hf.2.1, ?_, ?_⟩ ?_ ((eo 195 (by omega)).trans (k2 195 (by decide) (by decide) (by decide))))
  · rcases (show a = 169 ∨ a = 170 ∨ a = 171 ∨ a = 172 ∨ a = 180 by omega) with rfl | rfl | rfl | rfl | rfl
    · rw [e1.1, k2 169 (by decide) (by decide) (by decide)]; exact pk_un a1
    · rw [e1.2.1, k2 170 (by decide) (by decide) (by decide)]; exact pk_un a1
    · rw [e1.2.2.1, k2 171 (by decide) (by decide) (by decide)]; exact pk_un a1
    · rw [e1.2.2.2, k2 172 (by decide) (by decide) (by decide)]; exact pk_un a1
    · rw [eo 180 (by omega), k3]; exact pk_un a1
  · rcases (show a = 173 ∨ a = 174 ∨ a = 175 ∨ a = 176 ∨ a = 181 ∨ a = 182 by omega) with rfl | rfl | rfl | rfl | rfl | rfl
    · rw [e2.1, k2 173 (by decide) (by decide) (by decide)]; exact blk_out (by omega)
    · rw [e2.2.1, k2 174 (by decide) (by decide) (by decide)]; exact blk_out (by omega)
    · rw [e2.2.2.1, k2 175 (by decide) (by decide) (by decide)]; exact blk_out (by omega)
    · rw [e2.2.2.2, k2 176 (by decide) (by decide) (by decide)]; exact blk_out (by omega)
    · rw [eo 181 (by omega), k4]; exact blk_out (by have := hf.2.1; omega)
    · rw [eo 182 (by omega), k5]; exact blk_out (by have := hf.2.1; omega)
  · rcases (show a = 177 ∨ a = 178 ∨ a = 179 by omega) with rfl | rfl | rfl
    · rw [e3.1, k2 177 (by decide) (by decide) (by decide)]; exact blk_out (by omega)
    · rw [e3.2.1, k2 178 (by decide) (by decide) (by decide)]; exact blk_out (by omega)
    · rw [e3.2.2, k2 179 (by decide) (by decide) (by decide)]; exact blk_out (by omega)
  · rw [e2.1]; exact sh_in
  · rw [e2.2.1]; exact sh_in
  · rw [e2.2.2.1]; exact sh_in
  · rw [e2.2.2.2]; exact sh_in
  · rw [e3.1, e3.2.1, e3.2.2, blk_in (by omega), blk_in (by omega), blk_in (by omega)]
    exact ⟨rfl, rfl, rfl, Or.inl ⟨rfl, rfl⟩⟩
  · rw [e1.2.2.2]; exact pk_us
  · rw [e1.1]; exact pk_us
  · rw [e1.2.1]; exact pk_us
  · rw [eo 180 (by omega), k3]; exact pk_us
  · rw [eo 181 (by omega), k4]; exact sh_in.tr hf.2.2.1
  · rw [eo 182 (by omega), k5]; exact sh_in.tr hf.2.2.2
  · rw [e1.2.2.1]; exact pk_us
theorem rvRest {G : Gx} {l : Launch} {ly : Ly} {M N : Mm} {n nw t nf : Nat} {p : P4} {h0 c0 : Int32} {W : Wx} {lw : Nat → (Nat → Int32) × Nat} {s : Sc} {fc fk : Nat → Int32} {x : Int32} {kp : Nat} (hm : md N x kp) (hS : RS M n nw t nf p h0 c0 W lw s fc fk) (hq : qR M N) (hR : RW ly M.2.2) {Q : Qt} (hQ : ∀ K : Mm, (∀ nw2, nw2 ≤ 6 → Rt M K nw2 0 nf x kp (zsc 0 (fun _ => 0)) fc fk) → K.1 171 1 = 0 → K.1 195 = N.1 195 → Q none ly K) : Mt G l mX12_begins (2, 0, 0, false) [.ref 149] ly N Q :=
  rvRest0 hS hq hR (fun K a c d e f g => hQ K (fun nw2 h2 => ⟨a, hm.eq c, d nw2 h2, e⟩) f g)
/-- a walker of the trial leaves -/
theorem Rt.lv {M N : Mm} {nw t nf w : Nat} {x : Int32} {kp : Nat} {s : Sc} {fc fk : Nat → Int32} (h : Rt M N nw t nf x kp s fc fk) (hw6 : nw ≤ 6) (hw : w < nw) : Rt M (sI (sI N 179 (upd (N.1 179) (6 * 1 + w) 2)) 177 (upd (N.1 177) (6 * 1 + w) (-1))) nw t nf x kp (stgS s (upd s.2.2.2.2.1.2.2.1 w 2)) fc fk := by
  obtain ⟨h1, h2, ⟨r1, r2, r3, r4, r5, r6, r7, r8, r9, r10⟩, h4⟩ := h
  refine ⟨h1.tr ⟨rfl, fun a a1 a2 a3 a4 => (sI_ne (by omega)).trans (sI_ne (by omega)), fun j a1 a2 a3 a4 a5 => rfl, fun a ha j a1 a2 => congrFun ((sI_ne (by omega)).trans (sI_ne (by omega))) j, fun a ha j hj => congrFun ((sI_ne (by omega)).trans (sI_ne (by omega))) j, fun a ha j hj => ?_⟩, h2.eq rfl, ⟨r1, r2, r3, r4, fun v hv => ?_, r6, r7, r8, r9, r10⟩, h4⟩
  · rcases (show a = 177 ∨ a = 178 ∨ a = 179 by omega) with rfl | rfl | rfl
    · exact pk_un (by omega)
    · rfl
    · exact pk_un (by omega)
  · have h0 := r5 v hv
    show wk1 t (upd (N.1 177) (6 * 1 + w) (-1) (6 * 1 + v)) (N.1 178 (6 * 1 + v)) (upd (N.1 179) (6 * 1 + w) 2 (6 * 1 + v)) (s.2.2.2.2.1.1 v) (s.2.2.2.2.1.2.1 v) (upd s.2.2.2.2.1.2.2.1 w 2 v)
    by_cases e : v = w
    · subst e
      rw [pk_us, pk_us, pk_us]
      exact ⟨h0.1, rfl, rfl, Or.inr (Or.inr rfl)⟩
    · rw [pk_un (by omega), pk_un (by omega), pk_un e]; exact h0
theorem rvLv {G : Gx} {l : Launch} {ly : Ly} {M N : Mm} {nw t nf w : Nat} {x : Int32} {kp : Nat} {s : Sc} {fc fk : Nat → Int32} (h : Rt M N nw t nf x kp s fc fk) (hw6 : nw ≤ 6) (hw : w < nw) (hR : RW ly N.2.2) {Q : Qt} (hQ : ∀ K : Mm, Rt M K nw t nf x kp (stgS s (upd s.2.2.2.2.1.2.2.1 w 2)) fc fk → K.1 171 = N.1 171 ∧ K.1 195 = N.1 195 → Q none ly K) : Mt G l mX12_leaves (1, 0, 0, false) [.ref 149, .int (nI 1), .int (nI w)] ly N Q := by
  refine Mt.post (tX12_leaves (b := 1) (w := w) (by decide) (by omega) hR) ?_
  rintro v ly2 K ⟨rfl, rfl, rfl⟩
  exact hQ _ (h.lv hw6 hw) ⟨rfl, rfl⟩
theorem Rt.sg {M N : Mm} {nw t nf : Nat} {x : Int32} {kp : Nat} {s : Sc} {fc fk g g2 : Nat → Int32} (h : Rt M N nw t nf x kp (stgS s g) fc fk) (e : ∀ w, w < nw → g w = g2 w) : Rt M N nw t nf x kp (stgS s g2) fc fk := by
  obtain ⟨h1, h2, ⟨r1, r2, r3, r4, r5, r6, r7, r8, r9, r10⟩, h4⟩ := h
  refine ⟨h1, h2, ⟨r1, r2, r3, r4, fun v hv => ?_, r6, r7, r8, r9, r10⟩, h4⟩
  have := r5 v hv
  show wk1 t _ _ _ (s.2.2.2.2.1.1 v) (s.2.2.2.2.1.2.1 v) (g2 v)
  rw [← e v hv]; exact this
theorem rvWith {G : Gx} {l : Launch} {ly : Ly} {M N : Mm} {n nw t nf : Nat} {p : P4} {h0 c0 : Int32} {W : Wx} {lw : Nat → (Nat → Int32) × Nat} {s : Sc} {fc fk : Nat → Int32} {x z : Int32} {kp : Nat} (hm : md N x kp) (hS : RS M n nw t nf p h0 c0 W lw s fc fk) (hq : qR M N) (hR : RW ly M.2.2) {Q : Qt} (hQ : ∀ K : Mm, Rt M K nw 0 nf x kp (zsc 0 (lvO z (fun _ => 0) 6)) fc fk → K.1 171 1 = 0 → K.1 195 = N.1 195 → Q none ly K) : Mt G l mX12_beginsWith (3, 0, 0, false) [.ref 149, .int z] ly N Q := by
  refine Mt.of (lv := [some (.ref 149), some (.int z), none]) rfl ?_
  have hRN : RW ly N.2.2 := by rw [hq.1]; exact hR
  refine Rn.aload_n dX12_beginsWith_0 rfl ?_
  refine Rn.callV0 dX12_beginsWith_1 vX12_493 (rc149 hRN) (by decide) rfl (rvRest (M := M) (N := N) (x := x) (kp := kp) (Q := fun v0 ly0 K => v0 = none ∧ ly0 = ly ∧ Rt M K nw 0 nf x kp (zsc 0 (fun _ => 0)) fc fk ∧ K.1 171 1 = 0 ∧ K.1 195 = N.1 195) hm hS hq hR (fun K a c d => ⟨rfl, rfl, a nw hS.w6, c, d⟩)) (by decide) ⟨(Nat.le_of_ble_eq_true rfl), (Nat.le_of_ble_eq_true rfl), (Nat.le_of_ble_eq_true rfl)⟩ (fun h => by cases h) (fun v1 ly1 N1 ⟨q1, q2, hT1, hb1, hz1⟩ => ?_)
  rw [q1, q2]
  have hRN1 : RW ly N1.2.2 := by rw [hT1.1.1]; exact hR
  refine Rn.iconstv (v := 0) dX12_beginsWith_4 ic_0 ?_
  refine Rn.istore_n (lv' := [some (.ref 149), some (.int z), some (.int 0)]) dX12_beginsWith_5 (by decide) rfl ?_
  have loop : ∀ (k i : Nat) (K : Mm), i + k = nw → Rt M K nw 0 nf x kp (stgS (zsc 0 (fun _ => 0)) (lvO z (fun _ => 0) i)) fc fk → K.1 171 1 = 0 ∧ K.1 195 = N.1 195 → Rn G l mX12_beginsWith (3, 0, 0, false) 6 [some (.ref 149), some (.int z), some (.int (nI i))] [] ly K Q := by
    intro k
    induction k with
    | zero =>
      intro i K hi hT hb
      have hRK : RW ly K.2.2 := by rw [hT.1.1]; exact hR
      have hnw : K.1 151 6 = nI nw := (hS.q hT.1).nw
      have hw6 := hS.w6
      refine Rn.iload_n dX12_beginsWith_6 rfl ?_
      refine Rn.aload_n dX12_beginsWith_7 rfl ?_
      refine Rn.getR dX12_beginsWith_8 fX12_15 rfl (rc149 hRK) (show K.2.2 149 3 = some 151 from (rpt3 hRK)) ?_
      refine Rn.bipushv (v := 6) dX12_beginsWith_11 bp_6 ?_
      refine Rn.iald dX12_beginsWith_13 (rc151 hRK) (by unfold vp_in; decide) ?_
      refine Rn.topI (y := K.1 151 6) (rfl) ?_
      refine Rn.topI (y := nI nw) (hnw) ?_
      refine Rn.icmp_ge dX12_beginsWith_14 (fun hc => ?_) (fun hc => ?_)
      · skip
        have e0 : i = nw := by omega
        refine Rn.vret dX12_beginsWith_37 rfl (hQ K ?_ hb.1 hb.2)
        refine (hT.sg (fun w hw => ?_) : Rt M K nw 0 nf x kp (stgS (zsc 0 (fun _ => 0)) (lvO z (fun _ => 0) 6)) fc fk)
        rw [lvO_at, lvO_at]
        by_cases h2 : (z >>> (nI w &&& 31)) &&& 1 = 0
        · rw [if_pos ⟨by omega, h2⟩, if_pos ⟨by omega, h2⟩]
        · rw [if_neg (fun h => h2 h.2), if_neg (fun h => h2 h.2)]
      · skip
        exact absurd (nI_le (a := nw) (b := i) (by omega) (by omega)) hc
    | succ k ih =>
      intro i K hi hT hb
      have hRK : RW ly K.2.2 := by rw [hT.1.1]; exact hR
      have hnw : K.1 151 6 = nI nw := (hS.q hT.1).nw
      have hw6 := hS.w6
      refine Rn.iload_n dX12_beginsWith_6 rfl ?_
      refine Rn.aload_n dX12_beginsWith_7 rfl ?_
      refine Rn.getR dX12_beginsWith_8 fX12_15 rfl (rc149 hRK) (show K.2.2 149 3 = some 151 from (rpt3 hRK)) ?_
      refine Rn.bipushv (v := 6) dX12_beginsWith_11 bp_6 ?_
      refine Rn.iald dX12_beginsWith_13 (rc151 hRK) (by unfold vp_in; decide) ?_
      refine Rn.topI (y := K.1 151 6) (rfl) ?_
      refine Rn.topI (y := nI nw) (hnw) ?_
      refine Rn.icmp_ge dX12_beginsWith_14 (fun hc => ?_) (fun hc => ?_)
      · skip
        exact absurd hc (nI_ge (a := i) (b := nw) (by omega) (by omega))
      · skip
        refine Rn.iload_n dX12_beginsWith_17 rfl ?_
        refine Rn.iload_n dX12_beginsWith_18 rfl ?_
        refine Rn.ishr dX12_beginsWith_19 ?_
        refine Rn.iconstv (v := 1) dX12_beginsWith_20 ic_1 ?_
        refine Rn.iand dX12_beginsWith_21 ?_
        refine Rn.if_ne dX12_beginsWith_22 (fun hbit => ?_) (fun hbit => ?_)
        · skip
          refine Rn.iincN (lv' := [some (.ref 149), some (.int z), some (.int (nI (i + 1)))]) dX12_beginsWith_31 rfl (by decide) rfl ?_
          refine Rn.goto dX12_beginsWith_34 ?_
          exact ih (i + 1) K (by omega) (by show Rt M K nw 0 nf x kp (stgS _ (if _ then _ else _)) fc fk; rw [if_neg hbit]; exact hT) hb
        · skip
          refine Rn.aload_n dX12_beginsWith_25 rfl ?_
          refine Rn.iconstv (v := 1) dX12_beginsWith_26 ic_1 ?_
          refine Rn.iload_n dX12_beginsWith_27 rfl ?_
          refine Rn.callV2 dX12_beginsWith_28 vX12_474 (rc149 hRK) (by decide) rfl (rvLv (M := M) (N := K) (w := i) (Q := fun v0 ly0 K2 => v0 = none ∧ ly0 = ly ∧ Rt M K2 nw 0 nf x kp (stgS (zsc 0 (fun _ => 0)) (upd (lvO z (fun _ => 0) i) i 2)) fc fk ∧ K2.1 171 = K.1 171 ∧ K2.1 195 = K.1 195) hT hw6 (by omega) hRK (fun K2 a c => ⟨rfl, rfl, a, c⟩)) (by decide) ⟨(Nat.le_of_ble_eq_true rfl), (Nat.le_of_ble_eq_true rfl), (Nat.le_of_ble_eq_true rfl)⟩ (fun h => by cases h) (fun v1 ly1 K2 ⟨q1, q2, hT2, hb2⟩ => ?_)
          rw [q1, q2]
          refine Rn.iincN (lv' := [some (.ref 149), some (.int z), some (.int (nI (i + 1)))]) dX12_beginsWith_31 rfl (by decide) rfl ?_
          refine Rn.goto dX12_beginsWith_34 ?_
          exact ih (i + 1) K2 (by omega) (by show Rt M K2 nw 0 nf x kp (stgS _ (if _ then _ else _)) fc fk; rw [if_pos hbit]; exact hT2) ⟨(by rw [hb2.1]; exact hb.1), hb2.2.trans hb.2⟩
  exact loop nw 0 N1 (by omega) hT1 ⟨hb1, hz1⟩
