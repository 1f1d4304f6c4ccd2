theorem and1i (x : Int32) : x &&& 1 = 0 ∨ x &&& 1 = 1 := by
  have h : (x &&& 1).toBitVec.toNat < 2 := by
    rw [Int32.toBitVec_and, BitVec.toNat_and]
    exact Nat.lt_of_le_of_lt Nat.and_le_right (by decide)
  rcases (show (x &&& 1).toBitVec.toNat = 0 ∨ (x &&& 1).toBitVec.toNat = 1 by omega) with e | e
  · exact Or.inl (Int32.toBitVec_inj.mp (BitVec.eq_of_toNat_eq e))
  · exact Or.inr (Int32.toBitVec_inj.mp (BitVec.eq_of_toNat_eq e))
theorem gr_nn {f : Nat → Int32} : ∀ n : Nat, 0 ≤ gr f n
  | 0 => Int32.le_refl 0
  | n + 1 => Int32.le_trans (gr_nn n) (mx_l _ _)
theorem pmB_0 {T : Sc → Sc} {c : Nat} {F : Int32} {s : Sc} {n N : Nat} {b0 b1 : Int32} : ∀ t : Nat, pmB T c F s n N b0 (t + 1) = pmB T c F s n N b1 (t + 1)
  | 0 => by
    have h : ¬ gr (pmI T c (nI 0) F s N).1 n ≤ pmG T c F s n N 0 := fun h => absurd (show (0 : Int32) ≤ -1 from Int32.le_trans (gr_nn n) h) (by decide)
    exact (if_neg h).trans (if_neg h).symm
  | t + 1 => by
    show (if gr (pmI T c (nI (t + 1)) F s N).1 n ≤ pmG T c F s n N (t + 1) then pmB T c F s n N b0 (t + 1) else nI (t + 1)) = (if gr (pmI T c (nI (t + 1)) F s N).1 n ≤ pmG T c F s n N (t + 1) then pmB T c F s n N b1 (t + 1) else nI (t + 1))
    rw [pmB_0 (b0 := b0) (b1 := b1) t]
/-- another bridge than the one that is copied to -/
theorem cbR.al2 {M K : Mm} {p q nf nw t b : Nat} {s : Sc} (h : cbR M K p q nf) (hnf : nf ≤ 12) (hw : nw ≤ 6) (hb : b ≠ p) (hr : rAl M.1 b nw t s) : rAl K.1 b nw t s := by
  obtain ⟨h1, h2, h3, h4, h5, h6, h7⟩ := h
  obtain ⟨r1, r2, r3, r4, r5, r6, ⟨r7, r7b⟩, r8, r9, r10⟩ := hr
  refine ⟨?_, ?_, ?_, ?_, fun w hw => ?_, ?_, ⟨?_, r7b⟩, ?_, r9, r10⟩
  · rw [h4 173 (by omega)]; exact (sh_out (by omega)).tr r1
  · rw [h4 174 (by omega)]; exact (sh_out (by omega)).tr r2
  · rw [h4 175 (by omega)]; exact (sh_out (by omega)).tr r3
  · rw [h4 176 (by omega)]; exact (sh_out (by omega)).tr r4
  · rw [h5 177 (by omega), h5 178 (by omega), h5 179 (by omega), blk_out (by omega), blk_out (by omega), blk_out (by omega)]; exact r5 w hw
  · rw [h3 172 (by omega), pk_un hb]; exact r6
  · rw [h3 169 (by omega), pk_un hb]; exact r7
  · rw [h3 170 (by omega), pk_un hb]; exact r8
theorem cbR.ft2 {M K : Mm} {p q nf nf2 b : Nat} {fc fk : Nat → Int32} (h : cbR M K p q nf) (hnf : nf ≤ 12) (hb : b ≠ p) (hf : ftR M.1 b nf2 fc fk) : ftR K.1 b nf2 fc fk := by
  obtain ⟨h1, h2, h3, h4, h5, h6, h7⟩ := h
  obtain ⟨f1, f2, f3, f4⟩ := hf
  exact ⟨by rw [h6, pk_un hb]; exact f1, f2, by rw [h7 181 (by omega)]; exact fun j hj => (blk_out (by omega)).trans (f3 j hj), by rw [h7 182 (by omega)]; exact fun j hj => (blk_out (by omega)).trans (f4 j hj)⟩
theorem psF.al2 {M K : Mm} {p nw t b : Nat} {s : Sc} (h : psF M K p) (hw : nw ≤ 6) (hb : b ≠ p) (hr : rAl M.1 b nw t s) : rAl K.1 b nw t s := by
  obtain ⟨h1, h2, h3, h4, h5, h6⟩ := h
  obtain ⟨r1, r2, r3, r4, r5, r6, ⟨r7, r7b⟩, r8, r9, r10⟩ := hr
  have e : ∀ a, 173 ≤ a ∧ a ≤ 176 → eqN 12 (sh (12 * b) (K.1 a)) (sh (12 * b) (M.1 a)) := fun a ha j hj => h5 a ha _ (by omega)
  refine ⟨(e 173 (by omega)).tr r1, (e 174 (by omega)).tr r2, (e 175 (by omega)).tr r3, (e 176 (by omega)).tr r4, fun w hw => ?_, ?_, ⟨?_, r7b⟩, ?_, r9, r10⟩
  · rw [h6 177 (by omega) _ (by omega), h6 178 (by omega) _ (by omega), h6 179 (by omega) _ (by omega)]; exact r5 w hw
  · exact (h4 172 (by omega) b hb).trans r6
  · exact (h4 169 (by omega) b hb).trans r7
  · exact (h4 170 (by omega) b hb).trans r8
theorem psF.ft2 {M K : Mm} {p nf2 b : Nat} {fc fk : Nat → Int32} (h : psF M K p) (hf : ftR M.1 b nf2 fc fk) : ftR K.1 b nf2 fc fk := by
  unfold ftR
  rw [h.at 180 (by omega), h.at 181 (by omega), h.at 182 (by omega)]
  exact hf
/-- the bridge 3 is laid -/
def Rf (M N : Mm) (nw t nf : Nat) (s : Sc) (fc fk : Nat → Int32) : Prop := qR M N ∧ (N.1 149 55 = -1 ∧ N.1 149 56 = nI 0 ∧ N.1 149 62 = 0) ∧ rAl N.1 3 nw t s ∧ ftR N.1 3 nf fc fk ∧ (N.1 171 3 = 0 ∨ N.1 171 3 = 1)
theorem Rf.ps {M N K : Mm} {nw t nf : Nat} {s : Sc} {fc fk : Nat → Int32} (h : Rf M N nw t nf s fc fk) (f : psF N K 1) (hw : nw ≤ 6) : Rf M K nw t nf s fc fk := ⟨h.1.tr f.q, ⟨(f.2.2.1 55 (by decide)).trans h.2.1.1, (f.2.2.1 56 (by decide)).trans h.2.1.2.1, (f.2.2.1 62 (by decide)).trans h.2.1.2.2⟩, f.al2 hw (by decide) h.2.2.1, f.ft2 h.2.2.2.1, by rw [f.at 171 (by omega)]; exact h.2.2.2.2⟩
theorem Rf.cp {M N K : Mm} {nw t nf : Nat} {s : Sc} {fc fk : Nat → Int32} (h : Rf M N nw t nf s fc fk) (f : cbR N K 1 3 nf) (hw : nw ≤ 6) : Rf M K nw t nf s fc fk := ⟨h.1.tr (f.q (Or.inl rfl) h.2.2.2.1.2.1), by rw [f.2.1 149 (by omega)]; exact h.2.1, f.al2 h.2.2.2.1.2.1 hw (by decide) h.2.2.1, f.ft2 h.2.2.2.1.2.1 (by decide) h.2.2.2.1, by rw [f.2.2.1 171 (by omega), pk_un (by decide)]; exact h.2.2.2.2⟩
/-- a place of the object that the laid bridge does not see -/
theorem Rf.fj {M N : Mm} {nw t nf k : Nat} {x : Int32} {s : Sc} {fc fk : Nat → Int32} (h : Rf M N nw t nf s fc fk) (hk : (57 ≤ k ∧ k ≤ 60) ∨ k = 68 ∨ k = 69) : Rf M (sI N 149 (upd (N.1 149) k x)) nw t nf s fc fk := ⟨h.1.fj (by omega), ⟨(pk_un (by omega)).trans h.2.1.1, (pk_un (by omega)).trans h.2.1.2.1, (pk_un (by omega)).trans h.2.1.2.2⟩, h.2.2.1, h.2.2.2.1, h.2.2.2.2⟩
theorem Rf.bl {M N : Mm} {nw t nf : Nat} {x : Int32} {s : Sc} {fc fk : Nat → Int32} (h : Rf M N nw t nf s fc fk) : Rf M (sI N 171 (upd (N.1 171) 1 x)) nw t nf s fc fk := ⟨h.1.bl, h.2.1, h.2.2.1, h.2.2.2.1, by show upd (N.1 171) 1 x 3 = 0 ∨ upd (N.1 171) 1 x 3 = 1; rw [pk_un (by decide)]; exact h.2.2.2.2⟩
/-- boys push, once, at a time -/
theorem rvPump {G : Gx} {l : Launch} {ly : Ly} {N : Mm} {n nw t0 i q : Nat} {p : P4} {het : Int32} {ca : Nat → Int32} {W : Wx} {pv sv : Lv} {s : Sc} {st F : Int32} (hE : EVt N.1 1 n nw p het 0 ca W pv sv) (hq : q < n) (h57 : N.1 149 57 = nI q) (h58 : N.1 149 58 = F) (h59 : N.1 149 59 = st) (h60 : N.1 149 60 = nI t0) (hs : rAl N.1 1 nw (t0 + i) s) (ht2 : t0 + i < 1000000) (hR : RW ly N.2.2) {Q : Qt} (hQ : ∀ K : Mm, psF N K 1 → EVt K.1 1 n nw p het 0 ca W pv sv → rAl K.1 1 nw (t0 + i + 1) (TR n nw p het 0 ca W pv sv (pmP q st F i s)) → Q none ly K) : Mt G l mX12_passes (7, 0, 0, false) [.ref 149, .int (nI 1)] ly N Q := by
  have hn12 : n ≤ 12 := hE.1.2
  have hz := hs.2.2.2.2.2.2.2.2.1
  refine tX12_passes (b := 1) (of := fun c => if c = q then (if (st >>> (nI i &&& 31)) &&& 1 = 1 then F else 0) else 0) (p1 := upd s.2.2.2.2.1.2.2.2.1 q (s.2.2.2.2.1.2.2.2.1 q - ((st >>> (nI i &&& 31)) &&& 1) * F)) (s := s) (by decide) hE (Or.inr ⟨q, hq, h57, fun c hc => ?_⟩) hs ht2 (fun c hc => ?_) hR (fun K h1 h2 => hQ K h1 (hE.ps h1) h2)
  · rw [h59, h60, hs.2.2.2.2.2.2.1.1, h58, show nI (t0 + i) - nI t0 = nI i by rw [i32sub (by omega)]; congr 1; omega]
  · by_cases e : c = q
    · subst e
      show upd _ c _ c + (if c = c then _ else 0) = 0
      rw [pk_us, if_pos rfl, hz c hc]
      rcases and1i (st >>> (nI i &&& 31)) with h | h
      · rw [h, if_neg (by decide), Int32.zero_mul]; rfl
      · rw [h, if_pos rfl, Int32.one_mul, Int32.sub_add_cancel]
    · show upd _ q _ c + (if c = q then _ else 0) = 0
      rw [pk_un e, if_neg e, hz c hc]; rfl
theorem tX12_layPump {G : Gx} {l : Launch} {ly : Ly} {M N0 : Mm} {n nw t nf : Nat} {p : P4} {h0 c0 : Int32} {W : Wx} {lw : Nat → (Nat → Int32) × Nat} {s : Sc} {fc fk : Nat → Int32} {fc2 fk2 ca2 : Nat → Int32} {s2 : Sc} {t2 nf2 q N : Nat} {F b0 : Int32} (hN : N ≤ 7) (hq : q < n) (ht : t2 ≤ 9999) (hS : RS M n nw t nf p h0 c0 W lw s fc fk) (hca2 : cas n nf2 c0 fc2 fk2 ca2) (h0f : Rf M N0 nw t2 nf2 s2 fc2 fk2) (hb0 : N0.1 149 69 = b0) (hR : RW ly M.2.2) {Q : Qt} (hQ : ∀ K : Mm, qR M K → md K (-1) 0 → K.1 149 68 = pmG (TR n nw p h0 0 ca2 W (fun m => valL m (lw 0).1 (lw 0).2) (fun m => valL m (lw 1).1 (lw 1).2)) q F s2 n N (2 ^ N) → K.1 149 69 = pmB (TR n nw p h0 0 ca2 W (fun m => valL m (lw 0).1 (lw 0).2) (fun m => valL m (lw 1).1 (lw 1).2)) q F s2 n N b0 (2 ^ N) → Q none ly K) : Mt G l mX12_layPump (8, 0, 0, false) [.ref 149, .int (nI q), .int F, .int (nI N)] ly N0 Q := by
  refine Mt.of (lv := [some (.ref 149), some (.int (nI q)), some (.int F), some (.int (nI N)), none, none]) rfl ?_
  have hRN0 : RW ly N0.2.2 := by rw [h0f.1.1]; exact hR
  have hp7 := pow7 hN
  have hw6 := hS.w6
  have hn12 := hS.n.2
  refine Rn.aload_n dX12_layPump_0 rfl ?_
  refine Rn.iconstv (v := -1) dX12_layPump_1 ic_m1 ?_
  refine Rn.putI dX12_layPump_2 fX12_502 rfl rfl rfl (rc149 hRN0) ?_
  refine Rn.iconstv (v := 0) dX12_layPump_5 ic_0 ?_
  refine Rn.istore (lv' := [some (.ref 149), some (.int (nI q)), some (.int F), some (.int (nI N)), some (.int 0), none]) dX12_layPump_6 (by decide) rfl ?_
  have loop : ∀ (k d : Nat) (K : Mm), d + k = 2 ^ N → Rf M K nw t2 nf2 s2 fc2 fk2 → K.1 149 68 = pmG (TR n nw p h0 0 ca2 W (fun m => valL m (lw 0).1 (lw 0).2) (fun m => valL m (lw 1).1 (lw 1).2)) q F s2 n N d → K.1 149 69 = pmB (TR n nw p h0 0 ca2 W (fun m => valL m (lw 0).1 (lw 0).2) (fun m => valL m (lw 1).1 (lw 1).2)) q F s2 n N b0 d → Rn G l mX12_layPump (8, 0, 0, false) 8 [some (.ref 149), some (.int (nI q)), some (.int F), some (.int (nI N)), some (.int (nI d)), none] [] ly K Q := by
    intro k
    induction k with
    | zero =>
      intro d K hd hf h68 h69
      have hRK : RW ly K.2.2 := by rw [hf.1.1]; exact hR
      refine Rn.iload dX12_layPump_8 rfl ?_
      refine Rn.iconstv (v := 1) dX12_layPump_10 ic_1 ?_
      refine Rn.iload_n dX12_layPump_11 rfl ?_
      refine Rn.ishl dX12_layPump_12 ?_
      refine Rn.topI (y := nI (2 ^ N)) (shl1 N (by omega)) ?_
      refine Rn.icmp_ge dX12_layPump_13 (fun hc => ?_) (fun hc => ?_)
      · skip
        have ed : d = 2 ^ N := by omega
        rw [ed] at h68 h69
        refine Rn.aload_n dX12_layPump_124 rfl ?_
        refine Rn.iconstv (v := -1) dX12_layPump_125 ic_m1 ?_
        refine Rn.putI dX12_layPump_126 fX12_129 rfl rfl rfl (rc149 hRK) ?_
        exact Rn.vret dX12_layPump_129 rfl (hQ _ (hf.1.fj (by decide)) ⟨(show upd (K.1 149) 57 (-1) _ = _ from pk_un (by decide)).trans hf.2.1.1, (show upd (K.1 149) 57 (-1) _ = _ from pk_un (by decide)).trans hf.2.1.2.1, (show upd (K.1 149) 57 (-1) 57 = _ from pk_us), (show upd (K.1 149) 57 (-1) _ = _ from pk_un (by decide)).trans hf.2.1.2.2⟩ ((show upd (K.1 149) 57 (-1) _ = _ from pk_un (by decide)).trans h68) ((show upd (K.1 149) 57 (-1) _ = _ from pk_un (by decide)).trans h69))
      · skip
        exact absurd (nI_le (a := 2 ^ N) (b := d) (by omega) (by omega)) hc
    | succ k ih =>
      intro d K hd hf h68 h69
      have hRK : RW ly K.2.2 := by rw [hf.1.1]; exact hR
      refine Rn.iload dX12_layPump_8 rfl ?_
      refine Rn.iconstv (v := 1) dX12_layPump_10 ic_1 ?_
      refine Rn.iload_n dX12_layPump_11 rfl ?_
      refine Rn.ishl dX12_layPump_12 ?_
      refine Rn.topI (y := nI (2 ^ N)) (shl1 N (by omega)) ?_
      refine Rn.icmp_ge dX12_layPump_13 (fun hc => ?_) (fun hc => ?_)
      · skip
        exact absurd hc (nI_ge (a := d) (b := 2 ^ N) (by omega) (by omega))
      · skip
        refine Rn.aload_n dX12_layPump_16 rfl ?_
        refine Rn.iconstv (v := 1) dX12_layPump_17 ic_1 ?_
        refine Rn.iconstv (v := 3) dX12_layPump_18 ic_3 ?_
        refine Rn.callV2 dX12_layPump_19 vX12_461 (rc149 hRK) (by decide) rfl (tX12_copies (M := K) (p := 1) (q := 3) (nf := nf2) (Q := fun v0 ly0 K1 => v0 = none ∧ ly0 = ly ∧ cbR K K1 1 3 nf2) (by decide) (by decide) (by decide) hf.2.2.2.1.1 hf.2.2.2.1.2.1 hf.2.2.2.2 hRK (fun K1 h => ⟨rfl, rfl, h⟩)) (by decide) ⟨(Nat.le_of_ble_eq_true rfl), (Nat.le_of_ble_eq_true rfl), (Nat.le_of_ble_eq_true rfl)⟩ (fun h => by cases h) (fun v1 ly1 K1 ⟨q1, q2, hcb⟩ => ?_)
        rw [q1, q2]
        have hf1 := hf.cp hcb hw6
        have hs1 : rAl K1.1 1 nw t2 s2 := hcb.al hw6 hf.2.2.1
        have hft1 : ftR K1.1 1 nf2 fc2 fk2 := hcb.ft hf.2.2.2.1
        have h681 : K1.1 149 68 = pmG (TR n nw p h0 0 ca2 W (fun m => valL m (lw 0).1 (lw 0).2) (fun m => valL m (lw 1).1 (lw 1).2)) q F s2 n N d := (congrFun (hcb.2.1 149 (by omega)) 68).trans h68
        have h691 : K1.1 149 69 = pmB (TR n nw p h0 0 ca2 W (fun m => valL m (lw 0).1 (lw 0).2) (fun m => valL m (lw 1).1 (lw 1).2)) q F s2 n N b0 d := (congrFun (hcb.2.1 149 (by omega)) 69).trans h69
        have hRK1 : RW ly K1.2.2 := by rw [hf1.1.1]; exact hR
        refine Rn.aload_n dX12_layPump_22 rfl ?_
        refine Rn.getR dX12_layPump_23 fX12_79 rfl (rc149 hRK1) (show K1.2.2 149 37 = some 171 from (rpt37 hRK1)) ?_
        refine Rn.iconstv (v := 1) dX12_layPump_26 ic_1 ?_
        refine Rn.iconstv (v := 0) dX12_layPump_27 ic_0 ?_
        refine Rn.zast dX12_layPump_28 (rc171 hRK1) (by unfold vp_in; decide) ?_
        refine Rn.aload_n dX12_layPump_29 rfl ?_
        refine Rn.iload_n dX12_layPump_30 rfl ?_
        refine Rn.putI dX12_layPump_31 fX12_129 rfl rfl rfl (rc149 hRK1) ?_
        refine Rn.aload_n dX12_layPump_34 rfl ?_
        refine Rn.iload_n dX12_layPump_35 rfl ?_
        refine Rn.putI dX12_layPump_36 fX12_431 rfl rfl rfl (rc149 hRK1) ?_
        refine Rn.meq (M2 := sI (sI K1 171 (upd (K1.1 171) 1 (vp_nar .boolean 0))) 149 (upd (upd (K1.1 149) 57 (nI q)) 58 F)) (sI_sI _ _ _ _) ?_
        refine Rn.aload_n dX12_layPump_39 rfl ?_
        refine Rn.iload dX12_layPump_40 rfl ?_
        refine Rn.putI dX12_layPump_42 fX12_425 rfl rfl rfl (rc149 hRK1) ?_
        refine Rn.meq (M2 := sI (sI K1 171 (upd (K1.1 171) 1 (vp_nar .boolean 0))) 149 (upd (upd (upd (K1.1 149) 57 (nI q)) 58 F) 59 (nI d))) (sI_sI _ _ _ _) ?_
        refine Rn.aload_n dX12_layPump_45 rfl ?_
        refine Rn.aload_n dX12_layPump_46 rfl ?_
        refine Rn.getR dX12_layPump_47 fX12_73 rfl (rc149 hRK1) (show K1.2.2 149 35 = some 169 from (rpt35 hRK1)) ?_
        refine Rn.iconstv (v := 1) dX12_layPump_50 ic_1 ?_
        refine Rn.iald dX12_layPump_51 (rc169 hRK1) (by unfold vp_in; decide) ?_
        refine Rn.topI (y := K1.1 169 1) (rfl) ?_
        refine Rn.topI (y := nI t2) (hs1.2.2.2.2.2.2.1.1) ?_
        refine Rn.putI dX12_layPump_52 fX12_428 rfl rfl rfl (rc149 hRK1) ?_
        refine Rn.meq (M2 := sI (sI K1 171 (upd (K1.1 171) 1 (vp_nar .boolean 0))) 149 (upd (upd (upd (upd (K1.1 149) 57 (nI q)) 58 F) 59 (nI d)) 60 (nI t2))) (sI_sI _ _ _ _) ?_
        refine Rn.iconstv (v := 0) dX12_layPump_55 ic_0 ?_
        refine Rn.istore (lv' := [some (.ref 149), some (.int (nI q)), some (.int F), some (.int (nI N)), some (.int (nI d)), some (.int 0)]) dX12_layPump_56 (by decide) rfl ?_
        refine Rn.meq (M2 := sI (sI K1 171 (upd (K1.1 171) 1 0)) 149 (upd (upd (upd (upd (K1.1 149) 57 (nI q)) 58 F) 59 (nI d)) 60 (nI t2))) rfl ?_
        have hf2m : Rf M (sI (sI K1 171 (upd (K1.1 171) 1 0)) 149 (upd (upd (upd (upd (K1.1 149) 57 (nI q)) 58 F) 59 (nI d)) 60 (nI t2))) nw t2 nf2 s2 fc2 fk2 := by
          have a1 := ((((hf1.bl (x := 0)).fj (k := 57) (x := nI q) (by decide)).fj (k := 58) (x := F) (by decide)).fj (k := 59) (x := nI d) (by decide)).fj (k := 60) (x := nI t2) (by decide)
          have e : sI (sI (sI (sI (sI K1 171 (upd (K1.1 171) 1 0)) 149 (upd (K1.1 149) 57 (nI q))) 149 (upd (upd (K1.1 149) 57 (nI q)) 58 F)) 149 (upd (upd (upd (K1.1 149) 57 (nI q)) 58 F) 59 (nI d))) 149 (upd (upd (upd (upd (K1.1 149) 57 (nI q)) 58 F) 59 (nI d)) 60 (nI t2)) = sI (sI K1 171 (upd (K1.1 171) 1 0)) 149 (upd (upd (upd (upd (K1.1 149) 57 (nI q)) 58 F) 59 (nI d)) 60 (nI t2)) := by rw [sI_sI, sI_sI, sI_sI]
          exact e ▸ a1
        have hE2m : EVt (sI (sI K1 171 (upd (K1.1 171) 1 0)) 149 (upd (upd (upd (upd (K1.1 149) 57 (nI q)) 58 F) 59 (nI d)) 60 (nI t2))).1 1 n nw p h0 0 ca2 W (fun m => valL m (lw 0).1 (lw 0).2) (fun m => valL m (lw 1).1 (lw 1).2) := by
          obtain ⟨h1, h2, h3, h4, h5, h6⟩ := hS.1.q hf1.1
          obtain ⟨f0, hf0⟩ := h6 0 (by omega)
          obtain ⟨f2, hf2⟩ := h6 1 (by omega)
          have e55 : K1.1 149 55 = -1 := hf1.2.1.1
          refine ⟨h1, h2, ?_, rfl, ftR.cm (nf := nf2) (fc := fc2) (fk := fk2) hft1 (by show ¬ K1.1 149 55 = 1; rw [e55]; decide) (fun c hc => ?_), Or.inl ⟨hf1.2.1.2.2, h5.mv (fun a ha => (sI_ne (by omega)).trans (sI_ne (by omega)))⟩, 0, _, f0, _, f2, _, _, hf1.2.1.2.1, by decide, hf0.mv (fun a ha => (sI_ne (by omega)).trans (sI_ne (by omega))), hf2.mv (fun a ha => (sI_ne (by omega)).trans (sI_ne (by omega))), fun m => rfl, fun m => ?_⟩
          · show htR (K1.1 149 55) (K1.1 151 4) = h0
            rw [e55, h3]; rfl
          · show mn 100 (cmR (K1.1 151 3) fc2 fk2 (nI c) nf2) = ca2 c
            rw [h4]; exact hca2 c hc
          · show _ = if K1.1 149 55 = 5 then 0 else _
            rw [e55, if_neg (by decide)]
        have hs2m : rAl (sI (sI K1 171 (upd (K1.1 171) 1 0)) 149 (upd (upd (upd (upd (K1.1 149) 57 (nI q)) 58 F) 59 (nI d)) 60 (nI t2))).1 1 nw t2 s2 := hs1
        have hj2m : (sI (sI K1 171 (upd (K1.1 171) 1 0)) 149 (upd (upd (upd (upd (K1.1 149) 57 (nI q)) 58 F) 59 (nI d)) 60 (nI t2))).1 149 57 = nI q ∧ (sI (sI K1 171 (upd (K1.1 171) 1 0)) 149 (upd (upd (upd (upd (K1.1 149) 57 (nI q)) 58 F) 59 (nI d)) 60 (nI t2))).1 149 58 = F ∧ (sI (sI K1 171 (upd (K1.1 171) 1 0)) 149 (upd (upd (upd (upd (K1.1 149) 57 (nI q)) 58 F) 59 (nI d)) 60 (nI t2))).1 149 59 = nI d ∧ (sI (sI K1 171 (upd (K1.1 171) 1 0)) 149 (upd (upd (upd (upd (K1.1 149) 57 (nI q)) 58 F) 59 (nI d)) 60 (nI t2))).1 149 60 = nI t2 ∧ (sI (sI K1 171 (upd (K1.1 171) 1 0)) 149 (upd (upd (upd (upd (K1.1 149) 57 (nI q)) 58 F) 59 (nI d)) 60 (nI t2))).1 149 68 = pmG (TR n nw p h0 0 ca2 W (fun m => valL m (lw 0).1 (lw 0).2) (fun m => valL m (lw 1).1 (lw 1).2)) q F s2 n N d ∧ (sI (sI K1 171 (upd (K1.1 171) 1 0)) 149 (upd (upd (upd (upd (K1.1 149) 57 (nI q)) 58 F) 59 (nI d)) 60 (nI t2))).1 149 69 = pmB (TR n nw p h0 0 ca2 W (fun m => valL m (lw 0).1 (lw 0).2) (fun m => valL m (lw 1).1 (lw 1).2)) q F s2 n N b0 d := ⟨rfl, rfl, rfl, rfl, h681, h691⟩
        revert hf2m hE2m hs2m hj2m
        generalize sI (sI K1 171 (upd (K1.1 171) 1 0)) 149 (upd (upd (upd (upd (K1.1 149) 57 (nI q)) 58 F) 59 (nI d)) 60 (nI t2)) = K2
        intro hf2 hE2 hs2 hj2
        have hRK2 : RW ly K2.2.2 := by rw [hf2.1.1]; exact hR
        have loop2 : ∀ (k2 j : Nat) (K3 : Mm), j + k2 = N → Rf M K3 nw t2 nf2 s2 fc2 fk2 → EVt K3.1 1 n nw p h0 0 ca2 W (fun m => valL m (lw 0).1 (lw 0).2) (fun m => valL m (lw 1).1 (lw 1).2) → rAl K3.1 1 nw (t2 + j) (pmI (TR n nw p h0 0 ca2 W (fun m => valL m (lw 0).1 (lw 0).2) (fun m => valL m (lw 1).1 (lw 1).2)) q (nI d) F s2 j) → (K3.1 149 57 = nI q ∧ K3.1 149 58 = F ∧ K3.1 149 59 = nI d ∧ K3.1 149 60 = nI t2 ∧ K3.1 149 68 = pmG (TR n nw p h0 0 ca2 W (fun m => valL m (lw 0).1 (lw 0).2) (fun m => valL m (lw 1).1 (lw 1).2)) q F s2 n N d ∧ K3.1 149 69 = pmB (TR n nw p h0 0 ca2 W (fun m => valL m (lw 0).1 (lw 0).2) (fun m => valL m (lw 1).1 (lw 1).2)) q F s2 n N b0 d) → Rn G l mX12_layPump (8, 0, 0, false) 58 [some (.ref 149), some (.int (nI q)), some (.int F), some (.int (nI N)), some (.int (nI d)), some (.int (nI j))] [] ly K3 Q := by
          intro k2
          induction k2 with
          | zero =>
            intro j K3 hj hf3 hE3 hs3 hj3
            have hRK3 : RW ly K3.2.2 := by rw [hf3.1.1]; exact hR
            refine Rn.iload dX12_layPump_58 rfl ?_
            refine Rn.iload_n dX12_layPump_60 rfl ?_
            refine Rn.icmp_ge dX12_layPump_61 (fun hc2 => ?_) (fun hc2 => ?_)
            · skip
              have ej : j = N := by omega
              rw [ej] at hs3
              refine Rn.aload_n dX12_layPump_75 rfl ?_
              refine Rn.iconstv (v := 1) dX12_layPump_76 ic_1 ?_
              refine Rn.aload_n dX12_layPump_77 rfl ?_
              refine Rn.getR dX12_layPump_78 fX12_86 rfl (rc149 hRK3) (show K3.2.2 149 39 = some 173 from (rpt39 hRK3)) ?_
              refine Rn.callV2 dX12_layPump_81 vX12_457 (rc149 hRK3) (by decide) rfl (tX12_greatest173 (b := 1) (n := n) (M := K3) (by decide) hE3.1.1 hn12 hRK3) (by decide) ⟨(Nat.le_of_ble_eq_true rfl), (Nat.le_of_ble_eq_true rfl), (Nat.le_of_ble_eq_true rfl)⟩ (fun h => by cases h) (fun v1 ly1 M1 ⟨q1, q2, q3⟩ => ?_)
              rw [q1, q2, q3]
              obtain ⟨hi, hhi⟩ : ∃ hi : Int32, hi = gr (pmI (TR n nw p h0 0 ca2 W (fun m => valL m (lw 0).1 (lw 0).2) (fun m => valL m (lw 1).1 (lw 1).2)) q (nI d) F s2 N).1 n := ⟨_, rfl⟩
              refine Rn.topI (y := hi) ((gr_E hs3.1 n hn12).trans hhi.symm) ?_
              have hG : pmG (TR n nw p h0 0 ca2 W (fun m => valL m (lw 0).1 (lw 0).2) (fun m => valL m (lw 1).1 (lw 1).2)) q F s2 n N (d + 1) = if hi ≤ pmG (TR n nw p h0 0 ca2 W (fun m => valL m (lw 0).1 (lw 0).2) (fun m => valL m (lw 1).1 (lw 1).2)) q F s2 n N d then pmG (TR n nw p h0 0 ca2 W (fun m => valL m (lw 0).1 (lw 0).2) (fun m => valL m (lw 1).1 (lw 1).2)) q F s2 n N d else hi := by rw [hhi]; rfl
              have hB : pmB (TR n nw p h0 0 ca2 W (fun m => valL m (lw 0).1 (lw 0).2) (fun m => valL m (lw 1).1 (lw 1).2)) q F s2 n N b0 (d + 1) = if hi ≤ pmG (TR n nw p h0 0 ca2 W (fun m => valL m (lw 0).1 (lw 0).2) (fun m => valL m (lw 1).1 (lw 1).2)) q F s2 n N d then pmB (TR n nw p h0 0 ca2 W (fun m => valL m (lw 0).1 (lw 0).2) (fun m => valL m (lw 1).1 (lw 1).2)) q F s2 n N b0 d else nI d := by rw [hhi]; rfl
              have h0hi : 0 ≤ hi := by rw [hhi]; exact gr_nn n
              refine Rn.istore (lv' := [some (.ref 149), some (.int (nI q)), some (.int F), some (.int (nI N)), some (.int (nI d)), some (.int hi)]) dX12_layPump_84 (by decide) rfl ?_
              refine Rn.aload_n dX12_layPump_86 rfl ?_
              refine Rn.getI dX12_layPump_87 fX12_502 rfl (rc149 hRK3) ?_
              refine Rn.topI (y := pmG (TR n nw p h0 0 ca2 W (fun m => valL m (lw 0).1 (lw 0).2) (fun m => valL m (lw 1).1 (lw 1).2)) q F s2 n N d) (hj3.2.2.2.2.1) ?_
              refine Rn.iconstv (v := -1) dX12_layPump_90 ic_m1 ?_
              refine Rn.icmp_eq dX12_layPump_91 (fun hb => ?_) (fun hb => ?_)
              · skip
                refine Rn.aload_n dX12_layPump_106 rfl ?_
                refine Rn.iload dX12_layPump_107 rfl ?_
                refine Rn.putI dX12_layPump_109 fX12_502 rfl rfl rfl (rc149 hRK3) ?_
                refine Rn.aload_n dX12_layPump_112 rfl ?_
                refine Rn.iload dX12_layPump_113 rfl ?_
                refine Rn.putI dX12_layPump_115 fX12_505 rfl rfl rfl (rc149 hRK3) ?_
                refine Rn.meq (M2 := sI K3 149 (upd (upd (K3.1 149) 68 hi) 69 (nI d))) (sI_sI _ _ _ _) ?_
                refine Rn.iincN (lv' := [some (.ref 149), some (.int (nI q)), some (.int F), some (.int (nI N)), some (.int (nI (d + 1))), some (.int hi)]) dX12_layPump_118 rfl (by decide) rfl ?_
                refine Rn.goto dX12_layPump_121 ?_
                refine Rn.forget (lv' := [some (.ref 149), some (.int (nI q)), some (.int F), some (.int (nI N)), some (.int (nI (d + 1))), none]) (⟨rfl, ⟨rfl, ⟨rfl, ⟨rfl, ⟨rfl, trivial⟩⟩⟩⟩⟩) ?_
                have hno : ¬ hi ≤ pmG (TR n nw p h0 0 ca2 W (fun m => valL m (lw 0).1 (lw 0).2) (fun m => valL m (lw 1).1 (lw 1).2)) q F s2 n N d := fun h => absurd (show (0 : Int32) ≤ -1 from Int32.le_trans h0hi (by rw [hb] at h; exact h)) (by decide)
                refine Rn.meq (M2 := sI (sI K3 149 (upd (K3.1 149) 68 hi)) 149 (upd (upd (K3.1 149) 68 hi) 69 (nI d))) (sI_sI _ _ _ _).symm ?_
                exact ih (d + 1) _ (by omega) ((hf3.fj (k := 68) (x := hi) (by decide)).fj (k := 69) (x := nI d) (by decide)) (by rw [hG, if_neg hno]; rfl) (by rw [hB, if_neg hno]; rfl)
              · skip
                refine Rn.iload dX12_layPump_94 rfl ?_
                refine Rn.aload_n dX12_layPump_96 rfl ?_
                refine Rn.getI dX12_layPump_97 fX12_502 rfl (rc149 hRK3) ?_
                refine Rn.topI (y := pmG (TR n nw p h0 0 ca2 W (fun m => valL m (lw 0).1 (lw 0).2) (fun m => valL m (lw 1).1 (lw 1).2)) q F s2 n N d) (hj3.2.2.2.2.1) ?_
                refine Rn.icmp_gt dX12_layPump_100 (fun hgt => ?_) (fun hgt => ?_)
                · skip
                  refine Rn.aload_n dX12_layPump_106 rfl ?_
                  refine Rn.iload dX12_layPump_107 rfl ?_
                  refine Rn.putI dX12_layPump_109 fX12_502 rfl rfl rfl (rc149 hRK3) ?_
                  refine Rn.aload_n dX12_layPump_112 rfl ?_
                  refine Rn.iload dX12_layPump_113 rfl ?_
                  refine Rn.putI dX12_layPump_115 fX12_505 rfl rfl rfl (rc149 hRK3) ?_
                  refine Rn.meq (M2 := sI K3 149 (upd (upd (K3.1 149) 68 hi) 69 (nI d))) (sI_sI _ _ _ _) ?_
                  refine Rn.iincN (lv' := [some (.ref 149), some (.int (nI q)), some (.int F), some (.int (nI N)), some (.int (nI (d + 1))), some (.int hi)]) dX12_layPump_118 rfl (by decide) rfl ?_
                  refine Rn.goto dX12_layPump_121 ?_
                  refine Rn.forget (lv' := [some (.ref 149), some (.int (nI q)), some (.int F), some (.int (nI N)), some (.int (nI (d + 1))), none]) (⟨rfl, ⟨rfl, ⟨rfl, ⟨rfl, ⟨rfl, trivial⟩⟩⟩⟩⟩) ?_
                  have hno : ¬ hi ≤ pmG (TR n nw p h0 0 ca2 W (fun m => valL m (lw 0).1 (lw 0).2) (fun m => valL m (lw 1).1 (lw 1).2)) q F s2 n N d := Int32.not_le.mpr hgt
                  refine Rn.meq (M2 := sI (sI K3 149 (upd (K3.1 149) 68 hi)) 149 (upd (upd (K3.1 149) 68 hi) 69 (nI d))) (sI_sI _ _ _ _).symm ?_
                  exact ih (d + 1) _ (by omega) ((hf3.fj (k := 68) (x := hi) (by decide)).fj (k := 69) (x := nI d) (by decide)) (by rw [hG, if_neg hno]; rfl) (by rw [hB, if_neg hno]; rfl)
                · skip
                  refine Rn.goto dX12_layPump_103 ?_
                  refine Rn.iincN (lv' := [some (.ref 149), some (.int (nI q)), some (.int F), some (.int (nI N)), some (.int (nI (d + 1))), some (.int hi)]) dX12_layPump_118 rfl (by decide) rfl ?_
                  refine Rn.goto dX12_layPump_121 ?_
                  refine Rn.forget (lv' := [some (.ref 149), some (.int (nI q)), some (.int F), some (.int (nI N)), some (.int (nI (d + 1))), none]) (⟨rfl, ⟨rfl, ⟨rfl, ⟨rfl, ⟨rfl, trivial⟩⟩⟩⟩⟩) ?_
                  exact ih (d + 1) K3 (by omega) hf3 (by rw [hG, if_pos (Int32.not_lt.mp hgt)]; exact hj3.2.2.2.2.1) (by rw [hB, if_pos (Int32.not_lt.mp hgt)]; exact hj3.2.2.2.2.2)
            · skip
              exact absurd (nI_le (a := N) (b := j) (by omega) (by omega)) hc2
          | succ k2 ih2 =>
            intro j K3 hj hf3 hE3 hs3 hj3
            have hRK3 : RW ly K3.2.2 := by rw [hf3.1.1]; exact hR
            refine Rn.iload dX12_layPump_58 rfl ?_
            refine Rn.iload_n dX12_layPump_60 rfl ?_
            refine Rn.icmp_ge dX12_layPump_61 (fun hc2 => ?_) (fun hc2 => ?_)
            · skip
              exact absurd hc2 (nI_ge (a := j) (b := N) (by omega) (by omega))
            · skip
              refine Rn.aload_n dX12_layPump_64 rfl ?_
              refine Rn.iconstv (v := 1) dX12_layPump_65 ic_1 ?_
              refine Rn.callV1 dX12_layPump_66 vX12_454 (rc149 hRK3) (by decide) rfl (rvPump (N := K3) (t0 := t2) (i := j) (q := q) (st := nI d) (F := F) (Q := fun v0 ly0 K4 => v0 = none ∧ ly0 = ly ∧ psF K3 K4 1 ∧ EVt K4.1 1 n nw p h0 0 ca2 W (fun m => valL m (lw 0).1 (lw 0).2) (fun m => valL m (lw 1).1 (lw 1).2) ∧ rAl K4.1 1 nw (t2 + j + 1) (pmI (TR n nw p h0 0 ca2 W (fun m => valL m (lw 0).1 (lw 0).2) (fun m => valL m (lw 1).1 (lw 1).2)) q (nI d) F s2 (j + 1))) hE3 hq hj3.1 hj3.2.1 hj3.2.2.1 hj3.2.2.2.1 hs3 (by omega) hRK3 (fun K4 a c d => ⟨rfl, rfl, a, c, d⟩)) (by decide) ⟨(Nat.le_of_ble_eq_true rfl), (Nat.le_of_ble_eq_true rfl), (Nat.le_of_ble_eq_true rfl)⟩ (fun h => by cases h) (fun v1 ly1 K4 ⟨q1, q2, hF4, hE4, hs4⟩ => ?_)
              rw [q1, q2]
              refine Rn.iincN (lv' := [some (.ref 149), some (.int (nI q)), some (.int F), some (.int (nI N)), some (.int (nI d)), some (.int (nI (j + 1)))]) dX12_layPump_69 rfl (by decide) rfl ?_
              refine Rn.goto dX12_layPump_72 ?_
              have g := hF4.2.2.1
              exact ih2 (j + 1) K4 (by omega) (hf3.ps hF4 hw6) hE4 hs4 ⟨(g 57 (by decide)).trans hj3.1, (g 58 (by decide)).trans hj3.2.1, (g 59 (by decide)).trans hj3.2.2.1, (g 60 (by decide)).trans hj3.2.2.2.1, (g 68 (by decide)).trans hj3.2.2.2.2.1, (g 69 (by decide)).trans hj3.2.2.2.2.2⟩
        exact loop2 N 0 K2 (by omega) hf2 hE2 hs2 hj2
  exact loop (2 ^ N) 0 _ (by omega) (h0f.fj (k := 68) (x := -1) (by decide)) rfl ((show upd (N0.1 149) 68 (-1) 69 = _ from pk_un (by decide)).trans hb0)
theorem rvFrom {G : Gx} {l : Launch} {ly : Ly} {M N : Mm} {n nw t nf : Nat} {p : P4} {h0 c0 : Int32} {W : Wx} {lw : Nat → (Nat → Int32) × Nat} {s : Sc} {fc fk : Nat → Int32} (hS : RS M n nw t nf p h0 c0 W lw s fc fk) (hq : qR M N) (hm : md N (-1) 0) (hR : RW ly N.2.2) {Q : Qt} (hQ : ∀ K : Mm, Rf M K nw t nf s fc fk → K.1 149 = N.1 149 → Q none ly K) : Mt G l mX12_copies (2, 0, 0, false) [.ref 149, .int (nI 3), .int (nI 0)] ly N Q := by
  have hS2 := hS.q hq
  refine tX12_copies (p := 3) (q := 0) (nf := nf) (by decide) (by decide) (by decide) hS2.2.2.1.1 hS2.2.2.1.2.1 hS2.2.2.2.1 hR (fun K h => hQ K ⟨hq.tr (h.q (Or.inr rfl) hS2.2.2.1.2.1), by rw [h.2.1 149 (by omega)]; exact ⟨hm.1, hm.2.1, hm.2.2.2⟩, h.al hS.w6 hS2.2.1, h.ft hS2.2.2.1, ?_⟩ (h.2.1 149 (by omega)))
  rw [h.2.2.1 171 (by omega), pk_us]
  exact hS2.2.2.2.1
theorem tX12_pump {G : Gx} {l : Launch} {ly : Ly} {M : Mm} {x F z v : Int32} {n nw t nf : Nat} {p : P4} {h0 c0 : Int32} {W : Wx} {lw : Nat → (Nat → Int32) × Nat} {s : Sc} {fc fk ca : Nat → Int32} (hS : RS M n nw t nf p h0 c0 W lw s fc fk) (hca : cas n nf c0 fc fk ca)  (hR : RW ly M.2.2) {Q : Qt} (hQ : (¬ ((∃ j : Nat, j < n ∧ x = nI j) ∧ (1 ≤ F ∧ F ≤ 99) ∧ (1 ≤ z ∧ z ≤ 7) ∧ (0 ≤ v ∧ v ≤ 1)) → ∀ K, qR M K → Q (some (.int (-1))) ly K) ∧ (∀ c N : Nat, c < n → x = nI c → (1 ≤ F ∧ F ≤ 99) → 1 ≤ N → N ≤ 7 → z = nI N → (0 ≤ v ∧ v ≤ 1) → ∀ K, qR M K → Q (some (.int (if v = 0 then pmG (TR n nw p h0 0 ca W (fun m => valL m (lw 0).1 (lw 0).2) (fun m => valL m (lw 1).1 (lw 1).2)) c F s n N (2 ^ N) else pmB (TR n nw p h0 0 ca W (fun m => valL m (lw 0).1 (lw 0).2) (fun m => valL m (lw 1).1 (lw 1).2)) c F s n N 0 (2 ^ N)))) ly K)) : Mt G l mX12_pump (9, 0, 0, false) [.ref 149, .int x, .int F, .int z, .int v] ly M Q := by
  refine Mt.of (lv := [some (.ref 149), some (.int x), some (.int F), some (.int z), some (.int v)]) rfl ?_
  refine Rn.aload_n dX12_pump_0 rfl ?_
  refine Rn.iconstv (v := 0) dX12_pump_1 ic_0 ?_
  refine Rn.putI dX12_pump_2 fX12_169 rfl rfl rfl (rc149 hR) ?_
  refine Rn.aload_n dX12_pump_5 rfl ?_
  refine Rn.iload_n dX12_pump_6 rfl ?_
  refine Rn.callV1 dX12_pump_7 vX12_403 (rc149 hR) (by decide) rfl (tX12_isCell (M := sI M 149 (upd (M.1 149) 0 0)) hR) (by decide) ⟨(Nat.le_of_ble_eq_true rfl), (Nat.le_of_ble_eq_true rfl), (Nat.le_of_ble_eq_true rfl)⟩ (fun h => by cases h) (fun v1 ly1 M1 ⟨q1, q2, q3⟩ => ?_)
  rw [q1, q2, q3]
  refine Rn.topI (y := inN x (nI n)) (congrArg (inN x) hS.n.1) ?_
  refine Rn.if_eq dX12_pump_10 (fun g1 => ?_) (fun g1 => ?_)
  · skip
    refine Rn.iconstv (v := -1) dX12_pump_40 ic_m1 ?_
    exact Rn.iret (ty := .int) dX12_pump_41 rfl rfl (hQ.1 (fun h => (inN_1 (x := x) (k := n) (lt31c hS.n.2)).elim (fun k => k.2 h.1) (fun k => absurd (k.1.symm.trans g1) (by decide))) _ qR.rf.f0)
  · skip
    obtain ⟨c, hc, rfl⟩ : ∃ j : Nat, j < n ∧ x = nI j := (inN_1 (x := x) (k := n) (lt31c hS.n.2)).elim (fun k => absurd k.1 g1) (fun k => k.2)
    refine Rn.iload_n dX12_pump_13 rfl ?_
    refine Rn.callS1 dX12_pump_14 vX12_508 (tX12_isForce) (by decide) ⟨(Nat.le_of_ble_eq_true rfl), (Nat.le_of_ble_eq_true rfl), (Nat.le_of_ble_eq_true rfl)⟩ (fun h => by cases h) (fun v1 ly1 M1 ⟨q1, q2, q3⟩ => ?_)
    rw [q1, q2, q3]
    refine Rn.if_eq dX12_pump_17 (fun g2 => ?_) (fun g2 => ?_)
    · skip
      refine Rn.iconstv (v := -1) dX12_pump_40 ic_m1 ?_
      exact Rn.iret (ty := .int) dX12_pump_41 rfl rfl (hQ.1 (fun h => inR_1.elim (fun k => k.2 h.2.1) (fun k => absurd (k.1.symm.trans g2) (by decide))) _ qR.rf.f0)
    · skip
      have g2h : 1 ≤ F ∧ F ≤ 99 := (inR_1 (x := F) (lo := 1) (hi := 99)).elim (fun k => absurd k.1 g2) (fun k => k.2)
      refine Rn.iload_n dX12_pump_20 rfl ?_
      refine Rn.bipushv (v := 7) dX12_pump_21 bp_7 ?_
      refine Rn.callS2 dX12_pump_23 vX12_480 (tX12_isLong) (by decide) ⟨(Nat.le_of_ble_eq_true rfl), (Nat.le_of_ble_eq_true rfl), (Nat.le_of_ble_eq_true rfl)⟩ (fun h => by cases h) (fun v1 ly1 M1 ⟨q1, q2, q3⟩ => ?_)
      rw [q1, q2, q3]
      refine Rn.if_eq dX12_pump_26 (fun g3 => ?_) (fun g3 => ?_)
      · skip
        refine Rn.iconstv (v := -1) dX12_pump_40 ic_m1 ?_
        exact Rn.iret (ty := .int) dX12_pump_41 rfl rfl (hQ.1 (fun h => inR_1.elim (fun k => k.2 h.2.2.1) (fun k => absurd (k.1.symm.trans g3) (by decide))) _ qR.rf.f0)
      · skip
        obtain ⟨N, hN1, hN2, rfl⟩ : ∃ j : Nat, 1 ≤ j ∧ j ≤ 7 ∧ z = nI j := (inR_1 (x := z) (lo := 1) (hi := 7)).elim (fun k => absurd k.1 g3) (fun k => nat_of (b := 7) (k := 7) rfl (by decide) k.2.1 k.2.2)
        refine Rn.iload dX12_pump_29 rfl ?_
        refine Rn.if_lt dX12_pump_31 (fun g1v => ?_) (fun g1v => ?_)
        · skip
          refine Rn.iconstv (v := -1) dX12_pump_40 ic_m1 ?_
          exact Rn.iret (ty := .int) dX12_pump_41 rfl rfl (hQ.1 (fun h => absurd g1v (Int32.not_lt.mpr h.2.2.2.1)) _ qR.rf.f0)
        · skip
          refine Rn.iload dX12_pump_34 rfl ?_
          refine Rn.iconstv (v := 1) dX12_pump_36 ic_1 ?_
          refine Rn.icmp_le dX12_pump_37 (fun g2v => ?_) (fun g2v => ?_)
          · skip
            have hA := hQ.2 c N hc rfl g2h hN1 hN2 rfl ⟨Int32.not_lt.mp g1v, g2v⟩
            clear hQ
            refine Rn.aload_n dX12_pump_42 rfl ?_
            refine Rn.callV0 dX12_pump_43 vX12_447 (rc149 hR) (by decide) rfl (tX12_plain (M := sI M 149 (upd (M.1 149) 0 0)) hR) (by decide) ⟨(Nat.le_of_ble_eq_true rfl), (Nat.le_of_ble_eq_true rfl), (Nat.le_of_ble_eq_true rfl)⟩ (fun h => by cases h) (fun v1 ly1 M1 ⟨q1, q2, q3⟩ => ?_)
            rw [q1, q2, q3]
            have hm0m : md (sI (sI M 149 (upd (M.1 149) 0 0)) 149 (upd (upd (upd (upd (upd ((sI M 149 (upd (M.1 149) 0 0)).1 149) 55 (-1)) 56 0) 57 (-1)) 61 0) 62 0)) (-1) 0 := ⟨rfl, rfl, rfl, rfl⟩
            have hq0m : qR M (sI (sI M 149 (upd (M.1 149) 0 0)) 149 (upd (upd (upd (upd (upd ((sI M 149 (upd (M.1 149) 0 0)).1 149) 55 (-1)) 56 0) 57 (-1)) 61 0) 62 0)) := qR.plain ((qR.rf (M := M)).f0)
            revert hm0m hq0m
            generalize (sI (sI M 149 (upd (M.1 149) 0 0)) 149 (upd (upd (upd (upd (upd ((sI M 149 (upd (M.1 149) 0 0)).1 149) 55 (-1)) 56 0) 57 (-1)) 61 0) 62 0)) = N0
            intro hm0 hq0
            have hRN0 : RW ly N0.2.2 := by rw [hq0.1]; exact hR
            refine Rn.aload_n dX12_pump_46 rfl ?_
            refine Rn.iconstv (v := 3) dX12_pump_47 ic_3 ?_
            refine Rn.iconstv (v := 0) dX12_pump_48 ic_0 ?_
            refine Rn.callV2 dX12_pump_49 vX12_461 (rc149 hRN0) (by decide) rfl (rvFrom (M := M) (N := N0) (Q := fun v0 ly0 K => v0 = none ∧ ly0 = ly ∧ Rf M K nw t nf s fc fk ∧ K.1 149 = N0.1 149) hS hq0 hm0 hRN0 (fun K a c => ⟨rfl, rfl, a, c⟩)) (by decide) ⟨(Nat.le_of_ble_eq_true rfl), (Nat.le_of_ble_eq_true rfl), (Nat.le_of_ble_eq_true rfl)⟩ (fun h => by cases h) (fun v1 ly1 N1 ⟨q1, q2, hf1, e1⟩ => ?_)
            rw [q1, q2]
            have hRN1 : RW ly N1.2.2 := by rw [hf1.1.1]; exact hR
            refine Rn.aload_n dX12_pump_52 rfl ?_
            refine Rn.iload_n dX12_pump_53 rfl ?_
            refine Rn.iload_n dX12_pump_54 rfl ?_
            refine Rn.iload_n dX12_pump_55 rfl ?_
            refine Rn.callV3 dX12_pump_56 vX12_511 (rc149 hRN1) (by decide) rfl (tX12_layPump (M := M) (N0 := N1) (ca2 := ca) (q := c) (N := N) (F := F) (Q := fun v0 ly0 K => v0 = none ∧ ly0 = ly ∧ qR M K ∧ md K (-1) 0 ∧ K.1 149 68 = pmG (TR n nw p h0 0 ca W (fun m => valL m (lw 0).1 (lw 0).2) (fun m => valL m (lw 1).1 (lw 1).2)) c F s n N (2 ^ N) ∧ K.1 149 69 = pmB (TR n nw p h0 0 ca W (fun m => valL m (lw 0).1 (lw 0).2) (fun m => valL m (lw 1).1 (lw 1).2)) c F s n N (N1.1 149 69) (2 ^ N)) (by omega) hc hS.2.2.2.2 hS hca hf1 rfl hR (fun K a c d e => ⟨rfl, rfl, a, c, d, e⟩)) (by decide) ⟨(Nat.le_of_ble_eq_true rfl), (Nat.le_of_ble_eq_true rfl), (Nat.le_of_ble_eq_true rfl)⟩ (fun h => by cases h) (fun v1 ly1 N2 ⟨q1, q2, hq2, hm2, hG2, hB2⟩ => ?_)
            rw [q1, q2]
            have hRN2 : RW ly N2.2.2 := by rw [hq2.1]; exact hR
            obtain ⟨m, hm⟩ : ∃ m, 2 ^ N = m + 1 := ⟨2 ^ N - 1, by have := Nat.pos_of_ne_zero (Nat.pos_iff_ne_zero.mp (Nat.two_pow_pos N)); omega⟩
            refine Rn.iload dX12_pump_59 rfl ?_
            refine Rn.if_ne dX12_pump_61 (fun hv => ?_) (fun hv => ?_)
            · skip
              refine Rn.aload_n dX12_pump_71 rfl ?_
              refine Rn.getI dX12_pump_72 fX12_505 rfl (rc149 hRN2) ?_
              refine Rn.topI (y := pmB (TR n nw p h0 0 ca W (fun m => valL m (lw 0).1 (lw 0).2) (fun m => valL m (lw 1).1 (lw 1).2)) c F s n N 0 (2 ^ N)) (by rw [hB2, hm]; exact pmB_0 m) ?_
              rw [if_neg hv] at hA
              exact Rn.iret (ty := .int) dX12_pump_75 rfl rfl (hA N2 hq2)
            · skip
              refine Rn.aload_n dX12_pump_64 rfl ?_
              refine Rn.getI dX12_pump_65 fX12_502 rfl (rc149 hRN2) ?_
              refine Rn.topI (y := pmG (TR n nw p h0 0 ca W (fun m => valL m (lw 0).1 (lw 0).2) (fun m => valL m (lw 1).1 (lw 1).2)) c F s n N (2 ^ N)) (hG2) ?_
              refine Rn.goto dX12_pump_68 ?_
              rw [if_pos hv] at hA
              exact Rn.iret (ty := .int) dX12_pump_75 rfl rfl (hA N2 hq2)
          · skip
            refine Rn.iconstv (v := -1) dX12_pump_40 ic_m1 ?_
            exact Rn.iret (ty := .int) dX12_pump_41 rfl rfl (hQ.1 (fun h => g2v h.2.2.2.2) _ qR.rf.f0)
