/-- who walks: weights, beats, from, ways, cells -/
abbrev Wx : Type := (Nat → Int32) × (Nat → Int32) × (Nat → Int32) × (Nat → Int32) × (Nat → Int32)
abbrev P4 : Type := Int32 × Int32 × Int32 × Int32
abbrev Lv : Type := (Nat → Int32) → Int64
/-- a time, both ways -/
def TR (n nw : Nat) (p : P4) (het bl : Int32) (ca : Nat → Int32) (W : Wx) (pv sv : Lv) : Sc → Sc := pasF n nw p.1 p.2.1 p.2.2.1 p.2.2.2 het bl 0 ca W.1 W.2.1 W.2.2.1 W.2.2.2.1 W.2.2.2.2 pv sv
def EVt (I : Nat → Nat → Int32) (b n nw : Nat) (p : P4) (het bl : Int32) (ca : Nat → Int32) (W : Wx) (pv sv : Lv) : Prop := EV I b n nw p.1 p.2.1 p.2.2.1 p.2.2.2 het bl ca W.1 W.2.1 W.2.2.1 W.2.2.2.1 W.2.2.2.2 pv sv
/-- a question has changed nothing of the reference but the bridges 1 and 3 and what is scratch -/
def qR (M K : Mm) : Prop := K.2.2 = M.2.2 ∧ (∀ a, a ≠ 149 → (a < 169 ∨ 182 < a) → (a < 186 ∨ 189 < a) → a ≠ 195 → K.1 a = M.1 a) ∧ (∀ j, (j < 54 ∨ 62 < j) → j ≠ 0 → j ≠ 66 → j ≠ 68 → j ≠ 69 → K.1 149 j = M.1 149 j) ∧ (∀ a, (169 ≤ a ∧ a ≤ 172) ∨ a = 180 → ∀ j, j ≠ 1 → j ≠ 3 → K.1 a j = M.1 a j) ∧ (∀ a, (173 ≤ a ∧ a ≤ 176) ∨ a = 181 ∨ a = 182 → ∀ j, (j < 12 ∨ (24 ≤ j ∧ j < 36) ∨ 48 ≤ j) → K.1 a j = M.1 a j) ∧ (∀ a, 177 ≤ a ∧ a ≤ 179 → ∀ j, (j < 6 ∨ (12 ≤ j ∧ j < 18) ∨ 24 ≤ j) → K.1 a j = M.1 a j)
theorem qR.rf {M : Mm} : qR M M := ⟨rfl, fun _ _ _ _ _ => rfl, fun _ _ _ _ _ _ => rfl, fun _ _ _ _ _ => rfl, fun _ _ _ _ => rfl, fun _ _ _ _ => rfl⟩
theorem qR.tr {M N K : Mm} (h : qR M N) (g : qR N K) : qR M K := ⟨g.1.trans h.1, fun a a1 a2 a3 a4 => (g.2.1 a a1 a2 a3 a4).trans (h.2.1 a a1 a2 a3 a4), fun j a1 a2 a3 a4 a5 => (g.2.2.1 j a1 a2 a3 a4 a5).trans (h.2.2.1 j a1 a2 a3 a4 a5), fun a h1 j a1 a2 => (g.2.2.2.1 a h1 j a1 a2).trans (h.2.2.2.1 a h1 j a1 a2), fun a h1 j h2 => (g.2.2.2.2.1 a h1 j h2).trans (h.2.2.2.2.1 a h1 j h2), fun a h1 j h2 => (g.2.2.2.2.2 a h1 j h2).trans (h.2.2.2.2.2 a h1 j h2)⟩
theorem qR.at {M K : Mm} (h : qR M K) (a : Nat) (ha : a ≠ 149 ∧ (a < 169 ∨ 182 < a) ∧ (a < 186 ∨ 189 < a) ∧ a ≠ 195) : K.1 a = M.1 a := h.2.1 a ha.1 ha.2.1 ha.2.2.1 ha.2.2.2
theorem psF.q {M K : Mm} (h : psF M K 1) : qR M K := ⟨h.1, fun a a1 a2 a3 a4 => h.2.1 a a1 (by omega) (by omega) (by omega) (by omega), fun j a1 a2 a3 a4 a5 => h.2.2.1 j (by omega), fun a ha j a1 a2 => (by
  by_cases e : a = 171 ∨ a = 180
  · rw [h.2.1 a (by omega) (by omega) (by omega) (by omega) (by omega)]
  · exact h.2.2.2.1 a (by omega) j a1), fun a ha j hj => (by
  by_cases e : a = 181 ∨ a = 182
  · rw [h.2.1 a (by omega) (by omega) (by omega) (by omega) (by omega)]
  · exact h.2.2.2.2.1 a (by omega) j (by omega)), fun a ha j hj => h.2.2.2.2.2 a ha j (by omega)⟩
theorem cbR.q {M K : Mm} {p q nf : Nat} (h : cbR M K p q nf) (hp : p = 1 ∨ p = 3) (hnf : nf ≤ 12) : qR M K := by
  obtain ⟨h1, h2, h3, h4, h5, h6, h7⟩ := h
  refine ⟨h1, fun a a1 a2 a3 a4 => h2 a (by omega), fun j a1 a2 a3 a4 a5 => congrFun (h2 149 (by omega)) j, fun a ha j j1 j2 => ?_, fun a ha j hj => ?_, fun a ha j hj => ?_⟩
  · by_cases e : a = 180
    · subst e; rw [h6]; exact pk_un (by omega)
    · rw [h3 a (by omega)]; exact pk_un (by omega)
  · by_cases e : a = 181 ∨ a = 182
    · rw [h7 a (by omega)]; exact blk_out (by omega)
    · rw [h4 a (by omega)]; exact blk_out (by omega)
  · rw [h5 a ha]; exact blk_out (by omega)
/-- how it is tried: what otherwise, by which law; nobody pumps, all walk -/
def md (N : Mm) (x : Int32) (p : Nat) : Prop := N.1 149 55 = x ∧ N.1 149 56 = nI p ∧ N.1 149 57 = -1 ∧ N.1 149 62 = 0
theorem md.ps {N K : Mm} {b p : Nat} {x : Int32} (h : md N x p) (f : psF N K b) : md K x p := ⟨(f.2.2.1 55 (by decide)).trans h.1, (f.2.2.1 56 (by decide)).trans h.2.1, (f.2.2.1 57 (by decide)).trans h.2.2.1, (f.2.2.1 62 (by decide)).trans h.2.2.2⟩
theorem md.eq {N K : Mm} {p : Nat} {x : Int32} (h : md N x p) (f : K.1 149 = N.1 149) : md K x p := by unfold md; rw [f]; exact h
/-- the plan, as the reference has it -/
def plE (I : Nat → Nat → Int32) (n nw : Nat) (p : P4) (h0 c0 : Int32) (W : Wx) (lw : Nat → (Nat → Int32) × Nat) : Prop := (I 151 0 = nI n ∧ n ≤ 12) ∧ (I 151 1 = p.1 ∧ I 151 2 = p.2.1 ∧ I 151 5 = p.2.2.1 ∧ I 151 10 = p.2.2.2 ∧ ¬ 2 * p.2.2.2 + 1 = 0) ∧ I 151 4 = h0 ∧ I 151 3 = c0 ∧ eW I nw W.1 W.2.1 W.2.2.1 W.2.2.2.1 W.2.2.2.2 ∧ ∀ k, k < 5 → ∃ f0, lwR I k (lw k).1 (lw k).2 f0
theorem plE.mv {I J : Nat → Nat → Int32} {n nw : Nat} {p : P4} {h0 c0 : Int32} {W : Wx} {lw : Nat → (Nat → Int32) × Nat} (h : plE I n nw p h0 c0 W lw) (e : ∀ a, 151 ≤ a ∧ a ≤ 168 → J a = I a) : plE J n nw p h0 c0 W lw := by
  obtain ⟨h1, h2, h3, h4, h5, h6⟩ := h
  refine ⟨by rw [e 151 (by omega)]; exact h1, by rw [e 151 (by omega)]; exact h2, by rw [e 151 (by omega)]; exact h3, by rw [e 151 (by omega)]; exact h4, h5.mv (fun a ha => e a (by omega)), fun k hk => ?_⟩
  obtain ⟨f0, hf⟩ := h6 k hk
  exact ⟨f0, hf.mv (fun a ha => e a (by omega))⟩
theorem plE.q {M K : Mm} {n nw : Nat} {p : P4} {h0 c0 : Int32} {W : Wx} {lw : Nat → (Nat → Int32) × Nat} (h : plE M.1 n nw p h0 c0 W lw) (f : qR M K) : plE K.1 n nw p h0 c0 W lw := h.mv (fun a ha => f.at a (by omega))
theorem EVt.of {N : Mm} {b n nw kp : Nat} {p : P4} {h0 c0 bl x : Int32} {W : Wx} {lw : Nat → (Nat → Int32) × Nat} {ca : Nat → Int32} (h : plE N.1 n nw p h0 c0 W lw) (hm : md N x kp) (hk : kp < 5) (hx : ¬ x = 0) (hx5 : ¬ x = 5) (hbl : N.1 171 b = bl) (hcm : cmOk N.1 b n ca) : EVt N.1 b n nw p h0 bl ca W (fun m => valL m (lw kp).1 (lw kp).2) (fun m => valL m (lw 1).1 (lw 1).2) := by
  obtain ⟨h1, h2, h3, h4, h5, h6⟩ := h
  obtain ⟨m1, m2, m3, m4⟩ := hm
  obtain ⟨f0, hf0⟩ := h6 kp hk
  obtain ⟨f1, hf1⟩ := h6 1 (by omega)
  refine ⟨h1, h2, by rw [m1, h3]; exact if_neg hx, hbl, hcm, Or.inl ⟨m4, h5⟩, kp, _, f0, _, f1, _, _, m2, by omega, hf0, hf1, fun m => rfl, fun m => ?_⟩
  rw [m1, if_neg hx5]
theorem EVt.ps {N K : Mm} {b n nw : Nat} {p : P4} {het bl : Int32} {W : Wx} {ca : Nat → Int32} {pv sv : Lv} (h : EVt N.1 b n nw p het bl ca W pv sv) (f : psF N K b) : EVt K.1 b n nw p het bl ca W pv sv := EV.mv h f
theorem rvPass {G : Gx} {l : Launch} {ly : Ly} {N : Mm} {b n nw t : Nat} {p : P4} {het bl : Int32} {ca : Nat → Int32} {W : Wx} {pv sv : Lv} {s : Sc} (hb : b < 24) (hE : EVt N.1 b n nw p het bl ca W pv sv) (hpm : N.1 149 57 = -1) (hs : rAl N.1 b nw t s) (ht2 : t < 1000000) (hR : RW ly N.2.2) {Q : Qt} (hQ : ∀ K : Mm, psF N K b → EVt K.1 b n nw p het bl ca W pv sv → rAl K.1 b nw (t + 1) (TR n nw p het bl ca W pv sv s) → Q none ly K) : Mt G l mX12_passes (7, 0, 0, false) [.ref 149, .int (nI b)] ly N Q := by
  refine tX12_passes (of := fun _ => 0) (p1 := s.2.2.2.2.1.2.2.2.1) (s := s) hb hE (Or.inl ⟨hpm, fun _ _ => rfl⟩) hs ht2 (fun c hc => by rw [hs.2.2.2.2.2.2.2.2.1 c hc]; rfl) hR (fun K h1 h2 => hQ K h1 (hE.ps h1) h2)
theorem cbR.al {M K : Mm} {p q nf nw t : Nat} {s : Sc} (h : cbR M K p q nf) (hw : nw ≤ 6) (hr : rAl M.1 q nw t s) : rAl K.1 p nw t s := by
  obtain ⟨h1, h2, h3, h4, h5, h6, h7⟩ := h
  obtain ⟨r1, r2, r3, r4, r5, r6, ⟨r7, r7b⟩, r8, r9, r10⟩ := hr
  refine ⟨?_, ?_, ?_, ?_, fun w hw => ?_, ?_, ⟨?_, r7b⟩, ?_, r9, r10⟩
  · rw [h4 173 (by omega)]; exact sh_in.tr r1
  · rw [h4 174 (by omega)]; exact sh_in.tr r2
  · rw [h4 175 (by omega)]; exact sh_in.tr r3
  · rw [h4 176 (by omega)]; exact sh_in.tr r4
  · rw [h5 177 (by omega), h5 178 (by omega), h5 179 (by omega), blk_in (by omega), blk_in (by omega), blk_in (by omega)]; exact r5 w hw
  · rw [h3 172 (by omega), pk_us]; exact r6
  · rw [h3 169 (by omega), pk_us]; exact r7
  · rw [h3 170 (by omega), pk_us]; exact r8
/-- who is fat, as the reference has it: calms of cells -/
def ftR (I : Nat → Nat → Int32) (b nf : Nat) (fc fk : Nat → Int32) : Prop := I 180 b = nI nf ∧ nf ≤ 12 ∧ eqN nf (sh (12 * b) (I 181)) fc ∧ eqN nf (sh (12 * b) (I 182)) fk
theorem cmR_E {c0 x : Int32} {fa fk fa' fk' : Nat → Int32} : ∀ k : Nat, eqN k fa fa' → eqN k fk fk' → cmR c0 fa fk x k = cmR c0 fa' fk' x k
  | 0, _, _ => rfl
  | k + 1, h1, h2 => by
    show cmR c0 fa fk x k + (if fa k = x then fk k else 0) = cmR c0 fa' fk' x k + (if fa' k = x then fk' k else 0)
    rw [h1 k (Nat.lt_succ_self k), h2 k (Nat.lt_succ_self k), cmR_E k (fun j hj => h1 j (Nat.lt_succ_of_lt hj)) (fun j hj => h2 j (Nat.lt_succ_of_lt hj))]
theorem ftR.cm {I : Nat → Nat → Int32} {b n nf : Nat} {fc fk ca : Nat → Int32} (h : ftR I b nf fc fk) (h55 : ¬ I 149 55 = 1) (hca : ∀ c, c < n → mn 100 (cmR (I 151 3) fc fk (nI c) nf) = ca c) : cmOk I b n ca := Or.inr ⟨h55, nf, h.1, h.2.1, fun c hc => by rw [cmR_E nf h.2.2.1 h.2.2.2]; exact hca c hc⟩
theorem cbR.ft {M K : Mm} {p q nf : Nat} {fc fk : Nat → Int32} (h : cbR M K p q nf) (hf : ftR M.1 q nf fc fk) : ftR K.1 p nf fc fk := by
  obtain ⟨h1, h2, h3, h4, h5, h6, h7⟩ := h
  exact ⟨by rw [h6, pk_us], hf.2.1, by rw [h7 181 (by omega)]; exact sh_in.tr hf.2.2.1, by rw [h7 182 (by omega)]; exact sh_in.tr hf.2.2.2⟩
/-- the bridge 0 is as it was -/
theorem qR.al {M K : Mm} {nw t : Nat} {s : Sc} (h : qR M K) (hw : nw ≤ 6) (hr : rAl M.1 0 nw t s) : rAl K.1 0 nw t s := by
  obtain ⟨h1, h2, h3, h4, h5, h6⟩ := h
  obtain ⟨r1, r2, r3, r4, r5, r6, ⟨r7, r7b⟩, r8, r9, r10⟩ := hr
  have e : ∀ a, (173 ≤ a ∧ a ≤ 176) ∨ a = 181 ∨ a = 182 → eqN 12 (sh (12 * 0) (K.1 a)) (sh (12 * 0) (M.1 a)) := fun a ha j hj => h5 a ha _ (by omega)
  refine ⟨(e 173 (by omega)).tr r1, (e 174 (by omega)).tr r2, (e 175 (by omega)).tr r3, (e 176 (by omega)).tr r4, fun w hw => ?_, ?_, ⟨?_, r7b⟩, ?_, r9, r10⟩
  · rw [h6 177 (by omega) _ (by omega), h6 178 (by omega) _ (by omega), h6 179 (by omega) _ (by omega)]; exact r5 w hw
  · exact (h4 172 (by omega) 0 (by omega) (by omega)).trans r6
  · exact (h4 169 (by omega) 0 (by omega) (by omega)).trans r7
  · exact (h4 170 (by omega) 0 (by omega) (by omega)).trans r8
theorem qR.ft {M K : Mm} {nf : Nat} {fc fk : Nat → Int32} (h : qR M K) (hf : ftR M.1 0 nf fc fk) : ftR K.1 0 nf fc fk := by
  obtain ⟨h1, h2, h3, h4, h5, h6⟩ := h
  obtain ⟨f1, f2, f3, f4⟩ := hf
  exact ⟨(h4 180 (by omega) 0 (by omega) (by omega)).trans f1, f2, fun j hj => (h5 181 (by omega) _ (by omega)).trans (f3 j hj), fun j hj => (h5 182 (by omega) _ (by omega)).trans (f4 j hj)⟩
theorem rAl.t {I : Nat → Nat → Int32} {b nw t : Nat} {s : Sc} (h : rAl I b nw t s) : eqN 12 (sh (12 * b) (I 173)) s.1 := h.1
theorem tX12_highOf {G : Gx} {l : Launch} {ly : Ly} {M : Mm} {n nw t N : Nat} {p : P4} {het : Int32} {ca : Nat → Int32} {W : Wx} {pv sv : Lv} {s : Sc} (hE : EVt (sI M 171 (upd (M.1 171) 1 0)).1 1 n nw p het 0 ca W pv sv) (hpm : M.1 149 57 = -1) (hs : rAl M.1 1 nw t s) (ht2 : t + N < 1000000) (hR : RW ly M.2.2) {Q : Qt} (hQ : ∀ K : Mm, psF (sI M 171 (upd (M.1 171) 1 0)) K 1 → rAl K.1 1 nw (t + N) (itF (fun _ => TR n nw p het 0 ca W pv sv) N s) → Q (some (.int (hgS (TR n nw p het 0 ca W pv sv) s n N))) ly K) : Mt G l mX12_highOf (8, 0, 0, false) [.ref 149, .int (nI N)] ly M Q := by
  refine Mt.of (lv := [some (.ref 149), some (.int (nI N)), none, none]) rfl ?_
  refine Rn.aload_n dX12_highOf_0 rfl ?_
  refine Rn.getR dX12_highOf_1 fX12_79 rfl (rc149 hR) (show M.2.2 149 37 = some 171 from (rpt37 hR)) ?_
  refine Rn.iconstv (v := 1) dX12_highOf_4 ic_1 ?_
  refine Rn.iconstv (v := 0) dX12_highOf_5 ic_0 ?_
  refine Rn.zast dX12_highOf_6 (rc171 hR) (by unfold vp_in; decide) ?_
  refine Rn.iconstv (v := 0) dX12_highOf_7 ic_0 ?_
  refine Rn.istore_n (lv' := [some (.ref 149), some (.int (nI N)), some (.int 0), none]) dX12_highOf_8 (by decide) rfl ?_
  refine Rn.iconstv (v := 0) dX12_highOf_9 ic_0 ?_
  refine Rn.istore_n (lv' := [some (.ref 149), some (.int (nI N)), some (.int 0), some (.int 0)]) dX12_highOf_10 (by decide) rfl ?_
  refine Rn.meq (M2 := sI M 171 (upd (M.1 171) 1 0)) rfl ?_
  have loop : ∀ (k i : Nat) (N1 : Mm), i + k = N → psF (sI M 171 (upd (M.1 171) 1 0)) N1 1 → EVt N1.1 1 n nw p het 0 ca W pv sv → rAl N1.1 1 nw (t + i) (itF (fun _ => TR n nw p het 0 ca W pv sv) i s) → Rn G l mX12_highOf (8, 0, 0, false) 11 [some (.ref 149), some (.int (nI N)), some (.int (hgS (TR n nw p het 0 ca W pv sv) s n i)), some (.int (nI i))] [] ly N1 Q := by
    intro k
    induction k with
    | zero =>
      intro i N1 hi hF hE hs
      have hRN1 : RW ly N1.2.2 := by rw [hF.1]; exact hR
      refine Rn.iload_n dX12_highOf_11 rfl ?_
      refine Rn.iload_n dX12_highOf_12 rfl ?_
      refine Rn.icmp_ge dX12_highOf_13 (fun hc => ?_) (fun hc => ?_)
      · skip
        have e0 : N = i := by omega
        subst e0
        refine Rn.iload_n dX12_highOf_41 rfl ?_
        exact Rn.iret (ty := .int) dX12_highOf_42 rfl rfl (hQ N1 hF hs)
      · skip
        exact absurd (nI_le (a := N) (b := i) (by omega) (by omega)) hc
    | succ k ih =>
      intro i N1 hi hF hE hs
      have hRN1 : RW ly N1.2.2 := by rw [hF.1]; exact hR
      refine Rn.iload_n dX12_highOf_11 rfl ?_
      refine Rn.iload_n dX12_highOf_12 rfl ?_
      refine Rn.icmp_ge dX12_highOf_13 (fun hc => ?_) (fun hc => ?_)
      · skip
        exact absurd hc (nI_ge (a := i) (b := N) (by omega) (by omega))
      · skip
        refine Rn.aload_n dX12_highOf_16 rfl ?_
        refine Rn.iconstv (v := 1) dX12_highOf_17 ic_1 ?_
        refine Rn.callV1 dX12_highOf_18 vX12_454 (rc149 hRN1) (by decide) rfl (rvPass (b := 1) (N := N1) (Q := fun v0 ly0 K => v0 = none ∧ ly0 = ly ∧ psF N1 K 1 ∧ EVt K.1 1 n nw p het 0 ca W pv sv ∧ rAl K.1 1 nw (t + i + 1) (itF (fun _ => TR n nw p het 0 ca W pv sv) (i + 1) s)) (by decide) hE ((hF.2.2.1 57 (by decide)).trans hpm) hs (by omega) hRN1 (fun K a c d => ⟨rfl, rfl, a, c, d⟩)) (by decide) ⟨(Nat.le_of_ble_eq_true rfl), (Nat.le_of_ble_eq_true rfl), (Nat.le_of_ble_eq_true rfl)⟩ (fun h => by cases h) (fun v1 ly1 N2 ⟨q1, q2, hF2, hE2, hs2⟩ => ?_)
        rw [q1, q2]
        have t2 : N2.2.2 = M.2.2 := hF2.1.trans hF.1
        have hRN2 : RW ly N2.2.2 := by rw [t2]; exact hR
        refine Rn.iload_n dX12_highOf_21 rfl ?_
        refine Rn.aload_n dX12_highOf_22 rfl ?_
        refine Rn.iconstv (v := 1) dX12_highOf_23 ic_1 ?_
        refine Rn.aload_n dX12_highOf_24 rfl ?_
        refine Rn.getR dX12_highOf_25 fX12_86 rfl (rc149 hRN2) (show N2.2.2 149 39 = some 173 from (rpt39 hRN2)) ?_
        have en : N2.1 151 0 = nI n := hE2.1.1
        have en12 : n ≤ 12 := hE2.1.2
        refine Rn.callV2 dX12_highOf_28 vX12_457 (rc149 hRN2) (by decide) rfl (tX12_greatest173 (b := 1) (n := n) (M := N2) (by decide) en en12 hRN2) (by decide) ⟨(Nat.le_of_ble_eq_true rfl), (Nat.le_of_ble_eq_true rfl), (Nat.le_of_ble_eq_true rfl)⟩ (fun h => by cases h) (fun v1 ly1 M1 ⟨q1, q2, q3⟩ => ?_)
        rw [q1, q2, q3]
        refine Rn.topI (y := gr (itF (fun _ => TR n nw p het 0 ca W pv sv) (i + 1) s).1 n) (gr_E hs2.1 n en12) ?_
        refine Rn.mmax dX12_highOf_31 jX12_351 jw_mmax ⟨(Nat.le_of_ble_eq_true rfl), (Nat.le_of_ble_eq_true rfl)⟩ ?_
        refine Rn.topI (y := hgS (TR n nw p het 0 ca W pv sv) s n (i + 1)) (rfl) ?_
        refine Rn.istore_n (lv' := [some (.ref 149), some (.int (nI N)), some (.int (hgS (TR n nw p het 0 ca W pv sv) s n (i + 1))), some (.int (nI i))]) dX12_highOf_34 (by decide) rfl ?_
        refine Rn.iincN (lv' := [some (.ref 149), some (.int (nI N)), some (.int (hgS (TR n nw p het 0 ca W pv sv) s n (i + 1))), some (.int (nI (i + 1)))]) dX12_highOf_35 rfl (by decide) rfl ?_
        refine Rn.goto dX12_highOf_38 ?_
        exact ih (i + 1) N2 (by omega) (hF.tr hF2) hE2 hs2
  exact loop N 0 _ (by omega) psF.rf hE hs
