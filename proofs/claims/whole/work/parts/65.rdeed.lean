/-- the bridge b of I is the bridge c of J -/
def cpB (I : Nat → Nat → Int32) (b : Nat) (J : Nat → Nat → Int32) (c : Nat) : Prop := (∀ a, 169 ≤ a ∧ a ≤ 172 → I a b = J a c) ∧ (∀ a, 173 ≤ a ∧ a ≤ 176 → ∀ j, j < 12 → I a (12 * b + j) = J a (12 * c + j)) ∧ (∀ a, 177 ≤ a ∧ a ≤ 179 → ∀ j, j < 6 → I a (6 * b + j) = J a (6 * c + j)) ∧ I 180 b = J 180 c ∧ (∀ nf : Nat, nf ≤ 12 → J 180 c = nI nf → ∀ a, 181 ≤ a ∧ a ≤ 182 → ∀ j, j < nf → I a (12 * b + j) = J a (12 * c + j))
/-- a bridge is such as it can be -/
def gdB (I : Nat → Nat → Int32) (b : Nat) : Prop := ¬ (b = 1 ∨ b = 3) → (∃ nf : Nat, nf ≤ 12 ∧ I 180 b = nI nf) ∧ (I 171 b = 0 ∨ I 171 b = 1)
theorem cpB.rf {I : Nat → Nat → Int32} {b : Nat} : cpB I b I b := ⟨fun _ _ => rfl, fun _ _ _ _ => rfl, fun _ _ _ _ => rfl, rfl, fun _ _ _ _ _ _ _ => rfl⟩
theorem cpB.tr {I J L : Nat → Nat → Int32} {b c d : Nat} (h : cpB I b J c) (g : cpB J c L d) : cpB I b L d := ⟨fun a h1 => (h.1 a h1).trans (g.1 a h1), fun a h1 j hj => (h.2.1 a h1 j hj).trans (g.2.1 a h1 j hj), fun a h1 j hj => (h.2.2.1 a h1 j hj).trans (g.2.2.1 a h1 j hj), h.2.2.2.1.trans g.2.2.2.1, fun nf h1 h2 a h3 j hj => (h.2.2.2.2 nf h1 (g.2.2.2.1.trans h2) a h3 j hj).trans (g.2.2.2.2 nf h1 h2 a h3 j hj)⟩
theorem cpB.gd {I J : Nat → Nat → Int32} {b c : Nat} (h : cpB I b J c) (g : gdB J c) (hc : b = c ∨ ¬ (c = 1 ∨ c = 3) := by omega) : gdB I b := fun hb => by
  have g2 := g (by omega)
  exact ⟨by rw [h.2.2.2.1]; exact g2.1, by rw [h.1 171 (by omega)]; exact g2.2⟩
theorem cpB.al {I J : Nat → Nat → Int32} {b c nw t : Nat} {s : Sc} (h : cpB I b J c) (hw6 : nw ≤ 6) (g : rAl J c nw t s) : rAl I b nw t s := by
  obtain ⟨r1, r2, r3, r4, r5, r6, ⟨r7, r7b⟩, r8, r9, r10⟩ := g
  refine ⟨fun j hj => (h.2.1 173 (by omega) j hj).trans (r1 j hj), fun j hj => (h.2.1 174 (by omega) j hj).trans (r2 j hj), fun j hj => (h.2.1 175 (by omega) j hj).trans (r3 j hj), fun j hj => (h.2.1 176 (by omega) j hj).trans (r4 j hj), fun w hw => ?_, (h.1 172 (by omega)).trans r6, ⟨(h.1 169 (by omega)).trans r7, r7b⟩, (h.1 170 (by omega)).trans r8, r9, r10⟩
  rw [h.2.2.1 177 (by omega) w (by omega), h.2.2.1 178 (by omega) w (by omega), h.2.2.1 179 (by omega) w (by omega)]
  exact r5 w hw
theorem cpB.ft {I J : Nat → Nat → Int32} {b c nf : Nat} {fc fk : Nat → Int32} (h : cpB I b J c) (g : ftR J c nf fc fk) : ftR I b nf fc fk := ⟨h.2.2.2.1.trans g.1, g.2.1, fun j hj => (h.2.2.2.2 nf g.2.1 g.1 181 (by omega) j hj).trans (g.2.2.1 j hj), fun j hj => (h.2.2.2.2 nf g.2.1 g.1 182 (by omega) j hj).trans (g.2.2.2 j hj)⟩
theorem cbR.cp {M K : Mm} {p q nf : Nat} (h : cbR M K p q nf) (hnf : M.1 180 q = nI nf) (h12 : nf ≤ 12) : cpB K.1 p M.1 q := by
  obtain ⟨h1, h2, h3, h4, h5, h6, h7⟩ := h
  refine ⟨fun a ha => by rw [h3 a ha]; exact pk_us, fun a ha j hj => by rw [h4 a ha]; exact blk_in hj, fun a ha j hj => by rw [h5 a ha]; exact blk_in hj, by rw [h6, hnf]; exact pk_us, fun n2 h8 h9 a ha j hj => ?_⟩
  have e : n2 = nf := (nI_eq (by omega) (by omega)).mp (h9.symm.trans hnf)
  subst e
  rw [h7 a ha]; exact blk_in hj
theorem cbR.ne {M K : Mm} {p q nf b : Nat} (h : cbR M K p q nf) (h12 : nf ≤ 12) (hb : b ≠ p) : cpB K.1 b M.1 b := by
  obtain ⟨h1, h2, h3, h4, h5, h6, h7⟩ := h
  exact ⟨fun a ha => by rw [h3 a ha]; exact pk_un hb, fun a ha j hj => by rw [h4 a ha]; exact blk_out (by omega), fun a ha j hj => by rw [h5 a ha]; exact blk_out (by omega), by rw [h6]; exact pk_un hb, fun n2 h8 h9 a ha j hj => by rw [h7 a ha]; exact blk_out (by omega)⟩
/-- bridges alone have changed, and how many deeds there are -/
def kpF (M K : Mm) : Prop := K.2.2 = M.2.2 ∧ (∀ a, a ≠ 149 → (a < 169 ∨ 182 < a) → K.1 a = M.1 a) ∧ (∀ j, j ≠ 51 → K.1 149 j = M.1 149 j)
theorem kpF.rf {M : Mm} : kpF M M := ⟨rfl, fun _ _ _ => rfl, fun _ _ => rfl⟩
theorem kpF.tr {M N K : Mm} (h : kpF M N) (g : kpF N K) : kpF M K := ⟨g.1.trans h.1, fun a a1 a2 => (g.2.1 a a1 a2).trans (h.2.1 a a1 a2), fun j a1 => (g.2.2 j a1).trans (h.2.2 j a1)⟩
theorem cbR.kp {M K : Mm} {p q nf : Nat} (h : cbR M K p q nf) : kpF M K := ⟨h.1, fun a _ a2 => h.2.1 a a2, fun j _ => congrFun (h.2.1 149 (by omega)) j⟩
theorem kpF.p51 {M : Mm} {x : Int32} : kpF M (sI M 149 (upd (M.1 149) 51 x)) := ⟨rfl, fun a a1 _ => sI_ne a1, fun j a1 => pk_un a1⟩
theorem cpB.eq {I J : Nat → Nat → Int32} {b : Nat} (h : ∀ a, 169 ≤ a ∧ a ≤ 182 → I a = J a) : cpB I b J b := ⟨fun a ha => congrFun (h a (by omega)) b, fun a ha j _ => congrFun (h a (by omega)) _, fun a ha j _ => congrFun (h a (by omega)) _, congrFun (h 180 (by omega)) b, fun _ _ _ a ha j _ => congrFun (h a (by omega)) _⟩
theorem cpB.f {M : Mm} {J : Nat → Nat → Int32} {f : Nat → Int32} {b c : Nat} (h : cpB M.1 b J c) : cpB (sI M 149 f).1 b J c := (cpB.eq (fun a ha => sI_ne (by omega))).tr h
def dsh (nd : Nat) : Nat := if nd = 20 then 1 else 0
theorem tX12_keepNow {G : Gx} {l : Launch} {ly : Ly} {M : Mm} {nd : Nat} (hD : M.1 149 51 = nI nd ∧ nd ≤ 20) (hgd : ∀ b, b < 24 → gdB M.1 b) (hR : RW ly M.2.2) {Q : Qt} (hQ : ∀ K : Mm, kpF M K → K.1 149 51 = nI (dN nd) → (∀ b, b < 24 → gdB K.1 b) → (∀ b, b < 4 → cpB K.1 b M.1 b) → (∀ k, k + 1 < dN nd → cpB K.1 (4 + k) M.1 (4 + k + dsh nd)) → (∀ k, k + 1 = dN nd → cpB K.1 (4 + k) M.1 0) → Q none ly K) : Mt G l mX12_keepNow (3, 0, 0, false) [.ref 149] ly M Q := by
  refine Mt.of (lv := [some (.ref 149), none]) rfl ?_
  have join : ∀ (KK : Mm) (e : Nat), e = nd - dsh nd → e ≤ 19 → kpF M KK → KK.1 149 51 = nI e → (∀ b, b < 24 → gdB KK.1 b) → (∀ b, b < 4 → cpB KK.1 b M.1 b) → (∀ k, k < e → cpB KK.1 (4 + k) M.1 (4 + k + dsh nd)) → Rn G l mX12_keepNow (3, 0, 0, false) 45 [some (.ref 149), none] [] ly KK Q := by
    intro KK e he he19 hF h51 hg h4 hk
    have hRKK : RW ly KK.2.2 := by rw [hF.1]; exact hR
    obtain ⟨⟨nf, hnf12, hnf⟩, hbl⟩ := hg 0 (by omega) (by omega)
    have hdn : dN nd = e + 1 := by unfold dN dsh at *; split at he <;> (split <;> omega)
    refine Rn.aload_n dX12_keepNow_45 rfl ?_
    refine Rn.iconstv (v := 4) dX12_keepNow_46 ic_4 ?_
    refine Rn.aload_n dX12_keepNow_47 rfl ?_
    refine Rn.getI dX12_keepNow_48 fX12_340 rfl (rc149 hRKK) ?_
    refine Rn.topI (y := nI e) (h51) ?_
    refine Rn.iadd dX12_keepNow_51 ?_
    refine Rn.topI (y := nI (4 + e)) (nI_add 4 e) ?_
    refine Rn.iconstv (v := 0) dX12_keepNow_52 ic_0 ?_
    refine Rn.callV2 dX12_keepNow_53 vX12_461 (rc149 hRKK) (by decide) rfl (tX12_copies (M := KK) (p := 4 + e) (q := 0) (nf := nf) (Q := fun v0 ly0 K => v0 = none ∧ ly0 = ly ∧ cbR KK K (4 + e) 0 nf) (by omega) (by decide) (by omega) hnf hnf12 hbl hRKK (fun K h => ⟨rfl, rfl, h⟩)) (by decide) ⟨(Nat.le_of_ble_eq_true rfl), (Nat.le_of_ble_eq_true rfl), (Nat.le_of_ble_eq_true rfl)⟩ (fun h => by cases h) (fun v1 ly1 N1 ⟨q1, q2, hb⟩ => ?_)
    rw [q1, q2]
    have hF1 := hF.tr hb.kp
    have hRN1 : RW ly N1.2.2 := by rw [hF1.1]; exact hR
    have h51b : N1.1 149 51 = nI e := (congrFun (hb.2.1 149 (by omega)) 51).trans h51
    refine Rn.aload_n dX12_keepNow_56 rfl ?_
    refine Rn.dup dX12_keepNow_57 rfl ?_
    refine Rn.getI dX12_keepNow_58 fX12_340 rfl (rc149 hRN1) ?_
    refine Rn.topI (y := nI e) (h51b) ?_
    refine Rn.iconstv (v := 1) dX12_keepNow_61 ic_1 ?_
    refine Rn.iadd dX12_keepNow_62 ?_
    refine Rn.topI (y := nI (e + 1)) (nI_add e 1) ?_
    refine Rn.putI dX12_keepNow_63 fX12_340 rfl rfl rfl (rc149 hRN1) ?_
    refine Rn.vret dX12_keepNow_66 rfl (hQ _ (hF1.tr kpF.p51) (by rw [hdn]; rfl) (fun b hb2 => ?_) (fun b hb2 => ((hb.ne hnf12 (by omega)).tr (h4 b hb2)).f) (fun k hk2 => ((hb.ne hnf12 (by omega)).tr (hk k (by omega))).f) (fun k hk2 => ?_))
    · show gdB N1.1 b
      by_cases e2 : b = 4 + e
      · subst e2; exact (hb.cp hnf hnf12).gd (hg 0 (by omega))
      · exact (hb.ne hnf12 e2).gd (hg b hb2)
    · have e2 : k = e := by omega
      subst e2
      exact ((hb.cp hnf hnf12).tr (h4 0 (by omega))).f
  refine Rn.aload_n dX12_keepNow_0 rfl ?_
  refine Rn.getI dX12_keepNow_1 fX12_340 rfl (rc149 hR) ?_
  refine Rn.topI (y := nI nd) (hD.1) ?_
  refine Rn.bipushv (v := 20) dX12_keepNow_4 bp_20 ?_
  refine Rn.icmp_ne dX12_keepNow_6 (fun k1 => ?_) (fun k1 => ?_)
  · skip
    have hnd : nd ≠ 20 := fun e => k1 (by rw [e]; rfl)
    have hds : dsh nd = 0 := if_neg hnd
    exact join M nd (by omega) (by omega) kpF.rf hD.1 hgd (fun b _ => cpB.rf) (fun k hk => by rw [hds]; exact cpB.rf)
  · skip
    have hnd : nd = 20 := (nI_eq (b := 20) (by omega) (by decide)).mp k1
    have hds : dsh nd = 1 := if_pos hnd
    refine Rn.iconstv (v := 1) dX12_keepNow_9 ic_1 ?_
    refine Rn.istore_n (lv' := [some (.ref 149), some (.int 1)]) dX12_keepNow_10 (by decide) rfl ?_
    have loop : ∀ (f i : Nat) (KK : Mm), i + f = 20 → 1 ≤ i → kpF M KK → KK.1 149 51 = nI nd → (∀ b, b < 24 → gdB KK.1 b) → (∀ b, b < 4 → cpB KK.1 b M.1 b) → (∀ k, k + 1 < i → cpB KK.1 (4 + k) M.1 (4 + k + 1)) → (∀ k, i ≤ k → k < 20 → cpB KK.1 (4 + k) M.1 (4 + k)) → Rn G l mX12_keepNow (3, 0, 0, false) 11 [some (.ref 149), some (.int (nI i))] [] ly KK Q := by
      intro f
      induction f with
      | zero =>
        intro i KK hi hi1 hF h51 hg h4 hk hk2
        have hRKK : RW ly KK.2.2 := by rw [hF.1]; exact hR
        refine Rn.iload_n dX12_keepNow_11 rfl ?_
        refine Rn.bipushv (v := 20) dX12_keepNow_12 bp_20 ?_
        refine Rn.icmp_ge dX12_keepNow_14 (fun hc => ?_) (fun hc => ?_)
        · skip
          have ei : 20 = i := by omega
          refine Rn.aload_n dX12_keepNow_35 rfl ?_
          refine Rn.dup dX12_keepNow_36 rfl ?_
          refine Rn.getI dX12_keepNow_37 fX12_340 rfl (rc149 hRKK) ?_
          refine Rn.topI (y := nI nd) (h51) ?_
          refine Rn.iconstv (v := 1) dX12_keepNow_40 ic_1 ?_
          refine Rn.isub dX12_keepNow_41 ?_
          refine Rn.topI (y := nI 19) (by rw [hnd]; decide) ?_
          refine Rn.putI dX12_keepNow_42 fX12_340 rfl rfl rfl (rc149 hRKK) ?_
          refine Rn.forget (lv' := [some (.ref 149), none]) (⟨rfl, trivial⟩) ?_
          exact join _ 19 (by omega) (by omega) (hF.tr kpF.p51) rfl hg (fun b hb2 => (h4 b hb2).f) (fun k hk9 => by rw [hds]; exact (hk k (by omega)).f)
        · skip
          exact absurd (nI_le (a := 20) (b := i) (by omega) (by omega)) hc
      | succ f ih =>
        intro i KK hi hi1 hF h51 hg h4 hk hk2
        have hRKK : RW ly KK.2.2 := by rw [hF.1]; exact hR
        refine Rn.iload_n dX12_keepNow_11 rfl ?_
        refine Rn.bipushv (v := 20) dX12_keepNow_12 bp_20 ?_
        refine Rn.icmp_ge dX12_keepNow_14 (fun hc => ?_) (fun hc => ?_)
        · skip
          exact absurd hc (nI_ge (a := i) (b := 20) (by omega) (by omega))
        · skip
          refine Rn.aload_n dX12_keepNow_17 rfl ?_
          refine Rn.iconstv (v := 4) dX12_keepNow_18 ic_4 ?_
          refine Rn.iload_n dX12_keepNow_19 rfl ?_
          refine Rn.iadd dX12_keepNow_20 ?_
          refine Rn.topI (y := nI (4 + i)) (nI_add 4 i) ?_
          refine Rn.iconstv (v := 1) dX12_keepNow_21 ic_1 ?_
          refine Rn.isub dX12_keepNow_22 ?_
          refine Rn.topI (y := nI (3 + i)) (by rw [show 4 + i = (3 + i) + 1 by omega]; exact nI_pred _) ?_
          refine Rn.iconstv (v := 4) dX12_keepNow_23 ic_4 ?_
          refine Rn.iload_n dX12_keepNow_24 rfl ?_
          refine Rn.iadd dX12_keepNow_25 ?_
          refine Rn.topI (y := nI (4 + i)) (nI_add 4 i) ?_
          obtain ⟨⟨nf, hnf12, hnf⟩, hbl⟩ := hg (4 + i) (by omega) (by omega)
          refine Rn.callV2 dX12_keepNow_26 vX12_461 (rc149 hRKK) (by decide) rfl (tX12_copies (M := KK) (p := 3 + i) (q := 4 + i) (nf := nf) (Q := fun v0 ly0 K => v0 = none ∧ ly0 = ly ∧ cbR KK K (3 + i) (4 + i) nf) (by omega) (by omega) (by omega) hnf hnf12 hbl hRKK (fun K h => ⟨rfl, rfl, h⟩)) (by decide) ⟨(Nat.le_of_ble_eq_true rfl), (Nat.le_of_ble_eq_true rfl), (Nat.le_of_ble_eq_true rfl)⟩ (fun h => by cases h) (fun v1 ly1 N1 ⟨q1, q2, hb⟩ => ?_)
          rw [q1, q2]
          have hF1 := hF.tr hb.kp
          have hRN1 : RW ly N1.2.2 := by rw [hF1.1]; exact hR
          have h51b : N1.1 149 51 = nI nd := (congrFun (hb.2.1 149 (by omega)) 51).trans h51
          refine Rn.iincN (lv' := [some (.ref 149), some (.int (nI (i + 1)))]) dX12_keepNow_29 rfl (by decide) rfl ?_
          refine Rn.goto dX12_keepNow_32 ?_
          refine ih (i + 1) N1 (by omega) (by omega) hF1 h51b (fun b hb2 => ?_) (fun b hb2 => (hb.ne hnf12 (by omega)).tr (h4 b hb2)) (fun k hk9 => ?_) (fun k hk8 hk9 => (hb.ne hnf12 (by omega)).tr (hk2 k (by omega) hk9))
          · by_cases e2 : b = 3 + i
            · subst e2; exact (hb.cp hnf hnf12).gd (hg (4 + i) (by omega))
            · exact (hb.ne hnf12 e2).gd (hg b hb2)
          · by_cases e2 : k + 1 = i
            · subst e2
              have h9 := (hb.cp hnf hnf12).tr (hk2 (k + 1) (by omega) (by omega))
              rw [show 3 + (k + 1) = 4 + k by omega, show 4 + (k + 1) = 4 + k + 1 by omega] at h9
              exact h9
            · exact (hb.ne hnf12 (by omega)).tr (hk k (by omega))
    exact loop 19 1 M (by omega) (by omega) kpF.rf hD.1 hgd (fun b _ => cpB.rf) (fun k hk => absurd hk (by omega)) (fun k _ _ => cpB.rf)
