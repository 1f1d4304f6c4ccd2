theorem set2_k {D : Nat → Nat → Int32} {r a b j k : Nat} {x : Int32} (hk : knD a = k) (h : knD r ≠ k ∨ j < b) : set2 D a b x r j = D r j := set2_n (h.elim (fun g => Or.inl (fun e => g (e ▸ hk))) (fun g => Or.inr (Nat.ne_of_lt g)))
theorem hi_c {D : Nat → Nat → Int32} (h : ∃ m : Nat, D 0 0 = nI m ∧ 2 ≤ m ∧ m ≤ 12) : D 0 0 - 1 ≤ 99999 := by
  obtain ⟨m, e, h1, h2⟩ := h
  rw [e, nI_sub1 (by omega)]
  exact (nI_leI (a := m - 1) (b := 99999) (by omega) (by decide)).mpr (by omega)
theorem wdF_y {B : Nat → Bool} : ∀ (k w j : Nat), w + k < 2 ^ 31 → w ≤ j → j < w + k → B j = true → ¬ wdF B k w = -1
  | 0, w, j, _, h1, h2, _ => absurd h2 (by omega)
  | k + 1, w, j, hb, h1, h2, h3 => by
    unfold wdF
    by_cases hd : B w = true
    · rw [if_pos hd]
      intro g
      have := (nI_leI (a := 0) (b := w) (by decide) (by omega)).mpr (Nat.zero_le w)
      rw [g] at this
      exact absurd this (by decide)
    · rw [if_neg hd]
      rcases Nat.eq_or_lt_of_le h1 with e | e
      · exact absurd (e ▸ h3) hd
      · exact wdF_y k (w + 1) j (by omega) e (by omega) h3
theorem rlWalker {G : Gx} {l : Launch} {ly : Ly} {M : Mm} {f : Nat → Int32} {n i : Nat} {pl : Nat} {p : Pl} (hS : CPs ly M f n pl p i)  (hX : XW ly M.2.2) : Mt G l mX6_readWalker (4, 0, 0, false) [.ref 2] ly M (clP ly M f n pl (lnW (kdF f n) (nvF f n) (nx f n) p i)) := by
  refine Mt.of (lv := [some (.ref 2), none, none, none, none]) rfl ?_
  obtain ⟨hr, hp7, h24, hP, hb, h6, hft, hct⟩ := hS
  have r6 := hr.2.2.1
  refine Rn.aload_n dX6_readWalker_0 rfl ?_
  refine Rn.iconstv (v := 0) dX6_readWalker_1 ic_0 ?_
  refine Rn.callV1 dX6_readWalker_2 vX6_112 (xc2 hX) (by decide) rfl (tkNamed (M := M) (i := i) (pl := pl) (k := 0) (m := p.ct 0) hr hp7 h24 (by decide) ⟨hP.2.1 0 (by decide), hct.1⟩ hX) (by decide) ⟨(Nat.le_of_ble_eq_true rfl), (Nat.le_of_ble_eq_true rfl), (Nat.le_of_ble_eq_true rfl)⟩ (fun h => by cases h) (fun v1 ly1 N1 ⟨q2, qr, hh⟩ => ?_)
  rw [q2]
  have hna := naQ_c (kd := kdF f n) (nv := nvF f n) (i := nx f n i) (m := p.ct 0) (N := M.1 (pl + 3 + 0)) (N2 := p.D 1) (fun j hj => hP.2.2.2.1 1 (by decide) (by decide) j hj)
  rw [hna] at hh
  rcases hh with ⟨z0, q1, g0, hfa⟩ | ⟨z0, za, q1, g0, hfa⟩ | ⟨z0, za, q1, g0, ga, gb, hrN1⟩
  · skip
    rw [q1]
    have hFN1 : pcF M N1 pl := pcF.o qr (fun a hb => g0 a (fun e => hb (Or.inl e)))
    have hXN1 : XW ly N1.2.2 := hFN1.xw hX
    have h24N1 : N1.2.2 2 4 = some pl := (hFN1.1 2 4 (by omega)).trans h24
    refine Rn.if_ne dX6_readWalker_5 (fun h9 => (by first | exact absurd h9 (by decide) | exact absurd (by decide) h9)) (fun h9 => ?_)
    refine Rn.iconstv (v := 0) dX6_readWalker_8 ic_0 ?_
    exact Rn.iret (ty := .boolean) dX6_readWalker_9 rfl rfl ⟨rfl, hFN1, Or.inr ⟨_, _, if_pos z0, rfl, hfa⟩⟩
  · skip
    rw [q1]
    have hne := Nat.ne_of_lt z0
    have hFN1 : pcF M N1 pl := pcF.o qr (fun a hb => g0 a (fun e => hb (Or.inl e)) (fun e => hb (Or.inr (Or.inl e))))
    have hXN1 : XW ly N1.2.2 := hFN1.xw hX
    have h24N1 : N1.2.2 2 4 = some pl := (hFN1.1 2 4 (by omega)).trans h24
    refine Rn.if_ne dX6_readWalker_5 (fun h9 => (by first | exact absurd h9 (by decide) | exact absurd (by decide) h9)) (fun h9 => ?_)
    refine Rn.iconstv (v := 0) dX6_readWalker_8 ic_0 ?_
    exact Rn.iret (ty := .boolean) dX6_readWalker_9 rfl rfl ⟨rfl, hFN1, Or.inr ⟨_, _, (if_neg hne).trans (qK_n za), rfl, hfa⟩⟩
  · skip
    rw [q1]
    have hne := Nat.ne_of_lt z0
    have hlt : p.ct 0 < 6 := z0
    have hFN1 : pcF M N1 pl := pcF.o qr (fun a hb => g0 a (by omega) (by omega) (by omega))
    have hXN1 : XW ly N1.2.2 := hFN1.xw hX
    have h24N1 : N1.2.2 2 4 = some pl := (hFN1.1 2 4 (by omega)).trans h24
    clear hna
    refine Rn.if_ne dX6_readWalker_5 (fun h9 => ?_) (fun h9 => (by first | exact absurd h9 (by decide) | exact absurd (by decide) h9))
    refine Rn.aload_n dX6_readWalker_10 rfl ?_
    refine Rn.iconstv (v := 1) dX6_readWalker_11 ic_1 ?_
    refine Rn.bipushv (v := 30) dX6_readWalker_12 bp_30 ?_
    refine Rn.callV2 dX6_readWalker_14 vX6_95 (xc2 hXN1) (by decide) rfl (tkNum (M := N1) (i := nx f n (nx f n i)) hrN1 (by decide) (by decide) hXN1) (by decide) ⟨(Nat.le_of_ble_eq_true rfl), (Nat.le_of_ble_eq_true rfl), (Nat.le_of_ble_eq_true rfl)⟩ (fun h => by cases h) (fun v1 ly1 N2 ⟨q2, qr, hh⟩ => ?_)
    rw [q2]
    rcases hh with ⟨z1, q1, y1, x1_, g1, hrN2⟩ | ⟨z1, q1, g1, hfa⟩
    · skip
      rw [q1]
      have hFN2 : pcF M N2 pl := hFN1.tr (pcF.o qr (fun a hb => g1 a (fun e => hb (Or.inr (Or.inl e)))))
      have hXN2 : XW ly N2.2.2 := hFN2.xw hX
      have h24N2 : N2.2.2 2 4 = some pl := (hFN2.1 2 4 (by omega)).trans h24
      refine Rn.istore_n (lv' := [some (.ref 2), some (.int (nvF f n (nx f n (nx f n i)))), none, none, none]) dX6_readWalker_17 (by decide) rfl ?_
      refine Rn.iload_n dX6_readWalker_18 rfl ?_
      refine Rn.iconstv (v := -1) dX6_readWalker_19 ic_m1 ?_
      refine Rn.icmp_ne dX6_readWalker_20 (fun h9 => ?_) (fun h9 => absurd h9 y1)
      refine Rn.aload_n dX6_readWalker_27 rfl ?_
      refine Rn.iconstv (v := 1) dX6_readWalker_28 ic_1 ?_
      refine Rn.bipushv (v := 9) dX6_readWalker_29 bp_9 ?_
      refine Rn.callV2 dX6_readWalker_31 vX6_95 (xc2 hXN2) (by decide) rfl (tkNum (M := N2) (i := nx f n (nx f n (nx f n i))) hrN2 (by decide) (by decide) hXN2) (by decide) ⟨(Nat.le_of_ble_eq_true rfl), (Nat.le_of_ble_eq_true rfl), (Nat.le_of_ble_eq_true rfl)⟩ (fun h => by cases h) (fun v1 ly1 N3 ⟨q2, qr, hh⟩ => ?_)
      rw [q2]
      rcases hh with ⟨z2, q1, y2, x2_, g2, hrN3⟩ | ⟨z2, q1, g2, hfa⟩
      · skip
        rw [q1]
        have hFN3 : pcF M N3 pl := hFN2.tr (pcF.o qr (fun a hb => g2 a (fun e => hb (Or.inr (Or.inl e)))))
        have hXN3 : XW ly N3.2.2 := hFN3.xw hX
        have h24N3 : N3.2.2 2 4 = some pl := (hFN3.1 2 4 (by omega)).trans h24
        refine Rn.istore_n (lv' := [some (.ref 2), some (.int (nvF f n (nx f n (nx f n i)))), some (.int (nvF f n (nx f n (nx f n (nx f n i))))), none, none]) dX6_readWalker_34 (by decide) rfl ?_
        refine Rn.iload_n dX6_readWalker_35 rfl ?_
        refine Rn.iconstv (v := -1) dX6_readWalker_36 ic_m1 ?_
        refine Rn.icmp_ne dX6_readWalker_37 (fun h9 => ?_) (fun h9 => absurd h9 y2)
        refine Rn.aload_n dX6_readWalker_44 rfl ?_
        refine Rn.iconstv (v := 0) dX6_readWalker_45 ic_0 ?_
        refine Rn.bipushv (v := 60) dX6_readWalker_46 bp_60 ?_
        refine Rn.callV2 dX6_readWalker_48 vX6_95 (xc2 hXN3) (by decide) rfl (tkNum (M := N3) (i := nx f n (nx f n (nx f n (nx f n i)))) hrN3 (by decide) (by decide) hXN3) (by decide) ⟨(Nat.le_of_ble_eq_true rfl), (Nat.le_of_ble_eq_true rfl), (Nat.le_of_ble_eq_true rfl)⟩ (fun h => by cases h) (fun v1 ly1 N4 ⟨q2, qr, hh⟩ => ?_)
        rw [q2]
        rcases hh with ⟨z3, q1, y3, x3_, g3, hrN4⟩ | ⟨z3, q1, g3, hfa⟩
        · skip
          rw [q1]
          have hFN4 : pcF M N4 pl := hFN3.tr (pcF.o qr (fun a hb => g3 a (fun e => hb (Or.inr (Or.inl e)))))
          have hXN4 : XW ly N4.2.2 := hFN4.xw hX
          have h24N4 : N4.2.2 2 4 = some pl := (hFN4.1 2 4 (by omega)).trans h24
          refine Rn.istore_n (lv' := [some (.ref 2), some (.int (nvF f n (nx f n (nx f n i)))), some (.int (nvF f n (nx f n (nx f n (nx f n i))))), some (.int (nvF f n (nx f n (nx f n (nx f n (nx f n i)))))), none]) dX6_readWalker_51 (by decide) rfl ?_
          refine Rn.iload_n dX6_readWalker_52 rfl ?_
          refine Rn.iconstv (v := -1) dX6_readWalker_53 ic_m1 ?_
          refine Rn.icmp_ne dX6_readWalker_54 (fun h9 => ?_) (fun h9 => absurd h9 y3)
          have o4 : ∀ a, a ≠ 3 → a ≠ pl + 1 → a ≠ pl + 3 → N4.1 a = M.1 a := fun a a1 a2 a3 => (g3 a a1).trans ((g2 a a1).trans ((g1 a a1).trans (g0 a a1 a2 a3)))
          have c4a : N4.1 (pl + 1) = upd (M.1 (pl + 1)) 0 (nI (p.ct 0 + 1)) := (g3 _ (by omega)).trans ((g2 _ (by omega)).trans ((g1 _ (by omega)).trans gb))
          have c4b : N4.1 (pl + 3) = upd (M.1 (pl + 3)) (p.ct 0) (nvF f n (nx f n i)) := (g3 _ (by omega)).trans ((g2 _ (by omega)).trans ((g1 _ (by omega)).trans ga))
          have b2 : N4.1 2 = M.1 2 := o4 2 (by decide) (by omega) (by omega)
          have rk := hrN4.2.2.1
          refine Rn.aload_n dX6_readWalker_59 rfl ?_
          refine Rn.getR dX6_readWalker_60 fX6_20 rfl (xc2 hXN4) (show N4.2.2 2 2 = some 3 from (xp2_2 hXN4)) ?_
          refine Rn.getI dX6_readWalker_63 fX6_56 rfl (xc3 hXN4) ?_
          refine Rn.topI (y := kdF f n (nx f n (nx f n (nx f n (nx f n (nx f n i)))))) (rk) ?_
          refine Rn.bipushv (v := 13) dX6_readWalker_66 bp_13 ?_
          refine Rn.icmp_ne dX6_readWalker_68 (fun h13 => ?_) (fun h13 => ?_)
          · skip
            have oN4 : ∀ a, a ≠ 2 → a ≠ 3 → a ≠ pl + 1 → a ≠ pl + 3 → N4.1 a = M.1 a := fun a _ a1 a2 a3 => o4 a a1 a2 a3
            refine Rn.aload_n dX6_readWalker_127 rfl ?_
            refine Rn.getR dX6_readWalker_128 fX6_33 rfl (xc2 hXN4) (show N4.2.2 2 4 = some pl from h24N4) ?_
            refine Rn.getR dX6_readWalker_131 fX6_118 rfl (pc0 hXN4 hp7) (show N4.2.2 pl 11 = some (pl + 7) from (pp0_11 hXN4 hp7)) ?_
            refine Rn.iload_n dX6_readWalker_134 rfl ?_
            refine Rn.iload_n dX6_readWalker_135 rfl ?_
            refine Rn.iload_n dX6_readWalker_136 rfl ?_
            refine Rn.aload_n dX6_readWalker_137 rfl ?_
            refine Rn.getR dX6_readWalker_138 fX6_20 rfl (xc2 hXN4) (show N4.2.2 2 2 = some 3 from (xp2_2 hXN4)) ?_
            refine Rn.getI dX6_readWalker_141 fX6_56 rfl (xc3 hXN4) ?_
            refine Rn.topI (y := kdF f n (nx f n (nx f n (nx f n (nx f n (nx f n i)))))) (rk) ?_
            refine Rn.bipushv (v := 12) dX6_readWalker_144 bp_12 ?_
            refine Rn.icmp_ne dX6_readWalker_146 (fun h12 => ?_) (fun h12 => ?_)
            · skip
              refine Rn.iconstv (v := 1) dX6_readWalker_153 ic_1 ?_
              refine Rn.iconstv (v := 0) dX6_readWalker_154 ic_0 ?_
              have c7 : N4.1 (pl + 7) 0 = nI (p.ct 0) := by rw [oN4 (pl + 7) (by omega) (by omega) (by omega) (by omega)]; exact hP.2.2.1.1
              have hcr : iCrowd ly N4 (pl + 7) := ⟨pc7 hXN4 hp7, pc8 hXN4 hp7, pc9 hXN4 hp7, pc10 hXN4 hp7, pc11 hXN4 hp7, pc12 hXN4 hp7, pp7_1 hXN4 hp7, pp7_2 hXN4 hp7, pp7_3 hXN4 hp7, pp7_4 hXN4 hp7, pp7_5 hXN4 hp7⟩
              refine Rn.callV5 dX6_readWalker_155 vX6_122 (pc7 hXN4 hp7) (by decide) rfl (tX0_add (M := N4) (a := pl + 7) (k := p.ct 0) hcr c7 (by omega)) (by decide) ⟨(Nat.le_of_ble_eq_true rfl), (Nat.le_of_ble_eq_true rfl), (Nat.le_of_ble_eq_true rfl)⟩ (fun h => by cases h) (fun v1 ly1 N5 ⟨q1, q2, q3⟩ => ?_)
              rw [q1, q2]
              have d0 : N5.2.2 = N4.2.2 := by rw [q3]; rfl
              have d8 : N5.1 (pl + 8) = upd (N4.1 (pl + 8)) (p.ct 0) (nvF f n (nx f n (nx f n i))) := by rw [q3, sI_ne (show pl + 8 ≠ pl + 7 by omega), sI_ne (show pl + 8 ≠ pl + 7 + 5 by omega), sI_ne (show pl + 8 ≠ pl + 7 + 4 by omega), sI_ne (show pl + 8 ≠ pl + 7 + 3 by omega), sI_ne (show pl + 8 ≠ pl + 7 + 2 by omega)]; exact sI_at _ _ _
              have d9 : N5.1 (pl + 9) = upd (N4.1 (pl + 9)) (p.ct 0) (nvF f n (nx f n (nx f n (nx f n i)))) := by rw [q3, sI_ne (show pl + 9 ≠ pl + 7 by omega), sI_ne (show pl + 9 ≠ pl + 7 + 5 by omega), sI_ne (show pl + 9 ≠ pl + 7 + 4 by omega), sI_ne (show pl + 9 ≠ pl + 7 + 3 by omega)]; exact sI_at _ _ _
              have d10 : N5.1 (pl + 10) = upd (N4.1 (pl + 10)) (p.ct 0) (nvF f n (nx f n (nx f n (nx f n (nx f n i))))) := by rw [q3, sI_ne (show pl + 10 ≠ pl + 7 by omega), sI_ne (show pl + 10 ≠ pl + 7 + 5 by omega), sI_ne (show pl + 10 ≠ pl + 7 + 4 by omega)]; exact sI_at _ _ _
              have d11 : N5.1 (pl + 11) = upd (N4.1 (pl + 11)) (p.ct 0) 1 := by rw [q3, sI_ne (show pl + 11 ≠ pl + 7 by omega), sI_ne (show pl + 11 ≠ pl + 7 + 5 by omega)]; exact sI_at _ _ _
              have d12 : N5.1 (pl + 12) = upd (N4.1 (pl + 12)) (p.ct 0) 0 := by rw [q3, sI_ne (show pl + 12 ≠ pl + 7 by omega)]; exact sI_at _ _ _
              have d7 : N5.1 (pl + 7) 0 = nI (p.ct 0 + 1) := by rw [q3]; exact (congrFun (sI_at _ _ _) 0).trans pk_us
              have dO : ∀ a, ¬ (pl + 7 ≤ a ∧ a ≤ pl + 12) → N5.1 a = N4.1 a := fun a ha => by rw [q3, sI_ne (show a ≠ pl + 7 by omega), sI_ne (show a ≠ pl + 7 + 5 by omega), sI_ne (show a ≠ pl + 7 + 4 by omega), sI_ne (show a ≠ pl + 7 + 3 by omega), sI_ne (show a ≠ pl + 7 + 2 by omega), sI_ne (show a ≠ pl + 7 + 1 by omega)]
              clear q3
              have hFN5 : pcF M N5 pl := hFN4.tr (pcF.o d0 (fun a hb => dO a (by omega)))
              have hXN5 : XW ly N5.2.2 := hFN5.xw hX
              have h24N5 : N5.2.2 2 4 = some pl := (hFN5.1 2 4 (by omega)).trans h24
              have rk5 : N5.1 3 0 = kdF f n (nx f n (nx f n (nx f n (nx f n (nx f n i))))) := by rw [dO 3 (by omega)]; exact rk
              have hrN5 : CRd N5 f n (nx f n (nx f n (nx f n (nx f n (nx f n i))))) := hrN4.of (dO 1 (by omega)) (dO 3 (by omega)) (dO 4 (by omega))
              refine Rn.aload_n dX6_readWalker_158 rfl ?_
              refine Rn.getR dX6_readWalker_159 fX6_20 rfl (xc2 hXN5) (show N5.2.2 2 2 = some 3 from (xp2_2 hXN5)) ?_
              refine Rn.getI dX6_readWalker_162 fX6_56 rfl (xc3 hXN5) ?_
              refine Rn.topI (y := kdF f n (nx f n (nx f n (nx f n (nx f n (nx f n i)))))) (rk5) ?_
              refine Rn.bipushv (v := 12) dX6_readWalker_165 bp_12 ?_
              refine Rn.icmp_ne dX6_readWalker_167 (fun h9 => ?_) (fun h9 => absurd h9 h12)
              refine Rn.aload_n dX6_readWalker_179 rfl ?_
              refine Rn.bipushv (v := 11) dX6_readWalker_180 bp_11 ?_
              refine Rn.callV1 dX6_readWalker_182 vX6_63 (xc2 hXN5) (by decide) rfl (tkTk (M := N5) (i := nx f n (nx f n (nx f n (nx f n (nx f n i))))) (x := 11) hrN5 hXN5) (by decide) ⟨(Nat.le_of_ble_eq_true rfl), (Nat.le_of_ble_eq_true rfl), (Nat.le_of_ble_eq_true rfl)⟩ (fun h => by cases h) (fun v1 ly1 N6 ⟨q2, qr, hh⟩ => ?_)
              rw [q2]
              rcases hh with ⟨z4, q1, g4, hrN6⟩ | ⟨z4, q1, g4, hfa⟩
              · skip
                rw [q1]
                have hFN6 : pcF M N6 pl := hFN5.tr (pcF.o qr (fun a hb => g4 a (fun e => hb (Or.inr (Or.inl e)))))
                have hXN6 : XW ly N6.2.2 := hFN6.xw hX
                have h24N6 : N6.2.2 2 4 = some pl := (hFN6.1 2 4 (by omega)).trans h24
                have hK3 : ∀ a, a ≠ 3 → N6.1 a = N5.1 a := g4
                have oK := oN4
                have cKa := c4a
                have hN3 : N5.1 (pl + 3) = upd (M.1 (pl + 3)) (p.ct 0) (nvF f n (nx f n i)) := (dO _ (by omega)).trans c4b
                have h2N : N6.1 2 = M.1 2 := (g4 2 (by decide)).trans ((dO 2 (by omega)).trans b2)
                have hwy : (if kdF f n (nx f n (nx f n (nx f n (nx f n (nx f n i))))) = 12 then -1 else 1) = (1 : Int32) := if_neg h12
                have hOK : ∀ a, a ≠ 2 → a ≠ 3 → a ≠ pl + 1 → a ≠ pl + 3 → ¬ (pl + 7 ≤ a ∧ a ≤ pl + 12) → N6.1 a = M.1 a := fun a a1 a2 a3 a4 a5 => (hK3 a a2).trans ((dO a a5).trans (oK a a1 a2 a3 a4))
                have hres : lnW (kdF f n) (nvF f n) (nx f n) p i = .inl (addW p (nvF f n (nx f n i)) (nvF f n (nx f n (nx f n i))) (nvF f n (nx f n (nx f n (nx f n i)))) (nvF f n (nx f n (nx f n (nx f n (nx f n i))))) 1 0 p.hc, nx f n (nx f n (nx f n (nx f n (nx f n (nx f n i)))))) := by rw [← hwy]; exact (if_neg hne).trans ((qK_0 za).trans ((qK_0 z1).trans ((qK_0 z2).trans ((qK_0 z3).trans ((if_neg h13).trans (if_pos (Or.inl z4)))))))
                have hrow : ∀ r, 1 ≤ r → r ≤ 13 → knD r = 0 → N6.1 (pl + cOf r) = upd (M.1 (pl + cOf r)) (p.ct 0) ((addW p (nvF f n (nx f n i)) (nvF f n (nx f n (nx f n i))) (nvF f n (nx f n (nx f n (nx f n i)))) (nvF f n (nx f n (nx f n (nx f n (nx f n i))))) 1 0 p.hc).1 r (p.ct 0)) := by
                  intro r r1 r2 hk9
                  match r, r1, r2 with
                  | 1, _, _ => exact (hK3 (pl + 3) (by omega)).trans (hN3.trans (congrArg (upd _ _) (show nvF f n (nx f n i) = (addW p (nvF f n (nx f n i)) (nvF f n (nx f n (nx f n i))) (nvF f n (nx f n (nx f n (nx f n i)))) (nvF f n (nx f n (nx f n (nx f n (nx f n i))))) 1 0 p.hc).1 1 (p.ct 0) from pk_us.symm)))
                  | 2, _, _ => exact absurd hk9 (by decide)
                  | 3, _, _ => exact absurd hk9 (by decide)
                  | 4, _, _ => exact absurd hk9 (by decide)
                  | 5, _, _ => exact (hK3 (pl + 8) (by omega)).trans (d8.trans ((congrArg (fun r9 => upd r9 _ _) (oK (pl + 8) (by omega) (by omega) (by omega) (by omega))).trans (congrArg (upd _ _) (show _ = (addW p (nvF f n (nx f n i)) (nvF f n (nx f n (nx f n i))) (nvF f n (nx f n (nx f n (nx f n i)))) (nvF f n (nx f n (nx f n (nx f n (nx f n i))))) 1 0 p.hc).1 5 (p.ct 0) from pk_us.symm))))
                  | 6, _, _ => exact (hK3 (pl + 9) (by omega)).trans (d9.trans ((congrArg (fun r9 => upd r9 _ _) (oK (pl + 9) (by omega) (by omega) (by omega) (by omega))).trans (congrArg (upd _ _) (show _ = (addW p (nvF f n (nx f n i)) (nvF f n (nx f n (nx f n i))) (nvF f n (nx f n (nx f n (nx f n i)))) (nvF f n (nx f n (nx f n (nx f n (nx f n i))))) 1 0 p.hc).1 6 (p.ct 0) from pk_us.symm))))
                  | 7, _, _ => exact (hK3 (pl + 10) (by omega)).trans (d10.trans ((congrArg (fun r9 => upd r9 _ _) (oK (pl + 10) (by omega) (by omega) (by omega) (by omega))).trans (congrArg (upd _ _) (show _ = (addW p (nvF f n (nx f n i)) (nvF f n (nx f n (nx f n i))) (nvF f n (nx f n (nx f n (nx f n i)))) (nvF f n (nx f n (nx f n (nx f n (nx f n i))))) 1 0 p.hc).1 7 (p.ct 0) from pk_us.symm))))
                  | 8, _, _ => exact (hK3 (pl + 11) (by omega)).trans (d11.trans ((congrArg (fun r9 => upd r9 _ _) (oK (pl + 11) (by omega) (by omega) (by omega) (by omega))).trans (congrArg (upd _ _) (show _ = (addW p (nvF f n (nx f n i)) (nvF f n (nx f n (nx f n i))) (nvF f n (nx f n (nx f n (nx f n i)))) (nvF f n (nx f n (nx f n (nx f n (nx f n i))))) 1 0 p.hc).1 8 (p.ct 0) from pk_us.symm))))
                  | 9, _, _ => exact (hK3 (pl + 12) (by omega)).trans (d12.trans ((congrArg (fun r9 => upd r9 _ _) (oK (pl + 12) (by omega) (by omega) (by omega) (by omega))).trans (congrArg (upd _ _) (show _ = (addW p (nvF f n (nx f n i)) (nvF f n (nx f n (nx f n i))) (nvF f n (nx f n (nx f n (nx f n i)))) (nvF f n (nx f n (nx f n (nx f n (nx f n i))))) 1 0 p.hc).1 9 (p.ct 0) from pk_us.symm))))
                  | 10, _, _ => exact absurd hk9 (by decide)
                  | 11, _, _ => exact absurd hk9 (by decide)
                  | 12, _, _ => exact absurd hk9 (by decide)
                  | 13, _, _ => exact absurd hk9 (by decide)
                have hrow2 : ∀ r, 1 ≤ r → r ≤ 13 → knD r ≠ 0 → N6.1 (pl + cOf r) = M.1 (pl + cOf r) := by
                  intro r r1 r2 hk9
                  match r, r1, r2 with
                  | 1, _, _ => exact absurd rfl hk9
                  | 2, _, _ => exact hOK (pl + 4) (by omega) (by omega) (by omega) (by omega) (by omega)
                  | 3, _, _ => exact hOK (pl + 5) (by omega) (by omega) (by omega) (by omega) (by omega)
                  | 4, _, _ => exact hOK (pl + 6) (by omega) (by omega) (by omega) (by omega) (by omega)
                  | 5, _, _ => exact absurd rfl hk9
                  | 6, _, _ => exact absurd rfl hk9
                  | 7, _, _ => exact absurd rfl hk9
                  | 8, _, _ => exact absurd rfl hk9
                  | 9, _, _ => exact absurd rfl hk9
                  | 10, _, _ => exact hOK (pl + 14) (by omega) (by omega) (by omega) (by omega) (by omega)
                  | 11, _, _ => exact hOK (pl + 15) (by omega) (by omega) (by omega) (by omega) (by omega)
                  | 12, _, _ => exact hOK (pl + 16) (by omega) (by omega) (by omega) (by omega) (by omega)
                  | 13, _, _ => exact hOK (pl + 17) (by omega) (by omega) (by omega) (by omega) (by omega)
                have hD2 : ∀ r j, 1 ≤ r → r ≤ 13 → (knD r ≠ 0 ∨ j < p.ct 0) → (addW p (nvF f n (nx f n i)) (nvF f n (nx f n (nx f n i))) (nvF f n (nx f n (nx f n (nx f n i)))) (nvF f n (nx f n (nx f n (nx f n (nx f n i))))) 1 0 p.hc).1 r j = p.D r j := fun r j _ _ h9 => (set2_k (a := 9) rfl h9).trans ((set2_k (a := 8) rfl h9).trans ((set2_k (a := 7) rfl h9).trans ((set2_k (a := 6) rfl h9).trans ((set2_k (a := 5) rfl h9).trans ((set2_k (a := 1) rfl h9).trans (rfl))))))
                have hPN : CPl N6 pl (addW p (nvF f n (nx f n i)) (nvF f n (nx f n (nx f n i))) (nvF f n (nx f n (nx f n (nx f n i)))) (nvF f n (nx f n (nx f n (nx f n (nx f n i))))) 1 0 p.hc) := CPl.add (k := 0) hP (hOK pl (by omega) (by omega) (by omega) (by omega) (by omega)) rfl ((hK3 (pl + 1) (by omega)).trans ((dO _ (by omega)).trans cKa)) ((congrFun (hK3 (pl + 7) (by omega)) 0).trans d7) ((congrFun (hOK (pl + 13) (by omega) (by omega) (by omega) (by omega) (by omega)) 0).trans hP.2.2.1.2) hrow hrow2 hD2 (fun a a1 a2 => hOK a (by omega) (by omega) (by omega) (by omega) (by omega))
                exact Rn.iret (ty := .boolean) dX6_readWalker_185 rfl rfl ⟨rfl, hFN6, Or.inl ⟨_, _, hres, rfl, hrN6, hp7, h24N6, hPN, by rw [h2N]; exact hb, by rw [h2N]; exact h6, by rw [h2N]; exact hft, hlt, hct.2.1, hct.2.2.1, hct.2.2.2.1, hct.2.2.2.2.1, hct.2.2.2.2.2⟩⟩
              · skip
                rw [q1]
                have hFN6 : pcF M N6 pl := hFN5.tr (pcF.o qr (fun a hb => g4 a (fun e => hb (Or.inl e))))
                have hXN6 : XW ly N6.2.2 := hFN6.xw hX
                have h24N6 : N6.2.2 2 4 = some pl := (hFN6.1 2 4 (by omega)).trans h24
                exact Rn.iret (ty := .boolean) dX6_readWalker_185 rfl rfl ⟨rfl, hFN6, Or.inr ⟨_, _, (if_neg hne).trans ((qK_0 za).trans ((qK_0 z1).trans ((qK_0 z2).trans ((qK_0 z3).trans ((if_neg h13).trans (if_neg (fun g => g.elim z4 h12))))))), rfl, hfa⟩⟩
            · skip
              refine Rn.iconstv (v := -1) dX6_readWalker_149 ic_m1 ?_
              refine Rn.goto dX6_readWalker_150 ?_
              refine Rn.iconstv (v := 0) dX6_readWalker_154 ic_0 ?_
              have c7 : N4.1 (pl + 7) 0 = nI (p.ct 0) := by rw [oN4 (pl + 7) (by omega) (by omega) (by omega) (by omega)]; exact hP.2.2.1.1
              have hcr : iCrowd ly N4 (pl + 7) := ⟨pc7 hXN4 hp7, pc8 hXN4 hp7, pc9 hXN4 hp7, pc10 hXN4 hp7, pc11 hXN4 hp7, pc12 hXN4 hp7, pp7_1 hXN4 hp7, pp7_2 hXN4 hp7, pp7_3 hXN4 hp7, pp7_4 hXN4 hp7, pp7_5 hXN4 hp7⟩
              refine Rn.callV5 dX6_readWalker_155 vX6_122 (pc7 hXN4 hp7) (by decide) rfl (tX0_add (M := N4) (a := pl + 7) (k := p.ct 0) hcr c7 (by omega)) (by decide) ⟨(Nat.le_of_ble_eq_true rfl), (Nat.le_of_ble_eq_true rfl), (Nat.le_of_ble_eq_true rfl)⟩ (fun h => by cases h) (fun v1 ly1 N5 ⟨q1, q2, q3⟩ => ?_)
              rw [q1, q2]
              have d0 : N5.2.2 = N4.2.2 := by rw [q3]; rfl
              have d8 : N5.1 (pl + 8) = upd (N4.1 (pl + 8)) (p.ct 0) (nvF f n (nx f n (nx f n i))) := by rw [q3, sI_ne (show pl + 8 ≠ pl + 7 by omega), sI_ne (show pl + 8 ≠ pl + 7 + 5 by omega), sI_ne (show pl + 8 ≠ pl + 7 + 4 by omega), sI_ne (show pl + 8 ≠ pl + 7 + 3 by omega), sI_ne (show pl + 8 ≠ pl + 7 + 2 by omega)]; exact sI_at _ _ _
              have d9 : N5.1 (pl + 9) = upd (N4.1 (pl + 9)) (p.ct 0) (nvF f n (nx f n (nx f n (nx f n i)))) := by rw [q3, sI_ne (show pl + 9 ≠ pl + 7 by omega), sI_ne (show pl + 9 ≠ pl + 7 + 5 by omega), sI_ne (show pl + 9 ≠ pl + 7 + 4 by omega), sI_ne (show pl + 9 ≠ pl + 7 + 3 by omega)]; exact sI_at _ _ _
              have d10 : N5.1 (pl + 10) = upd (N4.1 (pl + 10)) (p.ct 0) (nvF f n (nx f n (nx f n (nx f n (nx f n i))))) := by rw [q3, sI_ne (show pl + 10 ≠ pl + 7 by omega), sI_ne (show pl + 10 ≠ pl + 7 + 5 by omega), sI_ne (show pl + 10 ≠ pl + 7 + 4 by omega)]; exact sI_at _ _ _
              have d11 : N5.1 (pl + 11) = upd (N4.1 (pl + 11)) (p.ct 0) (-1) := by rw [q3, sI_ne (show pl + 11 ≠ pl + 7 by omega), sI_ne (show pl + 11 ≠ pl + 7 + 5 by omega)]; exact sI_at _ _ _
              have d12 : N5.1 (pl + 12) = upd (N4.1 (pl + 12)) (p.ct 0) 0 := by rw [q3, sI_ne (show pl + 12 ≠ pl + 7 by omega)]; exact sI_at _ _ _
              have d7 : N5.1 (pl + 7) 0 = nI (p.ct 0 + 1) := by rw [q3]; exact (congrFun (sI_at _ _ _) 0).trans pk_us
              have dO : ∀ a, ¬ (pl + 7 ≤ a ∧ a ≤ pl + 12) → N5.1 a = N4.1 a := fun a ha => by rw [q3, sI_ne (show a ≠ pl + 7 by omega), sI_ne (show a ≠ pl + 7 + 5 by omega), sI_ne (show a ≠ pl + 7 + 4 by omega), sI_ne (show a ≠ pl + 7 + 3 by omega), sI_ne (show a ≠ pl + 7 + 2 by omega), sI_ne (show a ≠ pl + 7 + 1 by omega)]
              clear q3
              have hFN5 : pcF M N5 pl := hFN4.tr (pcF.o d0 (fun a hb => dO a (by omega)))
              have hXN5 : XW ly N5.2.2 := hFN5.xw hX
              have h24N5 : N5.2.2 2 4 = some pl := (hFN5.1 2 4 (by omega)).trans h24
              have rk5 : N5.1 3 0 = kdF f n (nx f n (nx f n (nx f n (nx f n (nx f n i))))) := by rw [dO 3 (by omega)]; exact rk
              have hrN5 : CRd N5 f n (nx f n (nx f n (nx f n (nx f n (nx f n i))))) := hrN4.of (dO 1 (by omega)) (dO 3 (by omega)) (dO 4 (by omega))
              refine Rn.aload_n dX6_readWalker_158 rfl ?_
              refine Rn.getR dX6_readWalker_159 fX6_20 rfl (xc2 hXN5) (show N5.2.2 2 2 = some 3 from (xp2_2 hXN5)) ?_
              refine Rn.getI dX6_readWalker_162 fX6_56 rfl (xc3 hXN5) ?_
              refine Rn.topI (y := kdF f n (nx f n (nx f n (nx f n (nx f n (nx f n i)))))) (rk5) ?_
              refine Rn.bipushv (v := 12) dX6_readWalker_165 bp_12 ?_
              refine Rn.icmp_ne dX6_readWalker_167 (fun h9 => absurd h12 h9) (fun h9 => ?_)
              refine Rn.aload_n dX6_readWalker_170 rfl ?_
              refine Rn.bipushv (v := 12) dX6_readWalker_171 bp_12 ?_
              refine Rn.callV1 dX6_readWalker_173 vX6_63 (xc2 hXN5) (by decide) rfl (tkTk (M := N5) (i := nx f n (nx f n (nx f n (nx f n (nx f n i))))) (x := 12) hrN5 hXN5) (by decide) ⟨(Nat.le_of_ble_eq_true rfl), (Nat.le_of_ble_eq_true rfl), (Nat.le_of_ble_eq_true rfl)⟩ (fun h => by cases h) (fun v1 ly1 N6 ⟨q2, qr, hh⟩ => ?_)
              rw [q2]
              rcases hh with ⟨z4, q1, g4, hrN6⟩ | ⟨z4, q1, g4, hfa⟩
              · skip
                rw [q1]
                have hFN6 : pcF M N6 pl := hFN5.tr (pcF.o qr (fun a hb => g4 a (fun e => hb (Or.inr (Or.inl e)))))
                have hXN6 : XW ly N6.2.2 := hFN6.xw hX
                have h24N6 : N6.2.2 2 4 = some pl := (hFN6.1 2 4 (by omega)).trans h24
                refine Rn.goto dX6_readWalker_176 ?_
                have hK3 : ∀ a, a ≠ 3 → N6.1 a = N5.1 a := g4
                have oK := oN4
                have cKa := c4a
                have hN3 : N5.1 (pl + 3) = upd (M.1 (pl + 3)) (p.ct 0) (nvF f n (nx f n i)) := (dO _ (by omega)).trans c4b
                have h2N : N6.1 2 = M.1 2 := (g4 2 (by decide)).trans ((dO 2 (by omega)).trans b2)
                have hwy : (if kdF f n (nx f n (nx f n (nx f n (nx f n (nx f n i))))) = 12 then -1 else 1) = (-1 : Int32) := if_pos h12
                have hOK : ∀ a, a ≠ 2 → a ≠ 3 → a ≠ pl + 1 → a ≠ pl + 3 → ¬ (pl + 7 ≤ a ∧ a ≤ pl + 12) → N6.1 a = M.1 a := fun a a1 a2 a3 a4 a5 => (hK3 a a2).trans ((dO a a5).trans (oK a a1 a2 a3 a4))
                have hres : lnW (kdF f n) (nvF f n) (nx f n) p i = .inl (addW p (nvF f n (nx f n i)) (nvF f n (nx f n (nx f n i))) (nvF f n (nx f n (nx f n (nx f n i)))) (nvF f n (nx f n (nx f n (nx f n (nx f n i))))) (-1) 0 p.hc, nx f n (nx f n (nx f n (nx f n (nx f n (nx f n i)))))) := by rw [← hwy]; exact (if_neg hne).trans ((qK_0 za).trans ((qK_0 z1).trans ((qK_0 z2).trans ((qK_0 z3).trans ((if_neg h13).trans (if_pos (Or.inr z4)))))))
                have hrow : ∀ r, 1 ≤ r → r ≤ 13 → knD r = 0 → N6.1 (pl + cOf r) = upd (M.1 (pl + cOf r)) (p.ct 0) ((addW p (nvF f n (nx f n i)) (nvF f n (nx f n (nx f n i))) (nvF f n (nx f n (nx f n (nx f n i)))) (nvF f n (nx f n (nx f n (nx f n (nx f n i))))) (-1) 0 p.hc).1 r (p.ct 0)) := by
                  intro r r1 r2 hk9
                  match r, r1, r2 with
                  | 1, _, _ => exact (hK3 (pl + 3) (by omega)).trans (hN3.trans (congrArg (upd _ _) (show nvF f n (nx f n i) = (addW p (nvF f n (nx f n i)) (nvF f n (nx f n (nx f n i))) (nvF f n (nx f n (nx f n (nx f n i)))) (nvF f n (nx f n (nx f n (nx f n (nx f n i))))) (-1) 0 p.hc).1 1 (p.ct 0) from pk_us.symm)))
                  | 2, _, _ => exact absurd hk9 (by decide)
                  | 3, _, _ => exact absurd hk9 (by decide)
                  | 4, _, _ => exact absurd hk9 (by decide)
                  | 5, _, _ => exact (hK3 (pl + 8) (by omega)).trans (d8.trans ((congrArg (fun r9 => upd r9 _ _) (oK (pl + 8) (by omega) (by omega) (by omega) (by omega))).trans (congrArg (upd _ _) (show _ = (addW p (nvF f n (nx f n i)) (nvF f n (nx f n (nx f n i))) (nvF f n (nx f n (nx f n (nx f n i)))) (nvF f n (nx f n (nx f n (nx f n (nx f n i))))) (-1) 0 p.hc).1 5 (p.ct 0) from pk_us.symm))))
                  | 6, _, _ => exact (hK3 (pl + 9) (by omega)).trans (d9.trans ((congrArg (fun r9 => upd r9 _ _) (oK (pl + 9) (by omega) (by omega) (by omega) (by omega))).trans (congrArg (upd _ _) (show _ = (addW p (nvF f n (nx f n i)) (nvF f n (nx f n (nx f n i))) (nvF f n (nx f n (nx f n (nx f n i)))) (nvF f n (nx f n (nx f n (nx f n (nx f n i))))) (-1) 0 p.hc).1 6 (p.ct 0) from pk_us.symm))))
                  | 7, _, _ => exact (hK3 (pl + 10) (by omega)).trans (d10.trans ((congrArg (fun r9 => upd r9 _ _) (oK (pl + 10) (by omega) (by omega) (by omega) (by omega))).trans (congrArg (upd _ _) (show _ = (addW p (nvF f n (nx f n i)) (nvF f n (nx f n (nx f n i))) (nvF f n (nx f n (nx f n (nx f n i)))) (nvF f n (nx f n (nx f n (nx f n (nx f n i))))) (-1) 0 p.hc).1 7 (p.ct 0) from pk_us.symm))))
                  | 8, _, _ => exact (hK3 (pl + 11) (by omega)).trans (d11.trans ((congrArg (fun r9 => upd r9 _ _) (oK (pl + 11) (by omega) (by omega) (by omega) (by omega))).trans (congrArg (upd _ _) (show _ = (addW p (nvF f n (nx f n i)) (nvF f n (nx f n (nx f n i))) (nvF f n (nx f n (nx f n (nx f n i)))) (nvF f n (nx f n (nx f n (nx f n (nx f n i))))) (-1) 0 p.hc).1 8 (p.ct 0) from pk_us.symm))))
                  | 9, _, _ => exact (hK3 (pl + 12) (by omega)).trans (d12.trans ((congrArg (fun r9 => upd r9 _ _) (oK (pl + 12) (by omega) (by omega) (by omega) (by omega))).trans (congrArg (upd _ _) (show _ = (addW p (nvF f n (nx f n i)) (nvF f n (nx f n (nx f n i))) (nvF f n (nx f n (nx f n (nx f n i)))) (nvF f n (nx f n (nx f n (nx f n (nx f n i))))) (-1) 0 p.hc).1 9 (p.ct 0) from pk_us.symm))))
                  | 10, _, _ => exact absurd hk9 (by decide)
                  | 11, _, _ => exact absurd hk9 (by decide)
                  | 12, _, _ => exact absurd hk9 (by decide)
                  | 13, _, _ => exact absurd hk9 (by decide)
                have hrow2 : ∀ r, 1 ≤ r → r ≤ 13 → knD r ≠ 0 → N6.1 (pl + cOf r) = M.1 (pl + cOf r) := by
                  intro r r1 r2 hk9
                  match r, r1, r2 with
                  | 1, _, _ => exact absurd rfl hk9
                  | 2, _, _ => exact hOK (pl + 4) (by omega) (by omega) (by omega) (by omega) (by omega)
                  | 3, _, _ => exact hOK (pl + 5) (by omega) (by omega) (by omega) (by omega) (by omega)
                  | 4, _, _ => exact hOK (pl + 6) (by omega) (by omega) (by omega) (by omega) (by omega)
                  | 5, _, _ => exact absurd rfl hk9
                  | 6, _, _ => exact absurd rfl hk9
                  | 7, _, _ => exact absurd rfl hk9
                  | 8, _, _ => exact absurd rfl hk9
                  | 9, _, _ => exact absurd rfl hk9
                  | 10, _, _ => exact hOK (pl + 14) (by omega) (by omega) (by omega) (by omega) (by omega)
                  | 11, _, _ => exact hOK (pl + 15) (by omega) (by omega) (by omega) (by omega) (by omega)
                  | 12, _, _ => exact hOK (pl + 16) (by omega) (by omega) (by omega) (by omega) (by omega)
                  | 13, _, _ => exact hOK (pl + 17) (by omega) (by omega) (by omega) (by omega) (by omega)
                have hD2 : ∀ r j, 1 ≤ r → r ≤ 13 → (knD r ≠ 0 ∨ j < p.ct 0) → (addW p (nvF f n (nx f n i)) (nvF f n (nx f n (nx f n i))) (nvF f n (nx f n (nx f n (nx f n i)))) (nvF f n (nx f n (nx f n (nx f n (nx f n i))))) (-1) 0 p.hc).1 r j = p.D r j := fun r j _ _ h9 => (set2_k (a := 9) rfl h9).trans ((set2_k (a := 8) rfl h9).trans ((set2_k (a := 7) rfl h9).trans ((set2_k (a := 6) rfl h9).trans ((set2_k (a := 5) rfl h9).trans ((set2_k (a := 1) rfl h9).trans (rfl))))))
                have hPN : CPl N6 pl (addW p (nvF f n (nx f n i)) (nvF f n (nx f n (nx f n i))) (nvF f n (nx f n (nx f n (nx f n i)))) (nvF f n (nx f n (nx f n (nx f n (nx f n i))))) (-1) 0 p.hc) := CPl.add (k := 0) hP (hOK pl (by omega) (by omega) (by omega) (by omega) (by omega)) rfl ((hK3 (pl + 1) (by omega)).trans ((dO _ (by omega)).trans cKa)) ((congrFun (hK3 (pl + 7) (by omega)) 0).trans d7) ((congrFun (hOK (pl + 13) (by omega) (by omega) (by omega) (by omega) (by omega)) 0).trans hP.2.2.1.2) hrow hrow2 hD2 (fun a a1 a2 => hOK a (by omega) (by omega) (by omega) (by omega) (by omega))
                exact Rn.iret (ty := .boolean) dX6_readWalker_185 rfl rfl ⟨rfl, hFN6, Or.inl ⟨_, _, hres, rfl, hrN6, hp7, h24N6, hPN, by rw [h2N]; exact hb, by rw [h2N]; exact h6, by rw [h2N]; exact hft, hlt, hct.2.1, hct.2.2.1, hct.2.2.2.1, hct.2.2.2.2.1, hct.2.2.2.2.2⟩⟩
              · skip
                rw [q1]
                have hFN6 : pcF M N6 pl := hFN5.tr (pcF.o qr (fun a hb => g4 a (fun e => hb (Or.inl e))))
                have hXN6 : XW ly N6.2.2 := hFN6.xw hX
                have h24N6 : N6.2.2 2 4 = some pl := (hFN6.1 2 4 (by omega)).trans h24
                refine Rn.goto dX6_readWalker_176 ?_
                exact absurd h12 z4
          · skip
            refine Rn.aload_n dX6_readWalker_71 rfl ?_
            refine Rn.getR dX6_readWalker_72 fX6_20 rfl (xc2 hXN4) (show N4.2.2 2 2 = some 3 from (xp2_2 hXN4)) ?_
            refine Rn.callV0 dX6_readWalker_75 vX6_115 (xc3 hXN4) (by decide) rfl (advC (M := N4) hrN4 hXN4) (by decide) ⟨(Nat.le_of_ble_eq_true rfl), (Nat.le_of_ble_eq_true rfl), (Nat.le_of_ble_eq_true rfl)⟩ (fun h => by cases h) (fun v1 ly1 N5 ⟨q1, q2, f5, hrN5⟩ => ?_)
            rw [q1, q2]
            have hFN5 : pcF M N5 pl := hFN4.tr (pcF.o f5.1 (fun a hb => f5.2.1 a (fun e => hb (Or.inr (Or.inl e)))))
            have hXN5 : XW ly N5.2.2 := hFN5.xw hX
            have h24N5 : N5.2.2 2 4 = some pl := (hFN5.1 2 4 (by omega)).trans h24
            refine Rn.aload_n dX6_readWalker_78 rfl ?_
            refine Rn.iconstv (v := 1) dX6_readWalker_79 ic_1 ?_
            refine Rn.putZ dX6_readWalker_80 fX6_48 rfl rfl rfl (by decide) (xc2 hXN5) ?_
            obtain ⟨N6, e9⟩ : ∃ N9, N9 = sI N5 2 (upd (N5.1 2) 6 1) := ⟨_, rfl⟩
            rw [← e9]
            have s6 : N6.1 2 6 = 1 ∧ N6.1 2 5 = N5.1 2 5 ∧ N6.1 2 0 = N5.1 2 0 ∧ N6.1 2 1 = N5.1 2 1 ∧ N6.2.2 = N5.2.2 := by rw [e9]; exact ⟨rfl, rfl, rfl, rfl, rfl⟩
            have s2 : ∀ a, a ≠ 2 → N6.1 a = N5.1 a := fun a ha => by rw [e9]; exact sI_ne ha
            clear e9
            have hFN6 : pcF M N6 pl := hFN5.tr (pcF.o s6.2.2.2.2 (fun a hb => s2 a (fun e => hb (Or.inl e))))
            have hXN6 : XW ly N6.2.2 := hFN6.xw hX
            have h24N6 : N6.2.2 2 4 = some pl := (hFN6.1 2 4 (by omega)).trans h24
            have hrN6 : CRd N6 f n (nx f n (nx f n (nx f n (nx f n (nx f n (nx f n i)))))) := hrN5.of (s2 1 (by decide)) (s2 3 (by decide)) (s2 4 (by decide))
            have oN6 : ∀ a, a ≠ 2 → a ≠ 3 → a ≠ pl + 1 → a ≠ pl + 3 → N6.1 a = M.1 a := fun a a0 a1 a2 a3 => (s2 a a0).trans ((f5.2.1 a a1).trans (o4 a a1 a2 a3))
            have hpl0 : N6.1 pl 0 = p.D 0 0 := by rw [oN6 pl (by omega) (by omega) (by omega) (by omega)]; exact hP.1.1
            refine Rn.aload_n dX6_readWalker_83 rfl ?_
            refine Rn.iconstv (v := 0) dX6_readWalker_84 ic_0 ?_
            refine Rn.aload_n dX6_readWalker_85 rfl ?_
            refine Rn.getR dX6_readWalker_86 fX6_33 rfl (xc2 hXN6) (show N6.2.2 2 4 = some pl from h24N6) ?_
            refine Rn.getI dX6_readWalker_89 fX6_99 rfl (pc0 hXN6 hp7) ?_
            refine Rn.topI (y := p.D 0 0) (hpl0) ?_
            refine Rn.iconstv (v := 1) dX6_readWalker_92 ic_1 ?_
            refine Rn.isub dX6_readWalker_93 ?_
            refine Rn.callV2 dX6_readWalker_94 vX6_95 (xc2 hXN6) (by decide) rfl (tkNum (M := N6) (i := nx f n (nx f n (nx f n (nx f n (nx f n (nx f n i)))))) hrN6 (by decide) (hi_c hct.2.2.2.2.2) hXN6) (by decide) ⟨(Nat.le_of_ble_eq_true rfl), (Nat.le_of_ble_eq_true rfl), (Nat.le_of_ble_eq_true rfl)⟩ (fun h => by cases h) (fun v1 ly1 N7 ⟨q2, qr, hh⟩ => ?_)
            rw [q2]
            rcases hh with ⟨z4, q1, y4, x4_, g4, hrN7⟩ | ⟨z4, q1, g4, hfa⟩
            · skip
              rw [q1]
              have hFN7 : pcF M N7 pl := hFN6.tr (pcF.o qr (fun a hb => g4 a (fun e => hb (Or.inr (Or.inl e)))))
              have hXN7 : XW ly N7.2.2 := hFN7.xw hX
              have h24N7 : N7.2.2 2 4 = some pl := (hFN7.1 2 4 (by omega)).trans h24
              have c6a : N7.1 (pl + 1) = upd (M.1 (pl + 1)) 0 (nI (p.ct 0 + 1)) := (g4 _ (by omega)).trans ((s2 _ (by omega)).trans ((f5.2.1 _ (by omega)).trans c4a))
              have c6b : N7.1 (pl + 3) = upd (M.1 (pl + 3)) (p.ct 0) (nvF f n (nx f n i)) := (g4 _ (by omega)).trans ((s2 _ (by omega)).trans ((f5.2.1 _ (by omega)).trans c4b))
              have oN7 : ∀ a, a ≠ 2 → a ≠ 3 → a ≠ pl + 1 → a ≠ pl + 3 → N7.1 a = M.1 a := fun a a0 a1 a2 a3 => (g4 a a1).trans (oN6 a a0 a1 a2 a3)
              refine Rn.istore (lv' := [some (.ref 2), some (.int (nvF f n (nx f n (nx f n i)))), some (.int (nvF f n (nx f n (nx f n (nx f n i))))), some (.int (nvF f n (nx f n (nx f n (nx f n (nx f n i)))))), some (.int (nvF f n (nx f n (nx f n (nx f n (nx f n (nx f n (nx f n i))))))))]) dX6_readWalker_97 (by decide) rfl ?_
              refine Rn.aload_n dX6_readWalker_99 rfl ?_
              refine Rn.getR dX6_readWalker_100 fX6_33 rfl (xc2 hXN7) (show N7.2.2 2 4 = some pl from h24N7) ?_
              refine Rn.getR dX6_readWalker_103 fX6_118 rfl (pc0 hXN7 hp7) (show N7.2.2 pl 11 = some (pl + 7) from (pp0_11 hXN7 hp7)) ?_
              refine Rn.iload_n dX6_readWalker_106 rfl ?_
              refine Rn.iload_n dX6_readWalker_107 rfl ?_
              refine Rn.iload_n dX6_readWalker_108 rfl ?_
              refine Rn.iconstv (v := 0) dX6_readWalker_109 ic_0 ?_
              refine Rn.iload dX6_readWalker_110 rfl ?_
              have c7 : N7.1 (pl + 7) 0 = nI (p.ct 0) := by rw [oN7 (pl + 7) (by omega) (by omega) (by omega) (by omega)]; exact hP.2.2.1.1
              have hcr : iCrowd ly N7 (pl + 7) := ⟨pc7 hXN7 hp7, pc8 hXN7 hp7, pc9 hXN7 hp7, pc10 hXN7 hp7, pc11 hXN7 hp7, pc12 hXN7 hp7, pp7_1 hXN7 hp7, pp7_2 hXN7 hp7, pp7_3 hXN7 hp7, pp7_4 hXN7 hp7, pp7_5 hXN7 hp7⟩
              refine Rn.callV5 dX6_readWalker_112 vX6_122 (pc7 hXN7 hp7) (by decide) rfl (tX0_add (M := N7) (a := pl + 7) (k := p.ct 0) hcr c7 (by omega)) (by decide) ⟨(Nat.le_of_ble_eq_true rfl), (Nat.le_of_ble_eq_true rfl), (Nat.le_of_ble_eq_true rfl)⟩ (fun h => by cases h) (fun v1 ly1 N8 ⟨q1, q2, q3⟩ => ?_)
              rw [q1, q2]
              have d0 : N8.2.2 = N7.2.2 := by rw [q3]; rfl
              have d8 : N8.1 (pl + 8) = upd (N7.1 (pl + 8)) (p.ct 0) (nvF f n (nx f n (nx f n i))) := by rw [q3, sI_ne (show pl + 8 ≠ pl + 7 by omega), sI_ne (show pl + 8 ≠ pl + 7 + 5 by omega), sI_ne (show pl + 8 ≠ pl + 7 + 4 by omega), sI_ne (show pl + 8 ≠ pl + 7 + 3 by omega), sI_ne (show pl + 8 ≠ pl + 7 + 2 by omega)]; exact sI_at _ _ _
              have d9 : N8.1 (pl + 9) = upd (N7.1 (pl + 9)) (p.ct 0) (nvF f n (nx f n (nx f n (nx f n i)))) := by rw [q3, sI_ne (show pl + 9 ≠ pl + 7 by omega), sI_ne (show pl + 9 ≠ pl + 7 + 5 by omega), sI_ne (show pl + 9 ≠ pl + 7 + 4 by omega), sI_ne (show pl + 9 ≠ pl + 7 + 3 by omega)]; exact sI_at _ _ _
              have d10 : N8.1 (pl + 10) = upd (N7.1 (pl + 10)) (p.ct 0) (nvF f n (nx f n (nx f n (nx f n (nx f n i))))) := by rw [q3, sI_ne (show pl + 10 ≠ pl + 7 by omega), sI_ne (show pl + 10 ≠ pl + 7 + 5 by omega), sI_ne (show pl + 10 ≠ pl + 7 + 4 by omega)]; exact sI_at _ _ _
              have d11 : N8.1 (pl + 11) = upd (N7.1 (pl + 11)) (p.ct 0) 0 := by rw [q3, sI_ne (show pl + 11 ≠ pl + 7 by omega), sI_ne (show pl + 11 ≠ pl + 7 + 5 by omega)]; exact sI_at _ _ _
              have d12 : N8.1 (pl + 12) = upd (N7.1 (pl + 12)) (p.ct 0) (nvF f n (nx f n (nx f n (nx f n (nx f n (nx f n (nx f n i))))))) := by rw [q3, sI_ne (show pl + 12 ≠ pl + 7 by omega)]; exact sI_at _ _ _
              have d7 : N8.1 (pl + 7) 0 = nI (p.ct 0 + 1) := by rw [q3]; exact (congrFun (sI_at _ _ _) 0).trans pk_us
              have dO : ∀ a, ¬ (pl + 7 ≤ a ∧ a ≤ pl + 12) → N8.1 a = N7.1 a := fun a ha => by rw [q3, sI_ne (show a ≠ pl + 7 by omega), sI_ne (show a ≠ pl + 7 + 5 by omega), sI_ne (show a ≠ pl + 7 + 4 by omega), sI_ne (show a ≠ pl + 7 + 3 by omega), sI_ne (show a ≠ pl + 7 + 2 by omega), sI_ne (show a ≠ pl + 7 + 1 by omega)]
              clear q3
              have hFN8 : pcF M N8 pl := hFN7.tr (pcF.o d0 (fun a hb => dO a (by omega)))
              have hXN8 : XW ly N8.2.2 := hFN8.xw hX
              have h24N8 : N8.2.2 2 4 = some pl := (hFN8.1 2 4 (by omega)).trans h24
              refine Rn.iload dX6_readWalker_115 rfl ?_
              refine Rn.iconstv (v := -1) dX6_readWalker_117 ic_m1 ?_
              refine Rn.icmp_eq dX6_readWalker_118 (fun h9 => absurd h9 y4) (fun h9 => ?_)
              refine Rn.iconstv (v := 1) dX6_readWalker_121 ic_1 ?_
              refine Rn.goto dX6_readWalker_122 ?_
              have hK3 : ∀ a, a ≠ 3 → N8.1 a = N8.1 a := fun _ _ => rfl
              have oK := oN7
              have cKa := c6a
              have hN3 : N8.1 (pl + 3) = upd (M.1 (pl + 3)) (p.ct 0) (nvF f n (nx f n i)) := (dO _ (by omega)).trans c6b
              have h2N : N8.1 2 = N6.1 2 := (dO 2 (by omega)).trans (g4 2 (by decide))
              have hOK : ∀ a, a ≠ 2 → a ≠ 3 → a ≠ pl + 1 → a ≠ pl + 3 → ¬ (pl + 7 ≤ a ∧ a ≤ pl + 12) → N8.1 a = M.1 a := fun a a1 a2 a3 a4 a5 => (hK3 a a2).trans ((dO a a5).trans (oK a a1 a2 a3 a4))
              have hres : lnW (kdF f n) (nvF f n) (nx f n) p i = .inl (addW p (nvF f n (nx f n i)) (nvF f n (nx f n (nx f n i))) (nvF f n (nx f n (nx f n (nx f n i)))) (nvF f n (nx f n (nx f n (nx f n (nx f n i))))) 0 (nvF f n (nx f n (nx f n (nx f n (nx f n (nx f n (nx f n i))))))) true, nx f n (nx f n (nx f n (nx f n (nx f n (nx f n (nx f n i))))))) := (if_neg hne).trans ((qK_0 za).trans ((qK_0 z1).trans ((qK_0 z2).trans ((qK_0 z3).trans ((if_pos h13).trans (qK_0 z4))))))
              have hrow : ∀ r, 1 ≤ r → r ≤ 13 → knD r = 0 → N8.1 (pl + cOf r) = upd (M.1 (pl + cOf r)) (p.ct 0) ((addW p (nvF f n (nx f n i)) (nvF f n (nx f n (nx f n i))) (nvF f n (nx f n (nx f n (nx f n i)))) (nvF f n (nx f n (nx f n (nx f n (nx f n i))))) 0 (nvF f n (nx f n (nx f n (nx f n (nx f n (nx f n (nx f n i))))))) true).1 r (p.ct 0)) := by
                intro r r1 r2 hk9
                match r, r1, r2 with
                | 1, _, _ => exact (hK3 (pl + 3) (by omega)).trans (hN3.trans (congrArg (upd _ _) (show nvF f n (nx f n i) = (addW p (nvF f n (nx f n i)) (nvF f n (nx f n (nx f n i))) (nvF f n (nx f n (nx f n (nx f n i)))) (nvF f n (nx f n (nx f n (nx f n (nx f n i))))) 0 (nvF f n (nx f n (nx f n (nx f n (nx f n (nx f n (nx f n i))))))) true).1 1 (p.ct 0) from pk_us.symm)))
                | 2, _, _ => exact absurd hk9 (by decide)
                | 3, _, _ => exact absurd hk9 (by decide)
                | 4, _, _ => exact absurd hk9 (by decide)
                | 5, _, _ => exact (hK3 (pl + 8) (by omega)).trans (d8.trans ((congrArg (fun r9 => upd r9 _ _) (oK (pl + 8) (by omega) (by omega) (by omega) (by omega))).trans (congrArg (upd _ _) (show _ = (addW p (nvF f n (nx f n i)) (nvF f n (nx f n (nx f n i))) (nvF f n (nx f n (nx f n (nx f n i)))) (nvF f n (nx f n (nx f n (nx f n (nx f n i))))) 0 (nvF f n (nx f n (nx f n (nx f n (nx f n (nx f n (nx f n i))))))) true).1 5 (p.ct 0) from pk_us.symm))))
                | 6, _, _ => exact (hK3 (pl + 9) (by omega)).trans (d9.trans ((congrArg (fun r9 => upd r9 _ _) (oK (pl + 9) (by omega) (by omega) (by omega) (by omega))).trans (congrArg (upd _ _) (show _ = (addW p (nvF f n (nx f n i)) (nvF f n (nx f n (nx f n i))) (nvF f n (nx f n (nx f n (nx f n i)))) (nvF f n (nx f n (nx f n (nx f n (nx f n i))))) 0 (nvF f n (nx f n (nx f n (nx f n (nx f n (nx f n (nx f n i))))))) true).1 6 (p.ct 0) from pk_us.symm))))
                | 7, _, _ => exact (hK3 (pl + 10) (by omega)).trans (d10.trans ((congrArg (fun r9 => upd r9 _ _) (oK (pl + 10) (by omega) (by omega) (by omega) (by omega))).trans (congrArg (upd _ _) (show _ = (addW p (nvF f n (nx f n i)) (nvF f n (nx f n (nx f n i))) (nvF f n (nx f n (nx f n (nx f n i)))) (nvF f n (nx f n (nx f n (nx f n (nx f n i))))) 0 (nvF f n (nx f n (nx f n (nx f n (nx f n (nx f n (nx f n i))))))) true).1 7 (p.ct 0) from pk_us.symm))))
                | 8, _, _ => exact (hK3 (pl + 11) (by omega)).trans (d11.trans ((congrArg (fun r9 => upd r9 _ _) (oK (pl + 11) (by omega) (by omega) (by omega) (by omega))).trans (congrArg (upd _ _) (show _ = (addW p (nvF f n (nx f n i)) (nvF f n (nx f n (nx f n i))) (nvF f n (nx f n (nx f n (nx f n i)))) (nvF f n (nx f n (nx f n (nx f n (nx f n i))))) 0 (nvF f n (nx f n (nx f n (nx f n (nx f n (nx f n (nx f n i))))))) true).1 8 (p.ct 0) from pk_us.symm))))
                | 9, _, _ => exact (hK3 (pl + 12) (by omega)).trans (d12.trans ((congrArg (fun r9 => upd r9 _ _) (oK (pl + 12) (by omega) (by omega) (by omega) (by omega))).trans (congrArg (upd _ _) (show _ = (addW p (nvF f n (nx f n i)) (nvF f n (nx f n (nx f n i))) (nvF f n (nx f n (nx f n (nx f n i)))) (nvF f n (nx f n (nx f n (nx f n (nx f n i))))) 0 (nvF f n (nx f n (nx f n (nx f n (nx f n (nx f n (nx f n i))))))) true).1 9 (p.ct 0) from pk_us.symm))))
                | 10, _, _ => exact absurd hk9 (by decide)
                | 11, _, _ => exact absurd hk9 (by decide)
                | 12, _, _ => exact absurd hk9 (by decide)
                | 13, _, _ => exact absurd hk9 (by decide)
              have hrow2 : ∀ r, 1 ≤ r → r ≤ 13 → knD r ≠ 0 → N8.1 (pl + cOf r) = M.1 (pl + cOf r) := by
                intro r r1 r2 hk9
                match r, r1, r2 with
                | 1, _, _ => exact absurd rfl hk9
                | 2, _, _ => exact hOK (pl + 4) (by omega) (by omega) (by omega) (by omega) (by omega)
                | 3, _, _ => exact hOK (pl + 5) (by omega) (by omega) (by omega) (by omega) (by omega)
                | 4, _, _ => exact hOK (pl + 6) (by omega) (by omega) (by omega) (by omega) (by omega)
                | 5, _, _ => exact absurd rfl hk9
                | 6, _, _ => exact absurd rfl hk9
                | 7, _, _ => exact absurd rfl hk9
                | 8, _, _ => exact absurd rfl hk9
                | 9, _, _ => exact absurd rfl hk9
                | 10, _, _ => exact hOK (pl + 14) (by omega) (by omega) (by omega) (by omega) (by omega)
                | 11, _, _ => exact hOK (pl + 15) (by omega) (by omega) (by omega) (by omega) (by omega)
                | 12, _, _ => exact hOK (pl + 16) (by omega) (by omega) (by omega) (by omega) (by omega)
                | 13, _, _ => exact hOK (pl + 17) (by omega) (by omega) (by omega) (by omega) (by omega)
              have hD2 : ∀ r j, 1 ≤ r → r ≤ 13 → (knD r ≠ 0 ∨ j < p.ct 0) → (addW p (nvF f n (nx f n i)) (nvF f n (nx f n (nx f n i))) (nvF f n (nx f n (nx f n (nx f n i)))) (nvF f n (nx f n (nx f n (nx f n (nx f n i))))) 0 (nvF f n (nx f n (nx f n (nx f n (nx f n (nx f n (nx f n i))))))) true).1 r j = p.D r j := fun r j _ _ h9 => (set2_k (a := 9) rfl h9).trans ((set2_k (a := 8) rfl h9).trans ((set2_k (a := 7) rfl h9).trans ((set2_k (a := 6) rfl h9).trans ((set2_k (a := 5) rfl h9).trans ((set2_k (a := 1) rfl h9).trans (rfl))))))
              have hPN : CPl N8 pl (addW p (nvF f n (nx f n i)) (nvF f n (nx f n (nx f n i))) (nvF f n (nx f n (nx f n (nx f n i)))) (nvF f n (nx f n (nx f n (nx f n (nx f n i))))) 0 (nvF f n (nx f n (nx f n (nx f n (nx f n (nx f n (nx f n i))))))) true) := CPl.add (k := 0) hP (hOK pl (by omega) (by omega) (by omega) (by omega) (by omega)) rfl ((hK3 (pl + 1) (by omega)).trans ((dO _ (by omega)).trans cKa)) ((congrFun (hK3 (pl + 7) (by omega)) 0).trans d7) ((congrFun (hOK (pl + 13) (by omega) (by omega) (by omega) (by omega) (by omega)) 0).trans hP.2.2.1.2) hrow hrow2 hD2 (fun a a1 a2 => hOK a (by omega) (by omega) (by omega) (by omega) (by omega))
              exact Rn.iret (ty := .boolean) dX6_readWalker_126 rfl rfl ⟨rfl, hFN8, Or.inl ⟨_, _, hres, rfl, hrN7.of (dO 1 (by omega)) (dO 3 (by omega)) (dO 4 (by omega)), hp7, h24N8, hPN, by rw [h2N, s6.2.1, f5.2.1 2 (by decide), b2]; exact hb, by rw [h2N]; exact s6.1, ⟨by rw [h2N, s6.2.2.1, f5.2.1 2 (by decide), b2]; exact hft.1, by rw [h2N, s6.2.2.2.1, f5.2.1 2 (by decide), b2]; exact hft.2⟩, hlt, hct.2.1, hct.2.2.1, hct.2.2.2.1, hct.2.2.2.2.1, hct.2.2.2.2.2⟩⟩
            · skip
              rw [q1]
              have hFN7 : pcF M N7 pl := hFN6.tr (pcF.o qr (fun a hb => g4 a (fun e => hb (Or.inl e))))
              have hXN7 : XW ly N7.2.2 := hFN7.xw hX
              have h24N7 : N7.2.2 2 4 = some pl := (hFN7.1 2 4 (by omega)).trans h24
              have oN7 : ∀ a, a ≠ 2 → a ≠ 3 → a ≠ pl + 1 → a ≠ pl + 3 → N7.1 a = M.1 a := fun a a0 a1 a2 a3 => (g4 a a0).trans (oN6 a a0 a1 a2 a3)
              refine Rn.istore (lv' := [some (.ref 2), some (.int (nvF f n (nx f n (nx f n i)))), some (.int (nvF f n (nx f n (nx f n (nx f n i))))), some (.int (nvF f n (nx f n (nx f n (nx f n (nx f n i)))))), some (.int (-1))]) dX6_readWalker_97 (by decide) rfl ?_
              refine Rn.aload_n dX6_readWalker_99 rfl ?_
              refine Rn.getR dX6_readWalker_100 fX6_33 rfl (xc2 hXN7) (show N7.2.2 2 4 = some pl from h24N7) ?_
              refine Rn.getR dX6_readWalker_103 fX6_118 rfl (pc0 hXN7 hp7) (show N7.2.2 pl 11 = some (pl + 7) from (pp0_11 hXN7 hp7)) ?_
              refine Rn.iload_n dX6_readWalker_106 rfl ?_
              refine Rn.iload_n dX6_readWalker_107 rfl ?_
              refine Rn.iload_n dX6_readWalker_108 rfl ?_
              refine Rn.iconstv (v := 0) dX6_readWalker_109 ic_0 ?_
              refine Rn.iload dX6_readWalker_110 rfl ?_
              have c7 : N7.1 (pl + 7) 0 = nI (p.ct 0) := by rw [oN7 (pl + 7) (by omega) (by omega) (by omega) (by omega)]; exact hP.2.2.1.1
              have hcr : iCrowd ly N7 (pl + 7) := ⟨pc7 hXN7 hp7, pc8 hXN7 hp7, pc9 hXN7 hp7, pc10 hXN7 hp7, pc11 hXN7 hp7, pc12 hXN7 hp7, pp7_1 hXN7 hp7, pp7_2 hXN7 hp7, pp7_3 hXN7 hp7, pp7_4 hXN7 hp7, pp7_5 hXN7 hp7⟩
              refine Rn.callV5 dX6_readWalker_112 vX6_122 (pc7 hXN7 hp7) (by decide) rfl (tX0_add (M := N7) (a := pl + 7) (k := p.ct 0) hcr c7 (by omega)) (by decide) ⟨(Nat.le_of_ble_eq_true rfl), (Nat.le_of_ble_eq_true rfl), (Nat.le_of_ble_eq_true rfl)⟩ (fun h => by cases h) (fun v1 ly1 N8 ⟨q1, q2, q3⟩ => ?_)
              rw [q1, q2]
              have d0 : N8.2.2 = N7.2.2 := by rw [q3]; rfl
              have d8 : N8.1 (pl + 8) = upd (N7.1 (pl + 8)) (p.ct 0) (nvF f n (nx f n (nx f n i))) := by rw [q3, sI_ne (show pl + 8 ≠ pl + 7 by omega), sI_ne (show pl + 8 ≠ pl + 7 + 5 by omega), sI_ne (show pl + 8 ≠ pl + 7 + 4 by omega), sI_ne (show pl + 8 ≠ pl + 7 + 3 by omega), sI_ne (show pl + 8 ≠ pl + 7 + 2 by omega)]; exact sI_at _ _ _
              have d9 : N8.1 (pl + 9) = upd (N7.1 (pl + 9)) (p.ct 0) (nvF f n (nx f n (nx f n (nx f n i)))) := by rw [q3, sI_ne (show pl + 9 ≠ pl + 7 by omega), sI_ne (show pl + 9 ≠ pl + 7 + 5 by omega), sI_ne (show pl + 9 ≠ pl + 7 + 4 by omega), sI_ne (show pl + 9 ≠ pl + 7 + 3 by omega)]; exact sI_at _ _ _
              have d10 : N8.1 (pl + 10) = upd (N7.1 (pl + 10)) (p.ct 0) (nvF f n (nx f n (nx f n (nx f n (nx f n i))))) := by rw [q3, sI_ne (show pl + 10 ≠ pl + 7 by omega), sI_ne (show pl + 10 ≠ pl + 7 + 5 by omega), sI_ne (show pl + 10 ≠ pl + 7 + 4 by omega)]; exact sI_at _ _ _
              have d11 : N8.1 (pl + 11) = upd (N7.1 (pl + 11)) (p.ct 0) 0 := by rw [q3, sI_ne (show pl + 11 ≠ pl + 7 by omega), sI_ne (show pl + 11 ≠ pl + 7 + 5 by omega)]; exact sI_at _ _ _
              have d12 : N8.1 (pl + 12) = upd (N7.1 (pl + 12)) (p.ct 0) (-1) := by rw [q3, sI_ne (show pl + 12 ≠ pl + 7 by omega)]; exact sI_at _ _ _
              have d7 : N8.1 (pl + 7) 0 = nI (p.ct 0 + 1) := by rw [q3]; exact (congrFun (sI_at _ _ _) 0).trans pk_us
              have dO : ∀ a, ¬ (pl + 7 ≤ a ∧ a ≤ pl + 12) → N8.1 a = N7.1 a := fun a ha => by rw [q3, sI_ne (show a ≠ pl + 7 by omega), sI_ne (show a ≠ pl + 7 + 5 by omega), sI_ne (show a ≠ pl + 7 + 4 by omega), sI_ne (show a ≠ pl + 7 + 3 by omega), sI_ne (show a ≠ pl + 7 + 2 by omega), sI_ne (show a ≠ pl + 7 + 1 by omega)]
              clear q3
              have hFN8 : pcF M N8 pl := hFN7.tr (pcF.o d0 (fun a hb => dO a (by omega)))
              have hXN8 : XW ly N8.2.2 := hFN8.xw hX
              have h24N8 : N8.2.2 2 4 = some pl := (hFN8.1 2 4 (by omega)).trans h24
              have hfa8 : faC f n N8 (nmQ (kdF f n) (nvF f n) 0 (p.D 0 0 - 1) (nx f n (nx f n (nx f n (nx f n (nx f n (nx f n i))))))) (nx f n (nx f n (nx f n (nx f n (nx f n (nx f n i)))))) := by unfold faC; rw [dO 2 (by omega)]; exact hfa
              refine Rn.iload dX6_readWalker_115 rfl ?_
              refine Rn.iconstv (v := -1) dX6_readWalker_117 ic_m1 ?_
              refine Rn.icmp_eq dX6_readWalker_118 (fun h9 => ?_) (fun h9 => (by first | exact absurd h9 (by decide) | exact absurd (by decide) h9))
              refine Rn.iconstv (v := 0) dX6_readWalker_125 ic_0 ?_
              exact Rn.iret (ty := .boolean) dX6_readWalker_126 rfl rfl ⟨rfl, hFN8, Or.inr ⟨_, _, (if_neg hne).trans ((qK_0 za).trans ((qK_0 z1).trans ((qK_0 z2).trans ((qK_0 z3).trans ((if_pos h13).trans (qK_n z4)))))), rfl, hfa8⟩⟩
        · skip
          rw [q1]
          have hFN4 : pcF M N4 pl := hFN3.tr (pcF.o qr (fun a hb => g3 a (fun e => hb (Or.inl e))))
          have hXN4 : XW ly N4.2.2 := hFN4.xw hX
          have h24N4 : N4.2.2 2 4 = some pl := (hFN4.1 2 4 (by omega)).trans h24
          refine Rn.istore_n (lv' := [some (.ref 2), some (.int (nvF f n (nx f n (nx f n i)))), some (.int (nvF f n (nx f n (nx f n (nx f n i))))), some (.int (-1)), none]) dX6_readWalker_51 (by decide) rfl ?_
          refine Rn.iload_n dX6_readWalker_52 rfl ?_
          refine Rn.iconstv (v := -1) dX6_readWalker_53 ic_m1 ?_
          refine Rn.icmp_ne dX6_readWalker_54 (fun h9 => (by first | exact absurd h9 (by decide) | exact absurd (by decide) h9)) (fun h9 => ?_)
          refine Rn.iconstv (v := 0) dX6_readWalker_57 ic_0 ?_
          exact Rn.iret (ty := .boolean) dX6_readWalker_58 rfl rfl ⟨rfl, hFN4, Or.inr ⟨_, _, (if_neg hne).trans ((qK_0 za).trans ((qK_0 z1).trans ((qK_0 z2).trans (qK_n z3)))), rfl, hfa⟩⟩
      · skip
        rw [q1]
        have hFN3 : pcF M N3 pl := hFN2.tr (pcF.o qr (fun a hb => g2 a (fun e => hb (Or.inl e))))
        have hXN3 : XW ly N3.2.2 := hFN3.xw hX
        have h24N3 : N3.2.2 2 4 = some pl := (hFN3.1 2 4 (by omega)).trans h24
        refine Rn.istore_n (lv' := [some (.ref 2), some (.int (nvF f n (nx f n (nx f n i)))), some (.int (-1)), none, none]) dX6_readWalker_34 (by decide) rfl ?_
        refine Rn.iload_n dX6_readWalker_35 rfl ?_
        refine Rn.iconstv (v := -1) dX6_readWalker_36 ic_m1 ?_
        refine Rn.icmp_ne dX6_readWalker_37 (fun h9 => (by first | exact absurd h9 (by decide) | exact absurd (by decide) h9)) (fun h9 => ?_)
        refine Rn.iconstv (v := -1) dX6_readWalker_40 ic_m1 ?_
        refine Rn.goto dX6_readWalker_41 ?_
        refine Rn.istore_n (lv' := [some (.ref 2), some (.int (nvF f n (nx f n (nx f n i)))), some (.int (-1)), some (.int (-1)), none]) dX6_readWalker_51 (by decide) rfl ?_
        refine Rn.iload_n dX6_readWalker_52 rfl ?_
        refine Rn.iconstv (v := -1) dX6_readWalker_53 ic_m1 ?_
        refine Rn.icmp_ne dX6_readWalker_54 (fun h9 => (by first | exact absurd h9 (by decide) | exact absurd (by decide) h9)) (fun h9 => ?_)
        refine Rn.iconstv (v := 0) dX6_readWalker_57 ic_0 ?_
        exact Rn.iret (ty := .boolean) dX6_readWalker_58 rfl rfl ⟨rfl, hFN3, Or.inr ⟨_, _, (if_neg hne).trans ((qK_0 za).trans ((qK_0 z1).trans (qK_n z2))), rfl, hfa⟩⟩
    · skip
      rw [q1]
      have hFN2 : pcF M N2 pl := hFN1.tr (pcF.o qr (fun a hb => g1 a (fun e => hb (Or.inl e))))
      have hXN2 : XW ly N2.2.2 := hFN2.xw hX
      have h24N2 : N2.2.2 2 4 = some pl := (hFN2.1 2 4 (by omega)).trans h24
      refine Rn.istore_n (lv' := [some (.ref 2), some (.int (-1)), none, none, none]) dX6_readWalker_17 (by decide) rfl ?_
      refine Rn.iload_n dX6_readWalker_18 rfl ?_
      refine Rn.iconstv (v := -1) dX6_readWalker_19 ic_m1 ?_
      refine Rn.icmp_ne dX6_readWalker_20 (fun h9 => (by first | exact absurd h9 (by decide) | exact absurd (by decide) h9)) (fun h9 => ?_)
      refine Rn.iconstv (v := -1) dX6_readWalker_23 ic_m1 ?_
      refine Rn.goto dX6_readWalker_24 ?_
      refine Rn.istore_n (lv' := [some (.ref 2), some (.int (-1)), some (.int (-1)), none, none]) dX6_readWalker_34 (by decide) rfl ?_
      refine Rn.iload_n dX6_readWalker_35 rfl ?_
      refine Rn.iconstv (v := -1) dX6_readWalker_36 ic_m1 ?_
      refine Rn.icmp_ne dX6_readWalker_37 (fun h9 => (by first | exact absurd h9 (by decide) | exact absurd (by decide) h9)) (fun h9 => ?_)
      refine Rn.iconstv (v := -1) dX6_readWalker_40 ic_m1 ?_
      refine Rn.goto dX6_readWalker_41 ?_
      refine Rn.istore_n (lv' := [some (.ref 2), some (.int (-1)), some (.int (-1)), some (.int (-1)), none]) dX6_readWalker_51 (by decide) rfl ?_
      refine Rn.iload_n dX6_readWalker_52 rfl ?_
      refine Rn.iconstv (v := -1) dX6_readWalker_53 ic_m1 ?_
      refine Rn.icmp_ne dX6_readWalker_54 (fun h9 => (by first | exact absurd h9 (by decide) | exact absurd (by decide) h9)) (fun h9 => ?_)
      refine Rn.iconstv (v := 0) dX6_readWalker_57 ic_0 ?_
      exact Rn.iret (ty := .boolean) dX6_readWalker_58 rfl rfl ⟨rfl, hFN2, Or.inr ⟨_, _, (if_neg hne).trans ((qK_0 za).trans (qK_n z1)), rfl, hfa⟩⟩
