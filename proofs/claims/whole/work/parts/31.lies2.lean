/-- the j-th of the best spots -/
def bs3 (o : Option (Nat × Nat × Nat)) (j : Nat) : Int32 := match o with
  | none => 0
  | some b => nI (gt3 b j)
theorem bst_at {o : Option (Nat × Nat × Nat)} {f : Nat → Int32} {j : Nat} (h : bst o f) (ho : o ≠ none) (hj : j < 3) : f j = bs3 o j := by
  cases o with
  | none => exact absurd rfl ho
  | some b => exact h j hj
theorem lhF_some {H : Nat × Nat × Nat → Int32} : ∀ (r : List (Nat × Nat × Nat)) (p : Int32 × Option (Nat × Nat × Nat)), p.2 ≠ none → (lhF H r p).2 ≠ none
  | [], _, h => h
  | a :: r, p, h => by
    rw [lhF]
    apply lhF_some r
    split
    · exact fun h => by cases h
    · exact h
theorem lhF_one {H : Nat × Nat × Nat → Int32} {a : Nat × Nat × Nat} {r : List (Nat × Nat × Nat)} {p : Int32 × Option (Nat × Nat × Nat)} (h : H a < p.1) : (lhF H (a :: r) p).2 ≠ none := by
  rw [lhF, if_pos h]
  exact lhF_some r _ (fun h => by cases h)
theorem lsS_cons {n k f : Nat} {a : Nat × Nat × Nat} : ∃ r, lsS n k (f + 1) a = a :: r := ⟨_, rfl⟩
theorem x4 {k : Nat} (h : k ≤ 3) : k = 0 ∨ k = 1 ∨ k = 2 ∨ k = 3 := by omega
theorem nf_le {a b : Nat} (ha : a ≤ 8) (hb : b ≤ 3) : nI (a + b) ≤ 8 ↔ a + b ≤ 8 := nI_leI (b := 8) (by omega) (by decide)
theorem tX11_lies {G : Gx} {l : Launch} {ly : Ly} {M : Mm} {pl n nw nu nv nf : Nat} {x z y v : Int32} (hXS : XS ly M pl n nw nu nv) (hF : M.1 87 0 = nI nf ∧ nf ≤ 8 ∧ ∀ i, i < nf → vp_in (M.1 88 i) 12) {Q : Qt} (hQ : (¬ ((1 ≤ x ∧ x ≤ 32) ∧ (0 ≤ z ∧ z ≤ 3) ∧ (1 ≤ y ∧ y ≤ 99) ∧ (0 ≤ v ∧ v ≤ 3) ∧ nI nf + z ≤ 8) → Q (some (.int (-1))) ly M) ∧ (∀ N k j : Nat, 1 ≤ N → N ≤ 32 → x = nI N → k ≤ 3 → z = nI k → (1 ≤ y ∧ y ≤ 99) → j ≤ 3 → v = nI j → nf + k ≤ 8 → (k < j → Q (some (.int (-2))) ly M) ∧ (j ≤ k → ∀ M' : Mm, quX M M' → Q (some (.int (if j = 0 then (lhF (fun a => hgS (TG M.1 pl n nw (fun k => M.1 (pl + 7 + k)) (pl + 18) nu (pl + 21) nv (M.1 75 4) 0 1 (caK (M.1 pl 3) (M.1 90) (M.1 88) (M.1 89) nf y a k)) (vS M.1 75) n N) (lsS n k 1728 (0, 0, 0)) (100000 + 1, none)).1 else bs3 (lhF (fun a => hgS (TG M.1 pl n nw (fun k => M.1 (pl + 7 + k)) (pl + 18) nu (pl + 21) nv (M.1 75 4) 0 1 (caK (M.1 pl 3) (M.1 90) (M.1 88) (M.1 89) nf y a k)) (vS M.1 75) n N) (lsS n k 1728 (0, 0, 0)) (100000 + 1, none)).2 (j - 1)))) ly M'))) : Mt G l mX11_lies (8, 0, 0, false) [.ref 0, .int x, .int z, .int y, .int v] ly M Q := by
  have hXS0 := hXS
  obtain ⟨hX, hpl, hp7, ⟨n0, n1, n2, n3⟩, ⟨hn, hn2, hn12⟩, ⟨hw1, hw2, hw6⟩, ⟨hu1, hu2, hv1, hv2⟩, hgl, hbb⟩ := hXS
  refine Mt.of (lv := [some (.ref 0), some (.int x), some (.int z), some (.int y), some (.int v), none]) rfl ?_
  refine Rn.iload_n dX11_lies_0 rfl ?_
  refine Rn.iconstv (v := 1) dX11_lies_1 ic_1 ?_
  refine Rn.bipushv (v := 32) dX11_lies_2 bp_32 ?_
  refine Rn.callS3 dX11_lies_4 vX11_295 (tX11_isIn) (by decide) ⟨(Nat.le_of_ble_eq_true rfl), (Nat.le_of_ble_eq_true rfl), (Nat.le_of_ble_eq_true rfl)⟩ (fun h => by cases h) (fun v1 ly1 M1 ⟨q1, q2, q3⟩ => ?_)
  rw [q1, q2, q3]
  refine Rn.if_eq dX11_lies_7 (fun g1 => ?_) (fun g1 => ?_)
  · skip
    refine Rn.iconstv (v := -1) dX11_lies_53 ic_m1 ?_
    exact Rn.iret (ty := .int) dX11_lies_54 rfl rfl (hQ.1 (fun h => inR_1.elim (fun k => k.2 h.1) (fun k => absurd (k.1.symm.trans g1) (by decide))))
  · skip
    obtain ⟨N, hN1, hN2, rfl⟩ : ∃ j : Nat, 1 ≤ j ∧ j ≤ 32 ∧ x = nI j := (inR_1 (x := x) (lo := 1) (hi := 32)).elim (fun k => absurd k.1 g1) (fun k => nat_of (b := 32) (k := 32) rfl (by decide) k.2.1 k.2.2)
    refine Rn.iload_n dX11_lies_10 rfl ?_
    refine Rn.iconstv (v := 0) dX11_lies_11 ic_0 ?_
    refine Rn.iconstv (v := 3) dX11_lies_12 ic_3 ?_
    refine Rn.callS3 dX11_lies_13 vX11_295 (tX11_isIn) (by decide) ⟨(Nat.le_of_ble_eq_true rfl), (Nat.le_of_ble_eq_true rfl), (Nat.le_of_ble_eq_true rfl)⟩ (fun h => by cases h) (fun v1 ly1 M1 ⟨q1, q2, q3⟩ => ?_)
    rw [q1, q2, q3]
    refine Rn.if_eq dX11_lies_16 (fun g2 => ?_) (fun g2 => ?_)
    · skip
      refine Rn.iconstv (v := -1) dX11_lies_53 ic_m1 ?_
      exact Rn.iret (ty := .int) dX11_lies_54 rfl rfl (hQ.1 (fun h => inR_1.elim (fun k => k.2 h.2.1) (fun k => absurd (k.1.symm.trans g2) (by decide))))
    · skip
      obtain ⟨k, hk2, rfl⟩ : ∃ j : Nat, j ≤ 3 ∧ z = nI j := (inR_1 (x := z) (lo := 0) (hi := 3)).elim (fun k => absurd k.1 g2) (fun k => nat_of0 (b := 3) (k := 3) rfl (by decide) k.2.1 k.2.2)
      refine Rn.iload_n dX11_lies_19 rfl ?_
      refine Rn.callS1 dX11_lies_20 vX11_259 (tX11_isCalm) (by decide) ⟨(Nat.le_of_ble_eq_true rfl), (Nat.le_of_ble_eq_true rfl), (Nat.le_of_ble_eq_true rfl)⟩ (fun h => by cases h) (fun v1 ly1 M1 ⟨q1, q2, q3⟩ => ?_)
      rw [q1, q2, q3]
      refine Rn.if_eq dX11_lies_23 (fun g3 => ?_) (fun g3 => ?_)
      · skip
        refine Rn.iconstv (v := -1) dX11_lies_53 ic_m1 ?_
        exact Rn.iret (ty := .int) dX11_lies_54 rfl rfl (hQ.1 (fun h => inR_1.elim (fun k => k.2 h.2.2.1) (fun k => absurd (k.1.symm.trans g3) (by decide))))
      · skip
        have g3h : 1 ≤ y ∧ y ≤ 99 := (inR_1 (x := y) (lo := 1) (hi := 99)).elim (fun k => absurd k.1 g3) (fun k => k.2)
        refine Rn.iload dX11_lies_26 rfl ?_
        refine Rn.iconstv (v := 0) dX11_lies_28 ic_0 ?_
        refine Rn.iconstv (v := 3) dX11_lies_29 ic_3 ?_
        refine Rn.callS3 dX11_lies_30 vX11_295 (tX11_isIn) (by decide) ⟨(Nat.le_of_ble_eq_true rfl), (Nat.le_of_ble_eq_true rfl), (Nat.le_of_ble_eq_true rfl)⟩ (fun h => by cases h) (fun v1 ly1 M1 ⟨q1, q2, q3⟩ => ?_)
        rw [q1, q2, q3]
        refine Rn.if_eq dX11_lies_33 (fun g4 => ?_) (fun g4 => ?_)
        · skip
          refine Rn.iconstv (v := -1) dX11_lies_53 ic_m1 ?_
          exact Rn.iret (ty := .int) dX11_lies_54 rfl rfl (hQ.1 (fun h => inR_1.elim (fun k => k.2 h.2.2.2.1) (fun k => absurd (k.1.symm.trans g4) (by decide))))
        · skip
          obtain ⟨j, hj2, rfl⟩ : ∃ j : Nat, j ≤ 3 ∧ v = nI j := (inR_1 (x := v) (lo := 0) (hi := 3)).elim (fun k => absurd k.1 g4) (fun k => nat_of0 (b := 3) (k := 3) rfl (by decide) k.2.1 k.2.2)
          refine Rn.aload_n dX11_lies_36 rfl ?_
          refine Rn.getR dX11_lies_37 fX11_39 rfl (xc0 hX) (show M.2.2 0 5 = some 75 from (xp0_5 hX)) ?_
          refine Rn.getR dX11_lies_40 fX11_215 rfl (xc75 hX) (show M.2.2 75 11 = some 87 from (xp75_11 hX)) ?_
          refine Rn.getI dX11_lies_43 fX11_219 rfl (xc87 hX) ?_
          refine Rn.topI (y := nI nf) (hF.1) ?_
          refine Rn.iload_n dX11_lies_46 rfl ?_
          refine Rn.iadd dX11_lies_47 ?_
          refine Rn.topI (y := nI (nf + k)) (nI_add nf k) ?_
          refine Rn.bipushv (v := 8) dX11_lies_48 bp_8 ?_
          refine Rn.icmp_le dX11_lies_50 (fun g9 => ?_) (fun g9 => ?_)
          · skip
            have hk8 := (nf_le hF.2.1 hk2).mp g9
            obtain ⟨hQ1, hQ2⟩ := hQ.2 N k j hN1 hN2 rfl hk2 rfl g3h hj2 rfl hk8
            refine Rn.iload dX11_lies_55 rfl ?_
            refine Rn.iload_n dX11_lies_57 rfl ?_
            refine Rn.icmp_le dX11_lies_58 (fun g10 => ?_) (fun g10 => ?_)
            · skip
              have hjk : j ≤ k := (nI_leI (by omega) (by omega)).mp g10
              have hQ3 := hQ2 hjk
              clear hQ hQ1 hQ2
              rcases x4 hk2 with rfl | rfl | rfl | rfl
              · skip
                show Rn G l mX11_lies (8, 0, 0, false) 64 [some (.ref 0), some (.int (nI N)), some (.int 0), some (.int y), some (.int (nI j)), none] [] ly M Q
                refine Rn.aload_n dX11_lies_64 rfl ?_
                refine Rn.iload_n dX11_lies_65 rfl ?_
                refine Rn.iload_n dX11_lies_66 rfl ?_
                refine Rn.iload_n dX11_lies_67 rfl ?_
                refine Rn.ldcw dX11_lies_68 kX11_269 ?_
                refine Rn.callV4 dX11_lies_71 vX11_315 (xc0 hX) (by decide) rfl (tX11_leastHigh0 (Q := fun v0 ly0 M0 => v0 = some (.int (lhF (fun a => hgS (TG M.1 pl n nw (fun k => M.1 (pl + 7 + k)) (pl + 18) nu (pl + 21) nv (M.1 75 4) 0 1 (caK (M.1 pl 3) (M.1 90) (M.1 88) (M.1 89) nf y a 0)) (vS M.1 75) n N) (lsS n 0 1728 (0, 0, 0)) (100000 + 1, none)).1) ∧ ly0 = ly ∧ quX M M0 ∧ bst (lhF (fun a => hgS (TG M.1 pl n nw (fun k => M.1 (pl + 7 + k)) (pl + 18) nu (pl + 21) nv (M.1 75 4) 0 1 (caK (M.1 pl 3) (M.1 90) (M.1 88) (M.1 89) nf y a 0)) (vS M.1 75) n N) (lsS n 0 1728 (0, 0, 0)) (100000 + 1, none)).2 (M0.1 148)) quX.rf (by omega) (by decide) hk8 hXS0 hF (fun K h1 h2 => ⟨rfl, rfl, h1, h2⟩)) (by decide) ⟨(Nat.le_of_ble_eq_true rfl), (Nat.le_of_ble_eq_true rfl), (Nat.le_of_ble_eq_true rfl)⟩ (fun h => by cases h) (fun v1 ly1 N1 ⟨q1, q2, hq1, hb1⟩ => ?_)
                rw [q1, q2]
                have hXN1 := (hq1).xw hX
                have hplN1 : N1.2.2 0 3 = some pl := ((hq1).2.2 0 3 (by decide)).trans hpl
                have hnN1 : N1.1 pl 0 = nI n := (congrFun ((hq1).p0 hp7) 0).trans hn
                have hw1N1 : N1.1 (pl + 1) 0 = nI nw := (congrFun ((hq1).pk hp7 (k := 1) (by decide)) 0).trans hw1
                refine Rn.istore (lv' := [some (.ref 0), some (.int (nI N)), some (.int 0), some (.int y), some (.int (nI j)), some (.int ((lhF (fun a => hgS (TG M.1 pl n nw (fun k => M.1 (pl + 7 + k)) (pl + 18) nu (pl + 21) nv (M.1 75 4) 0 1 (caK (M.1 pl 3) (M.1 90) (M.1 88) (M.1 89) nf y a 0)) (vS M.1 75) n N) (lsS n 0 1728 (0, 0, 0)) (100000 + 1, none)).1))]) dX11_lies_74 (by decide) rfl ?_
                refine Rn.iload dX11_lies_76 rfl ?_
                refine Rn.if_ne dX11_lies_78 (fun g11 => ?_) (fun g11 => ?_)
                · skip
                  obtain rfl : j = 0 := by omega
                  exact absurd rfl g11
                · skip
                  refine Rn.iload dX11_lies_81 rfl ?_
                  refine Rn.goto dX11_lies_83 ?_
                  exact Rn.iret (ty := .int) dX11_lies_95 rfl rfl (by have h := hQ3 N1 hq1; rw [if_pos ((nI_eq (b := 0) (by omega) (by decide)).mp g11)] at h; exact h)
              · skip
                show Rn G l mX11_lies (8, 0, 0, false) 64 [some (.ref 0), some (.int (nI N)), some (.int 1), some (.int y), some (.int (nI j)), none] [] ly M Q
                refine Rn.aload_n dX11_lies_64 rfl ?_
                refine Rn.iload_n dX11_lies_65 rfl ?_
                refine Rn.iload_n dX11_lies_66 rfl ?_
                refine Rn.iload_n dX11_lies_67 rfl ?_
                refine Rn.ldcw dX11_lies_68 kX11_269 ?_
                refine Rn.callV4 dX11_lies_71 vX11_315 (xc0 hX) (by decide) rfl (tX11_leastHigh1 (Q := fun v0 ly0 M0 => v0 = some (.int (lhF (fun a => hgS (TG M.1 pl n nw (fun k => M.1 (pl + 7 + k)) (pl + 18) nu (pl + 21) nv (M.1 75 4) 0 1 (caK (M.1 pl 3) (M.1 90) (M.1 88) (M.1 89) nf y a 1)) (vS M.1 75) n N) (lsS n 1 1728 (0, 0, 0)) (100000 + 1, none)).1) ∧ ly0 = ly ∧ quX M M0 ∧ bst (lhF (fun a => hgS (TG M.1 pl n nw (fun k => M.1 (pl + 7 + k)) (pl + 18) nu (pl + 21) nv (M.1 75 4) 0 1 (caK (M.1 pl 3) (M.1 90) (M.1 88) (M.1 89) nf y a 1)) (vS M.1 75) n N) (lsS n 1 1728 (0, 0, 0)) (100000 + 1, none)).2 (M0.1 148)) quX.rf (by omega) (by decide) hk8 hXS0 hF (fun K h1 h2 => ⟨rfl, rfl, h1, h2⟩)) (by decide) ⟨(Nat.le_of_ble_eq_true rfl), (Nat.le_of_ble_eq_true rfl), (Nat.le_of_ble_eq_true rfl)⟩ (fun h => by cases h) (fun v1 ly1 N1 ⟨q1, q2, hq1, hb1⟩ => ?_)
                rw [q1, q2]
                have hXN1 := (hq1).xw hX
                have hplN1 : N1.2.2 0 3 = some pl := ((hq1).2.2 0 3 (by decide)).trans hpl
                have hnN1 : N1.1 pl 0 = nI n := (congrFun ((hq1).p0 hp7) 0).trans hn
                have hw1N1 : N1.1 (pl + 1) 0 = nI nw := (congrFun ((hq1).pk hp7 (k := 1) (by decide)) 0).trans hw1
                refine Rn.istore (lv' := [some (.ref 0), some (.int (nI N)), some (.int 1), some (.int y), some (.int (nI j)), some (.int ((lhF (fun a => hgS (TG M.1 pl n nw (fun k => M.1 (pl + 7 + k)) (pl + 18) nu (pl + 21) nv (M.1 75 4) 0 1 (caK (M.1 pl 3) (M.1 90) (M.1 88) (M.1 89) nf y a 1)) (vS M.1 75) n N) (lsS n 1 1728 (0, 0, 0)) (100000 + 1, none)).1))]) dX11_lies_74 (by decide) rfl ?_
                refine Rn.iload dX11_lies_76 rfl ?_
                refine Rn.if_ne dX11_lies_78 (fun g11 => ?_) (fun g11 => ?_)
                · skip
                  obtain ⟨i, rfl⟩ : ∃ i, j = i + 1 := ⟨j - 1, by have : j ≠ 0 := fun e => g11 (by rw [e]; rfl); omega⟩
                  refine Rn.aload_n dX11_lies_86 rfl ?_
                  refine Rn.getR dX11_lies_87 fX11_87 rfl (xc0 hXN1) (show N1.2.2 0 16 = some 148 from (xp0_16 hXN1)) ?_
                  refine Rn.iload dX11_lies_90 rfl ?_
                  refine Rn.iconstv (v := 1) dX11_lies_92 ic_1 ?_
                  refine Rn.isub dX11_lies_93 ?_
                  refine Rn.topI (y := nI i) (nI_pred i) ?_
                  refine Rn.ialdN (k0 := i) dX11_lies_94 (xc148 hXN1) (by omega) (by decide) ?_
                  refine Rn.topI (y := bs3 (lhF (fun a => hgS (TG M.1 pl n nw (fun k => M.1 (pl + 7 + k)) (pl + 18) nu (pl + 21) nv (M.1 75 4) 0 1 (caK (M.1 pl 3) (M.1 90) (M.1 88) (M.1 89) nf y a 1)) (vS M.1 75) n N) (lsS n 1 1728 (0, 0, 0)) (100000 + 1, none)).2 i) (bst_at hb1 (by obtain ⟨r, e⟩ := lsS_cons (n := n) (k := 1) (f := 1727) (a := (0, 0, 0)); rw [e]; exact lhF_one (Int32.lt_of_le_of_lt (hgS_le (fun s => gr_pas) N) (by decide))) (by omega)) ?_
                  exact Rn.iret (ty := .int) dX11_lies_95 rfl rfl (by have h := hQ3 N1 hq1; rw [if_neg (by omega)] at h; exact h)
                · skip
                  refine Rn.iload dX11_lies_81 rfl ?_
                  refine Rn.goto dX11_lies_83 ?_
                  exact Rn.iret (ty := .int) dX11_lies_95 rfl rfl (by have h := hQ3 N1 hq1; rw [if_pos ((nI_eq (b := 0) (by omega) (by decide)).mp g11)] at h; exact h)
              · skip
                show Rn G l mX11_lies (8, 0, 0, false) 64 [some (.ref 0), some (.int (nI N)), some (.int 2), some (.int y), some (.int (nI j)), none] [] ly M Q
                refine Rn.aload_n dX11_lies_64 rfl ?_
                refine Rn.iload_n dX11_lies_65 rfl ?_
                refine Rn.iload_n dX11_lies_66 rfl ?_
                refine Rn.iload_n dX11_lies_67 rfl ?_
                refine Rn.ldcw dX11_lies_68 kX11_269 ?_
                refine Rn.callV4 dX11_lies_71 vX11_315 (xc0 hX) (by decide) rfl (tX11_leastHigh2 (Q := fun v0 ly0 M0 => v0 = some (.int (lhF (fun a => hgS (TG M.1 pl n nw (fun k => M.1 (pl + 7 + k)) (pl + 18) nu (pl + 21) nv (M.1 75 4) 0 1 (caK (M.1 pl 3) (M.1 90) (M.1 88) (M.1 89) nf y a 2)) (vS M.1 75) n N) (lsS n 2 1728 (0, 0, 0)) (100000 + 1, none)).1) ∧ ly0 = ly ∧ quX M M0 ∧ bst (lhF (fun a => hgS (TG M.1 pl n nw (fun k => M.1 (pl + 7 + k)) (pl + 18) nu (pl + 21) nv (M.1 75 4) 0 1 (caK (M.1 pl 3) (M.1 90) (M.1 88) (M.1 89) nf y a 2)) (vS M.1 75) n N) (lsS n 2 1728 (0, 0, 0)) (100000 + 1, none)).2 (M0.1 148)) quX.rf (by omega) (by decide) hk8 hXS0 hF (fun K h1 h2 => ⟨rfl, rfl, h1, h2⟩)) (by decide) ⟨(Nat.le_of_ble_eq_true rfl), (Nat.le_of_ble_eq_true rfl), (Nat.le_of_ble_eq_true rfl)⟩ (fun h => by cases h) (fun v1 ly1 N1 ⟨q1, q2, hq1, hb1⟩ => ?_)
                rw [q1, q2]
                have hXN1 := (hq1).xw hX
                have hplN1 : N1.2.2 0 3 = some pl := ((hq1).2.2 0 3 (by decide)).trans hpl
                have hnN1 : N1.1 pl 0 = nI n := (congrFun ((hq1).p0 hp7) 0).trans hn
                have hw1N1 : N1.1 (pl + 1) 0 = nI nw := (congrFun ((hq1).pk hp7 (k := 1) (by decide)) 0).trans hw1
                refine Rn.istore (lv' := [some (.ref 0), some (.int (nI N)), some (.int 2), some (.int y), some (.int (nI j)), some (.int ((lhF (fun a => hgS (TG M.1 pl n nw (fun k => M.1 (pl + 7 + k)) (pl + 18) nu (pl + 21) nv (M.1 75 4) 0 1 (caK (M.1 pl 3) (M.1 90) (M.1 88) (M.1 89) nf y a 2)) (vS M.1 75) n N) (lsS n 2 1728 (0, 0, 0)) (100000 + 1, none)).1))]) dX11_lies_74 (by decide) rfl ?_
                refine Rn.iload dX11_lies_76 rfl ?_
                refine Rn.if_ne dX11_lies_78 (fun g11 => ?_) (fun g11 => ?_)
                · skip
                  obtain ⟨i, rfl⟩ : ∃ i, j = i + 1 := ⟨j - 1, by have : j ≠ 0 := fun e => g11 (by rw [e]; rfl); omega⟩
                  refine Rn.aload_n dX11_lies_86 rfl ?_
                  refine Rn.getR dX11_lies_87 fX11_87 rfl (xc0 hXN1) (show N1.2.2 0 16 = some 148 from (xp0_16 hXN1)) ?_
                  refine Rn.iload dX11_lies_90 rfl ?_
                  refine Rn.iconstv (v := 1) dX11_lies_92 ic_1 ?_
                  refine Rn.isub dX11_lies_93 ?_
                  refine Rn.topI (y := nI i) (nI_pred i) ?_
                  refine Rn.ialdN (k0 := i) dX11_lies_94 (xc148 hXN1) (by omega) (by decide) ?_
                  refine Rn.topI (y := bs3 (lhF (fun a => hgS (TG M.1 pl n nw (fun k => M.1 (pl + 7 + k)) (pl + 18) nu (pl + 21) nv (M.1 75 4) 0 1 (caK (M.1 pl 3) (M.1 90) (M.1 88) (M.1 89) nf y a 2)) (vS M.1 75) n N) (lsS n 2 1728 (0, 0, 0)) (100000 + 1, none)).2 i) (bst_at hb1 (by obtain ⟨r, e⟩ := lsS_cons (n := n) (k := 2) (f := 1727) (a := (0, 0, 0)); rw [e]; exact lhF_one (Int32.lt_of_le_of_lt (hgS_le (fun s => gr_pas) N) (by decide))) (by omega)) ?_
                  exact Rn.iret (ty := .int) dX11_lies_95 rfl rfl (by have h := hQ3 N1 hq1; rw [if_neg (by omega)] at h; exact h)
                · skip
                  refine Rn.iload dX11_lies_81 rfl ?_
                  refine Rn.goto dX11_lies_83 ?_
                  exact Rn.iret (ty := .int) dX11_lies_95 rfl rfl (by have h := hQ3 N1 hq1; rw [if_pos ((nI_eq (b := 0) (by omega) (by decide)).mp g11)] at h; exact h)
              · skip
                show Rn G l mX11_lies (8, 0, 0, false) 64 [some (.ref 0), some (.int (nI N)), some (.int 3), some (.int y), some (.int (nI j)), none] [] ly M Q
                refine Rn.aload_n dX11_lies_64 rfl ?_
                refine Rn.iload_n dX11_lies_65 rfl ?_
                refine Rn.iload_n dX11_lies_66 rfl ?_
                refine Rn.iload_n dX11_lies_67 rfl ?_
                refine Rn.ldcw dX11_lies_68 kX11_269 ?_
                refine Rn.callV4 dX11_lies_71 vX11_315 (xc0 hX) (by decide) rfl (tX11_leastHigh3 (Q := fun v0 ly0 M0 => v0 = some (.int (lhF (fun a => hgS (TG M.1 pl n nw (fun k => M.1 (pl + 7 + k)) (pl + 18) nu (pl + 21) nv (M.1 75 4) 0 1 (caK (M.1 pl 3) (M.1 90) (M.1 88) (M.1 89) nf y a 3)) (vS M.1 75) n N) (lsS n 3 1728 (0, 0, 0)) (100000 + 1, none)).1) ∧ ly0 = ly ∧ quX M M0 ∧ bst (lhF (fun a => hgS (TG M.1 pl n nw (fun k => M.1 (pl + 7 + k)) (pl + 18) nu (pl + 21) nv (M.1 75 4) 0 1 (caK (M.1 pl 3) (M.1 90) (M.1 88) (M.1 89) nf y a 3)) (vS M.1 75) n N) (lsS n 3 1728 (0, 0, 0)) (100000 + 1, none)).2 (M0.1 148)) quX.rf (by omega) (by decide) hk8 hXS0 hF (fun K h1 h2 => ⟨rfl, rfl, h1, h2⟩)) (by decide) ⟨(Nat.le_of_ble_eq_true rfl), (Nat.le_of_ble_eq_true rfl), (Nat.le_of_ble_eq_true rfl)⟩ (fun h => by cases h) (fun v1 ly1 N1 ⟨q1, q2, hq1, hb1⟩ => ?_)
                rw [q1, q2]
                have hXN1 := (hq1).xw hX
                have hplN1 : N1.2.2 0 3 = some pl := ((hq1).2.2 0 3 (by decide)).trans hpl
                have hnN1 : N1.1 pl 0 = nI n := (congrFun ((hq1).p0 hp7) 0).trans hn
                have hw1N1 : N1.1 (pl + 1) 0 = nI nw := (congrFun ((hq1).pk hp7 (k := 1) (by decide)) 0).trans hw1
                refine Rn.istore (lv' := [some (.ref 0), some (.int (nI N)), some (.int 3), some (.int y), some (.int (nI j)), some (.int ((lhF (fun a => hgS (TG M.1 pl n nw (fun k => M.1 (pl + 7 + k)) (pl + 18) nu (pl + 21) nv (M.1 75 4) 0 1 (caK (M.1 pl 3) (M.1 90) (M.1 88) (M.1 89) nf y a 3)) (vS M.1 75) n N) (lsS n 3 1728 (0, 0, 0)) (100000 + 1, none)).1))]) dX11_lies_74 (by decide) rfl ?_
                refine Rn.iload dX11_lies_76 rfl ?_
                refine Rn.if_ne dX11_lies_78 (fun g11 => ?_) (fun g11 => ?_)
                · skip
                  obtain ⟨i, rfl⟩ : ∃ i, j = i + 1 := ⟨j - 1, by have : j ≠ 0 := fun e => g11 (by rw [e]; rfl); omega⟩
                  refine Rn.aload_n dX11_lies_86 rfl ?_
                  refine Rn.getR dX11_lies_87 fX11_87 rfl (xc0 hXN1) (show N1.2.2 0 16 = some 148 from (xp0_16 hXN1)) ?_
                  refine Rn.iload dX11_lies_90 rfl ?_
                  refine Rn.iconstv (v := 1) dX11_lies_92 ic_1 ?_
                  refine Rn.isub dX11_lies_93 ?_
                  refine Rn.topI (y := nI i) (nI_pred i) ?_
                  refine Rn.ialdN (k0 := i) dX11_lies_94 (xc148 hXN1) (by omega) (by decide) ?_
                  refine Rn.topI (y := bs3 (lhF (fun a => hgS (TG M.1 pl n nw (fun k => M.1 (pl + 7 + k)) (pl + 18) nu (pl + 21) nv (M.1 75 4) 0 1 (caK (M.1 pl 3) (M.1 90) (M.1 88) (M.1 89) nf y a 3)) (vS M.1 75) n N) (lsS n 3 1728 (0, 0, 0)) (100000 + 1, none)).2 i) (bst_at hb1 (by obtain ⟨r, e⟩ := lsS_cons (n := n) (k := 3) (f := 1727) (a := (0, 0, 0)); rw [e]; exact lhF_one (Int32.lt_of_le_of_lt (hgS_le (fun s => gr_pas) N) (by decide))) (by omega)) ?_
                  exact Rn.iret (ty := .int) dX11_lies_95 rfl rfl (by have h := hQ3 N1 hq1; rw [if_neg (by omega)] at h; exact h)
                · skip
                  refine Rn.iload dX11_lies_81 rfl ?_
                  refine Rn.goto dX11_lies_83 ?_
                  exact Rn.iret (ty := .int) dX11_lies_95 rfl rfl (by have h := hQ3 N1 hq1; rw [if_pos ((nI_eq (b := 0) (by omega) (by decide)).mp g11)] at h; exact h)
            · skip
              refine Rn.bipushv (v := -2) dX11_lies_61 bp_m2 ?_
              exact Rn.iret (ty := .int) dX11_lies_63 rfl rfl (hQ1 (by rw [nI_leI (by omega) (by omega)] at g10; omega))
          · skip
            refine Rn.iconstv (v := -1) dX11_lies_53 ic_m1 ?_
            exact Rn.iret (ty := .int) dX11_lies_54 rfl rfl (hQ.1 (fun h => g9 (by rw [← nI_add]; exact h.2.2.2.2)))
/-- how few it takes -/
def fewF (nf : Nat) (L : Nat → Int32) (bd : Int32) : Nat → Nat → Int32
  | 0, _ => -2
  | f + 1, k => if 8 < nf + k then -2 else if L k ≤ bd then nI k else fewF nf L bd f (k + 1)
theorem tX11_fewest {G : Gx} {l : Launch} {ly : Ly} {M : Mm} {pl n nw nu nv nf : Nat} {x y bd : Int32} (hXS : XS ly M pl n nw nu nv) (hF : M.1 87 0 = nI nf ∧ nf ≤ 8 ∧ ∀ i, i < nf → vp_in (M.1 88 i) 12) {Q : Qt} (hQ : (¬ ((1 ≤ x ∧ x ≤ 32) ∧ (1 ≤ y ∧ y ≤ 99) ∧ (0 ≤ bd ∧ bd ≤ 100000)) → Q (some (.int (-1))) ly M) ∧ (∀ N : Nat, 1 ≤ N → N ≤ 32 → x = nI N → (1 ≤ y ∧ y ≤ 99) → (0 ≤ bd ∧ bd ≤ 100000) → ∀ M' : Mm, quX M M' → Q (some (.int (fewF nf (fun k => (lhF (fun a => hgS (TG M.1 pl n nw (fun k => M.1 (pl + 7 + k)) (pl + 18) nu (pl + 21) nv (M.1 75 4) 0 1 (caK (M.1 pl 3) (M.1 90) (M.1 88) (M.1 89) nf y a k)) (vS M.1 75) n N) (lsS n k 1728 (0, 0, 0)) (bd + 1, none)).1) bd 4 0))) ly M')) : Mt G l mX11_fewest (8, 0, 0, false) [.ref 0, .int x, .int y, .int bd] ly M Q := by
  have hXS0 := hXS
  obtain ⟨hX, hpl, hp7, ⟨n0, n1, n2, n3⟩, ⟨hn, hn2, hn12⟩, ⟨hw1, hw2, hw6⟩, ⟨hu1, hu2, hv1, hv2⟩, hgl, hbb⟩ := hXS
  refine Mt.of (lv := [some (.ref 0), some (.int x), some (.int y), some (.int bd), none]) rfl ?_
  refine Rn.iload_n dX11_fewest_0 rfl ?_
  refine Rn.iconstv (v := 1) dX11_fewest_1 ic_1 ?_
  refine Rn.bipushv (v := 32) dX11_fewest_2 bp_32 ?_
  refine Rn.callS3 dX11_fewest_4 vX11_295 (tX11_isIn) (by decide) ⟨(Nat.le_of_ble_eq_true rfl), (Nat.le_of_ble_eq_true rfl), (Nat.le_of_ble_eq_true rfl)⟩ (fun h => by cases h) (fun v1 ly1 M1 ⟨q1, q2, q3⟩ => ?_)
  rw [q1, q2, q3]
  refine Rn.if_eq dX11_fewest_7 (fun g1 => ?_) (fun g1 => ?_)
  · skip
    refine Rn.iconstv (v := -1) dX11_fewest_28 ic_m1 ?_
    exact Rn.iret (ty := .int) dX11_fewest_29 rfl rfl (hQ.1 (fun h => inR_1.elim (fun k => k.2 h.1) (fun k => absurd (k.1.symm.trans g1) (by decide))))
  · skip
    obtain ⟨N, hN1, hN2, rfl⟩ : ∃ j : Nat, 1 ≤ j ∧ j ≤ 32 ∧ x = nI j := (inR_1 (x := x) (lo := 1) (hi := 32)).elim (fun k => absurd k.1 g1) (fun k => nat_of (b := 32) (k := 32) rfl (by decide) k.2.1 k.2.2)
    refine Rn.iload_n dX11_fewest_10 rfl ?_
    refine Rn.callS1 dX11_fewest_11 vX11_259 (tX11_isCalm) (by decide) ⟨(Nat.le_of_ble_eq_true rfl), (Nat.le_of_ble_eq_true rfl), (Nat.le_of_ble_eq_true rfl)⟩ (fun h => by cases h) (fun v1 ly1 M1 ⟨q1, q2, q3⟩ => ?_)
    rw [q1, q2, q3]
    refine Rn.if_eq dX11_fewest_14 (fun g2 => ?_) (fun g2 => ?_)
    · skip
      refine Rn.iconstv (v := -1) dX11_fewest_28 ic_m1 ?_
      exact Rn.iret (ty := .int) dX11_fewest_29 rfl rfl (hQ.1 (fun h => inR_1.elim (fun k => k.2 h.2.1) (fun k => absurd (k.1.symm.trans g2) (by decide))))
    · skip
      have g2h : 1 ≤ y ∧ y ≤ 99 := (inR_1 (x := y) (lo := 1) (hi := 99)).elim (fun k => absurd k.1 g2) (fun k => k.2)
      refine Rn.iload_n dX11_fewest_17 rfl ?_
      refine Rn.iconstv (v := 0) dX11_fewest_18 ic_0 ?_
      refine Rn.ldcw dX11_fewest_19 kX11_269 ?_
      refine Rn.callS3 dX11_fewest_22 vX11_295 (tX11_isIn) (by decide) ⟨(Nat.le_of_ble_eq_true rfl), (Nat.le_of_ble_eq_true rfl), (Nat.le_of_ble_eq_true rfl)⟩ (fun h => by cases h) (fun v1 ly1 M1 ⟨q1, q2, q3⟩ => ?_)
      rw [q1, q2, q3]
      refine Rn.if_ne dX11_fewest_25 (fun g3 => ?_) (fun g3 => ?_)
      · skip
        have g3h : 0 ≤ bd ∧ bd ≤ 100000 := (inR_1 (x := bd) (lo := 0) (hi := 100000)).elim (fun k => absurd k.1 g3) (fun k => k.2)
        have hR0 := hQ.2 N hN1 hN2 rfl g2h g3h
        clear hQ
        refine Rn.iconstv (v := 0) dX11_fewest_30 ic_0 ?_
        refine Rn.istore (lv' := [some (.ref 0), some (.int (nI N)), some (.int y), some (.int bd), some (.int 0)]) dX11_fewest_31 (by decide) rfl ?_
        refine Rn.iload dX11_fewest_33 rfl ?_
        refine Rn.iconstv (v := 3) dX11_fewest_35 ic_3 ?_
        refine Rn.icmp_gt dX11_fewest_36 (fun c0 => ?_) (fun c0 => ?_)
        · skip
          exact absurd c0 (by decide)
        · skip
          refine Rn.aload_n dX11_fewest_39 rfl ?_
          refine Rn.getR dX11_fewest_40 fX11_39 rfl (xc0 hX) (show M.2.2 0 5 = some 75 from (xp0_5 hX)) ?_
          refine Rn.getR dX11_fewest_43 fX11_215 rfl (xc75 hX) (show M.2.2 75 11 = some 87 from (xp75_11 hX)) ?_
          refine Rn.getI dX11_fewest_46 fX11_219 rfl (xc87 hX) ?_
          refine Rn.topI (y := nI nf) (hF.1) ?_
          refine Rn.iload dX11_fewest_49 rfl ?_
          refine Rn.iadd dX11_fewest_51 ?_
          refine Rn.topI (y := nI (nf + 0)) (nI_add nf 0) ?_
          refine Rn.bipushv (v := 8) dX11_fewest_52 bp_8 ?_
          refine Rn.icmp_gt dX11_fewest_54 (fun d0 => ?_) (fun d0 => ?_)
          · skip
            refine Rn.bipushv (v := -2) dX11_fewest_79 bp_m2 ?_
            exact Rn.iret (ty := .int) dX11_fewest_81 rfl rfl (by have h := hR0 M (quX.rf (M := M)); rw [fewF, if_pos ((nI_ltI (a := 8) (by decide) (by omega)).mp d0)] at h; exact h)
          · skip
            have hk0 : nf + 0 ≤ 8 := Nat.le_of_not_lt (fun h => d0 (nI_lt (a := 8) (b := nf + 0) h (by omega)))
            refine Rn.aload_n dX11_fewest_57 rfl ?_
            refine Rn.iload_n dX11_fewest_58 rfl ?_
            refine Rn.iload dX11_fewest_59 rfl ?_
            refine Rn.iload_n dX11_fewest_61 rfl ?_
            refine Rn.iload_n dX11_fewest_62 rfl ?_
            refine Rn.callV4 dX11_fewest_63 vX11_315 (xc0 hX) (by decide) rfl (tX11_leastHigh0 (Q := fun v0 ly0 M0 => v0 = some (.int (lhF (fun a => hgS (TG M.1 pl n nw (fun k => M.1 (pl + 7 + k)) (pl + 18) nu (pl + 21) nv (M.1 75 4) 0 1 (caK (M.1 pl 3) (M.1 90) (M.1 88) (M.1 89) nf y a 0)) (vS M.1 75) n N) (lsS n 0 1728 (0, 0, 0)) (bd + 1, none)).1) ∧ ly0 = ly ∧ quX M M0) (quX.rf (M := M)) (by omega) g3h hk0 hXS0 hF (fun K h1 h2 => ⟨rfl, rfl, h1⟩)) (by decide) ⟨(Nat.le_of_ble_eq_true rfl), (Nat.le_of_ble_eq_true rfl), (Nat.le_of_ble_eq_true rfl)⟩ (fun h => by cases h) (fun v1 ly1 N1 ⟨q1, q2, hq1⟩ => ?_)
            rw [q1, q2]
            have hXN1 := (hq1).xw hX
            have hplN1 : N1.2.2 0 3 = some pl := ((hq1).2.2 0 3 (by decide)).trans hpl
            have hnN1 : N1.1 pl 0 = nI n := (congrFun ((hq1).p0 hp7) 0).trans hn
            have hw1N1 : N1.1 (pl + 1) 0 = nI nw := (congrFun ((hq1).pk hp7 (k := 1) (by decide)) 0).trans hw1
            refine Rn.iload_n dX11_fewest_66 rfl ?_
            refine Rn.icmp_gt dX11_fewest_67 (fun e0 => ?_) (fun e0 => ?_)
            · skip
              have hR1 : ∀ M' : Mm, quX M M' → Q (some (.int (fewF nf (fun k => (lhF (fun a => hgS (TG M.1 pl n nw (fun k => M.1 (pl + 7 + k)) (pl + 18) nu (pl + 21) nv (M.1 75 4) 0 1 (caK (M.1 pl 3) (M.1 90) (M.1 88) (M.1 89) nf y a k)) (vS M.1 75) n N) (lsS n k 1728 (0, 0, 0)) (bd + 1, none)).1) bd 3 1))) ly M' := fun M' hq => by have h := hR0 M' hq; rw [fewF, if_neg (by omega), if_neg (Int32.not_le.mpr e0)] at h; exact h
              refine Rn.iincv (j' := 1) (lv' := [some (.ref 0), some (.int (nI N)), some (.int y), some (.int bd), some (.int (0 + 1))]) dX11_fewest_73 rfl rfl (by decide) rfl ?_
              refine Rn.goto dX11_fewest_76 ?_
              show Rn G l mX11_fewest (8, 0, 0, false) 33 [some (.ref 0), some (.int (nI N)), some (.int y), some (.int bd), some (.int 1)] [] ly N1 Q
              refine Rn.iload dX11_fewest_33 rfl ?_
              refine Rn.iconstv (v := 3) dX11_fewest_35 ic_3 ?_
              refine Rn.icmp_gt dX11_fewest_36 (fun c1 => ?_) (fun c1 => ?_)
              · skip
                exact absurd c1 (by decide)
              · skip
                refine Rn.aload_n dX11_fewest_39 rfl ?_
                refine Rn.getR dX11_fewest_40 fX11_39 rfl (xc0 hXN1) (show N1.2.2 0 5 = some 75 from (xp0_5 hXN1)) ?_
                refine Rn.getR dX11_fewest_43 fX11_215 rfl (xc75 hXN1) (show N1.2.2 75 11 = some 87 from (xp75_11 hXN1)) ?_
                refine Rn.getI dX11_fewest_46 fX11_219 rfl (xc87 hXN1) ?_
                refine Rn.topI (y := nI nf) ((congrFun (hq1.at (k := 87) (by omega)) 0).trans hF.1) ?_
                refine Rn.iload dX11_fewest_49 rfl ?_
                refine Rn.iadd dX11_fewest_51 ?_
                refine Rn.topI (y := nI (nf + 1)) (nI_add nf 1) ?_
                refine Rn.bipushv (v := 8) dX11_fewest_52 bp_8 ?_
                refine Rn.icmp_gt dX11_fewest_54 (fun d1 => ?_) (fun d1 => ?_)
                · skip
                  refine Rn.bipushv (v := -2) dX11_fewest_79 bp_m2 ?_
                  exact Rn.iret (ty := .int) dX11_fewest_81 rfl rfl (by have h := hR1 N1 (hq1); rw [fewF, if_pos ((nI_ltI (a := 8) (by decide) (by omega)).mp d1)] at h; exact h)
                · skip
                  have hk1 : nf + 1 ≤ 8 := Nat.le_of_not_lt (fun h => d1 (nI_lt (a := 8) (b := nf + 1) h (by omega)))
                  refine Rn.aload_n dX11_fewest_57 rfl ?_
                  refine Rn.iload_n dX11_fewest_58 rfl ?_
                  refine Rn.iload dX11_fewest_59 rfl ?_
                  refine Rn.iload_n dX11_fewest_61 rfl ?_
                  refine Rn.iload_n dX11_fewest_62 rfl ?_
                  refine Rn.callV4 dX11_fewest_63 vX11_315 (xc0 hXN1) (by decide) rfl (tX11_leastHigh1 (Q := fun v0 ly0 M0 => v0 = some (.int (lhF (fun a => hgS (TG M.1 pl n nw (fun k => M.1 (pl + 7 + k)) (pl + 18) nu (pl + 21) nv (M.1 75 4) 0 1 (caK (M.1 pl 3) (M.1 90) (M.1 88) (M.1 89) nf y a 1)) (vS M.1 75) n N) (lsS n 1 1728 (0, 0, 0)) (bd + 1, none)).1) ∧ ly0 = ly ∧ quX M M0) (hq1) (by omega) g3h hk1 hXS0 hF (fun K h1 h2 => ⟨rfl, rfl, h1⟩)) (by decide) ⟨(Nat.le_of_ble_eq_true rfl), (Nat.le_of_ble_eq_true rfl), (Nat.le_of_ble_eq_true rfl)⟩ (fun h => by cases h) (fun v1 ly1 N2 ⟨q1, q2, hq2⟩ => ?_)
                  rw [q1, q2]
                  have hXN2 := (hq2).xw hX
                  have hplN2 : N2.2.2 0 3 = some pl := ((hq2).2.2 0 3 (by decide)).trans hpl
                  have hnN2 : N2.1 pl 0 = nI n := (congrFun ((hq2).p0 hp7) 0).trans hn
                  have hw1N2 : N2.1 (pl + 1) 0 = nI nw := (congrFun ((hq2).pk hp7 (k := 1) (by decide)) 0).trans hw1
                  refine Rn.iload_n dX11_fewest_66 rfl ?_
                  refine Rn.icmp_gt dX11_fewest_67 (fun e1 => ?_) (fun e1 => ?_)
                  · skip
                    have hR2 : ∀ M' : Mm, quX M M' → Q (some (.int (fewF nf (fun k => (lhF (fun a => hgS (TG M.1 pl n nw (fun k => M.1 (pl + 7 + k)) (pl + 18) nu (pl + 21) nv (M.1 75 4) 0 1 (caK (M.1 pl 3) (M.1 90) (M.1 88) (M.1 89) nf y a k)) (vS M.1 75) n N) (lsS n k 1728 (0, 0, 0)) (bd + 1, none)).1) bd 2 2))) ly M' := fun M' hq => by have h := hR1 M' hq; rw [fewF, if_neg (by omega), if_neg (Int32.not_le.mpr e1)] at h; exact h
                    refine Rn.iincv (j' := 1) (lv' := [some (.ref 0), some (.int (nI N)), some (.int y), some (.int bd), some (.int (1 + 1))]) dX11_fewest_73 rfl rfl (by decide) rfl ?_
                    refine Rn.goto dX11_fewest_76 ?_
                    show Rn G l mX11_fewest (8, 0, 0, false) 33 [some (.ref 0), some (.int (nI N)), some (.int y), some (.int bd), some (.int 2)] [] ly N2 Q
                    refine Rn.iload dX11_fewest_33 rfl ?_
                    refine Rn.iconstv (v := 3) dX11_fewest_35 ic_3 ?_
                    refine Rn.icmp_gt dX11_fewest_36 (fun c2 => ?_) (fun c2 => ?_)
                    · skip
                      exact absurd c2 (by decide)
                    · skip
                      refine Rn.aload_n dX11_fewest_39 rfl ?_
                      refine Rn.getR dX11_fewest_40 fX11_39 rfl (xc0 hXN2) (show N2.2.2 0 5 = some 75 from (xp0_5 hXN2)) ?_
                      refine Rn.getR dX11_fewest_43 fX11_215 rfl (xc75 hXN2) (show N2.2.2 75 11 = some 87 from (xp75_11 hXN2)) ?_
                      refine Rn.getI dX11_fewest_46 fX11_219 rfl (xc87 hXN2) ?_
                      refine Rn.topI (y := nI nf) ((congrFun (hq2.at (k := 87) (by omega)) 0).trans hF.1) ?_
                      refine Rn.iload dX11_fewest_49 rfl ?_
                      refine Rn.iadd dX11_fewest_51 ?_
                      refine Rn.topI (y := nI (nf + 2)) (nI_add nf 2) ?_
                      refine Rn.bipushv (v := 8) dX11_fewest_52 bp_8 ?_
                      refine Rn.icmp_gt dX11_fewest_54 (fun d2 => ?_) (fun d2 => ?_)
                      · skip
                        refine Rn.bipushv (v := -2) dX11_fewest_79 bp_m2 ?_
                        exact Rn.iret (ty := .int) dX11_fewest_81 rfl rfl (by have h := hR2 N2 (hq2); rw [fewF, if_pos ((nI_ltI (a := 8) (by decide) (by omega)).mp d2)] at h; exact h)
                      · skip
                        have hk2 : nf + 2 ≤ 8 := Nat.le_of_not_lt (fun h => d2 (nI_lt (a := 8) (b := nf + 2) h (by omega)))
                        refine Rn.aload_n dX11_fewest_57 rfl ?_
                        refine Rn.iload_n dX11_fewest_58 rfl ?_
                        refine Rn.iload dX11_fewest_59 rfl ?_
                        refine Rn.iload_n dX11_fewest_61 rfl ?_
                        refine Rn.iload_n dX11_fewest_62 rfl ?_
                        refine Rn.callV4 dX11_fewest_63 vX11_315 (xc0 hXN2) (by decide) rfl (tX11_leastHigh2 (Q := fun v0 ly0 M0 => v0 = some (.int (lhF (fun a => hgS (TG M.1 pl n nw (fun k => M.1 (pl + 7 + k)) (pl + 18) nu (pl + 21) nv (M.1 75 4) 0 1 (caK (M.1 pl 3) (M.1 90) (M.1 88) (M.1 89) nf y a 2)) (vS M.1 75) n N) (lsS n 2 1728 (0, 0, 0)) (bd + 1, none)).1) ∧ ly0 = ly ∧ quX M M0) (hq2) (by omega) g3h hk2 hXS0 hF (fun K h1 h2 => ⟨rfl, rfl, h1⟩)) (by decide) ⟨(Nat.le_of_ble_eq_true rfl), (Nat.le_of_ble_eq_true rfl), (Nat.le_of_ble_eq_true rfl)⟩ (fun h => by cases h) (fun v1 ly1 N3 ⟨q1, q2, hq3⟩ => ?_)
                        rw [q1, q2]
                        have hXN3 := (hq3).xw hX
                        have hplN3 : N3.2.2 0 3 = some pl := ((hq3).2.2 0 3 (by decide)).trans hpl
                        have hnN3 : N3.1 pl 0 = nI n := (congrFun ((hq3).p0 hp7) 0).trans hn
                        have hw1N3 : N3.1 (pl + 1) 0 = nI nw := (congrFun ((hq3).pk hp7 (k := 1) (by decide)) 0).trans hw1
                        refine Rn.iload_n dX11_fewest_66 rfl ?_
                        refine Rn.icmp_gt dX11_fewest_67 (fun e2 => ?_) (fun e2 => ?_)
                        · skip
                          have hR3 : ∀ M' : Mm, quX M M' → Q (some (.int (fewF nf (fun k => (lhF (fun a => hgS (TG M.1 pl n nw (fun k => M.1 (pl + 7 + k)) (pl + 18) nu (pl + 21) nv (M.1 75 4) 0 1 (caK (M.1 pl 3) (M.1 90) (M.1 88) (M.1 89) nf y a k)) (vS M.1 75) n N) (lsS n k 1728 (0, 0, 0)) (bd + 1, none)).1) bd 1 3))) ly M' := fun M' hq => by have h := hR2 M' hq; rw [fewF, if_neg (by omega), if_neg (Int32.not_le.mpr e2)] at h; exact h
                          refine Rn.iincv (j' := 1) (lv' := [some (.ref 0), some (.int (nI N)), some (.int y), some (.int bd), some (.int (2 + 1))]) dX11_fewest_73 rfl rfl (by decide) rfl ?_
                          refine Rn.goto dX11_fewest_76 ?_
                          show Rn G l mX11_fewest (8, 0, 0, false) 33 [some (.ref 0), some (.int (nI N)), some (.int y), some (.int bd), some (.int 3)] [] ly N3 Q
                          refine Rn.iload dX11_fewest_33 rfl ?_
                          refine Rn.iconstv (v := 3) dX11_fewest_35 ic_3 ?_
                          refine Rn.icmp_gt dX11_fewest_36 (fun c3 => ?_) (fun c3 => ?_)
                          · skip
                            exact absurd c3 (by decide)
                          · skip
                            refine Rn.aload_n dX11_fewest_39 rfl ?_
                            refine Rn.getR dX11_fewest_40 fX11_39 rfl (xc0 hXN3) (show N3.2.2 0 5 = some 75 from (xp0_5 hXN3)) ?_
                            refine Rn.getR dX11_fewest_43 fX11_215 rfl (xc75 hXN3) (show N3.2.2 75 11 = some 87 from (xp75_11 hXN3)) ?_
                            refine Rn.getI dX11_fewest_46 fX11_219 rfl (xc87 hXN3) ?_
                            refine Rn.topI (y := nI nf) ((congrFun (hq3.at (k := 87) (by omega)) 0).trans hF.1) ?_
                            refine Rn.iload dX11_fewest_49 rfl ?_
                            refine Rn.iadd dX11_fewest_51 ?_
                            refine Rn.topI (y := nI (nf + 3)) (nI_add nf 3) ?_
                            refine Rn.bipushv (v := 8) dX11_fewest_52 bp_8 ?_
                            refine Rn.icmp_gt dX11_fewest_54 (fun d3 => ?_) (fun d3 => ?_)
                            · skip
                              refine Rn.bipushv (v := -2) dX11_fewest_79 bp_m2 ?_
                              exact Rn.iret (ty := .int) dX11_fewest_81 rfl rfl (by have h := hR3 N3 (hq3); rw [fewF, if_pos ((nI_ltI (a := 8) (by decide) (by omega)).mp d3)] at h; exact h)
                            · skip
                              have hk3 : nf + 3 ≤ 8 := Nat.le_of_not_lt (fun h => d3 (nI_lt (a := 8) (b := nf + 3) h (by omega)))
                              refine Rn.aload_n dX11_fewest_57 rfl ?_
                              refine Rn.iload_n dX11_fewest_58 rfl ?_
                              refine Rn.iload dX11_fewest_59 rfl ?_
                              refine Rn.iload_n dX11_fewest_61 rfl ?_
                              refine Rn.iload_n dX11_fewest_62 rfl ?_
                              refine Rn.callV4 dX11_fewest_63 vX11_315 (xc0 hXN3) (by decide) rfl (tX11_leastHigh3 (Q := fun v0 ly0 M0 => v0 = some (.int (lhF (fun a => hgS (TG M.1 pl n nw (fun k => M.1 (pl + 7 + k)) (pl + 18) nu (pl + 21) nv (M.1 75 4) 0 1 (caK (M.1 pl 3) (M.1 90) (M.1 88) (M.1 89) nf y a 3)) (vS M.1 75) n N) (lsS n 3 1728 (0, 0, 0)) (bd + 1, none)).1) ∧ ly0 = ly ∧ quX M M0) (hq3) (by omega) g3h hk3 hXS0 hF (fun K h1 h2 => ⟨rfl, rfl, h1⟩)) (by decide) ⟨(Nat.le_of_ble_eq_true rfl), (Nat.le_of_ble_eq_true rfl), (Nat.le_of_ble_eq_true rfl)⟩ (fun h => by cases h) (fun v1 ly1 N4 ⟨q1, q2, hq4⟩ => ?_)
                              rw [q1, q2]
                              have hXN4 := (hq4).xw hX
                              have hplN4 : N4.2.2 0 3 = some pl := ((hq4).2.2 0 3 (by decide)).trans hpl
                              have hnN4 : N4.1 pl 0 = nI n := (congrFun ((hq4).p0 hp7) 0).trans hn
                              have hw1N4 : N4.1 (pl + 1) 0 = nI nw := (congrFun ((hq4).pk hp7 (k := 1) (by decide)) 0).trans hw1
                              refine Rn.iload_n dX11_fewest_66 rfl ?_
                              refine Rn.icmp_gt dX11_fewest_67 (fun e3 => ?_) (fun e3 => ?_)
                              · skip
                                have hR4 : ∀ M' : Mm, quX M M' → Q (some (.int (fewF nf (fun k => (lhF (fun a => hgS (TG M.1 pl n nw (fun k => M.1 (pl + 7 + k)) (pl + 18) nu (pl + 21) nv (M.1 75 4) 0 1 (caK (M.1 pl 3) (M.1 90) (M.1 88) (M.1 89) nf y a k)) (vS M.1 75) n N) (lsS n k 1728 (0, 0, 0)) (bd + 1, none)).1) bd 0 4))) ly M' := fun M' hq => by have h := hR3 M' hq; rw [fewF, if_neg (by omega), if_neg (Int32.not_le.mpr e3)] at h; exact h
                                refine Rn.iincv (j' := 1) (lv' := [some (.ref 0), some (.int (nI N)), some (.int y), some (.int bd), some (.int (3 + 1))]) dX11_fewest_73 rfl rfl (by decide) rfl ?_
                                refine Rn.goto dX11_fewest_76 ?_
                                show Rn G l mX11_fewest (8, 0, 0, false) 33 [some (.ref 0), some (.int (nI N)), some (.int y), some (.int bd), some (.int 4)] [] ly N4 Q
                                refine Rn.iload dX11_fewest_33 rfl ?_
                                refine Rn.iconstv (v := 3) dX11_fewest_35 ic_3 ?_
                                refine Rn.icmp_gt dX11_fewest_36 (fun c4 => ?_) (fun c4 => ?_)
                                · skip
                                  refine Rn.bipushv (v := -2) dX11_fewest_79 bp_m2 ?_
                                  exact Rn.iret (ty := .int) dX11_fewest_81 rfl rfl (hR4 N4 (hq4))
                                · skip
                                  exact absurd (by decide) c4
                              · skip
                                refine Rn.iload dX11_fewest_70 rfl ?_
                                exact Rn.iret (ty := .int) dX11_fewest_72 rfl rfl (by have h := hR3 N4 hq4; rw [fewF, if_neg (by omega), if_pos (Int32.not_lt.mp e3)] at h; exact h)
                        · skip
                          refine Rn.iload dX11_fewest_70 rfl ?_
                          exact Rn.iret (ty := .int) dX11_fewest_72 rfl rfl (by have h := hR2 N3 hq3; rw [fewF, if_neg (by omega), if_pos (Int32.not_lt.mp e2)] at h; exact h)
                  · skip
                    refine Rn.iload dX11_fewest_70 rfl ?_
                    exact Rn.iret (ty := .int) dX11_fewest_72 rfl rfl (by have h := hR1 N2 hq2; rw [fewF, if_neg (by omega), if_pos (Int32.not_lt.mp e1)] at h; exact h)
            · skip
              refine Rn.iload dX11_fewest_70 rfl ?_
              exact Rn.iret (ty := .int) dX11_fewest_72 rfl rfl (by have h := hR0 N1 hq1; rw [fewF, if_neg (by omega), if_pos (Int32.not_lt.mp e0)] at h; exact h)
      · skip
        refine Rn.iconstv (v := -1) dX11_fewest_28 ic_m1 ?_
        exact Rn.iret (ty := .int) dX11_fewest_29 rfl rfl (hQ.1 (fun h => inR_1.elim (fun k => k.2 h.2.2) (fun k => absurd (k.1.symm.trans g3) (by decide))))
