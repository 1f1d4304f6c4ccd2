theorem tX8_readSign {G : Gx} {l : Launch} {ly : Ly} {M : Mm} {n p : Nat} {c : Int32} {f : Nat → Int32} (hn : M.1 3 5 = nI n ∧ n ≤ 700) (hi : M.1 3 6 = nI p ∧ p < n) (hf : tpR (M.1 1) f n) (hc : c < 256) (hX : XW ly M.2.2) {Q : Qt} (hQ : ∀ K, xrF M K → K.1 3 0 = sgK (sgV c (hrF f n (p + 1))) → K.1 3 1 = M.1 3 1 → K.1 3 6 = nI (if 256 ≤ sgV c (hrF f n (p + 1)) then p + 2 else p + 1) → Q none ly K) : Mt G l mX8_readSign (1, 0, 0, false) [.ref 3, .int c] ly M Q := by
  refine Mt.of (lv := [some (.ref 3), some (.int c), none]) rfl ?_
  obtain ⟨h, hh⟩ : ∃ h, h = hrF f n (p + 1) := ⟨_, rfl⟩
  rw [← hh] at hQ
  refine Rn.aload_n dX8_readSign_0 rfl ?_
  refine Rn.dup dX8_readSign_1 rfl ?_
  refine Rn.getI dX8_readSign_2 fX8_43 rfl (xc3 hX) ?_
  refine Rn.topI (y := nI p) (hi.1) ?_
  refine Rn.iconstv (v := 1) dX8_readSign_5 ic_1 ?_
  refine Rn.iadd dX8_readSign_6 ?_
  refine Rn.topI (y := nI (p + 1)) (nI_add p 1) ?_
  refine Rn.putI dX8_readSign_7 fX8_43 rfl rfl rfl (xc3 hX) ?_
  refine Rn.aload_n dX8_readSign_10 rfl ?_
  refine Rn.aload_n dX8_readSign_11 rfl ?_
  refine Rn.getI dX8_readSign_12 fX8_43 rfl (xc3 hX) ?_
  refine Rn.callV1 dX8_readSign_15 vX8_52 (xc3 hX) (by decide) rfl (tX8_signAt (M := sI M 3 (upd (M.1 3) 6 (nI (p + 1)))) (n := n) (k := p + 1) (f := f) hn hf (by omega) hX) (by decide) ⟨(Nat.le_of_ble_eq_true rfl), (Nat.le_of_ble_eq_true rfl), (Nat.le_of_ble_eq_true rfl)⟩ (fun h => by cases h) (fun v1 ly1 M1 ⟨q1, q2, q3⟩ => ?_)
  rw [q1, q2, q3]
  refine Rn.topI (y := h) (hh.symm) ?_
  refine Rn.istore_n (lv' := [some (.ref 3), some (.int c), some (.int h)]) dX8_readSign_18 (by decide) rfl ?_
  refine Rn.iload_n dX8_readSign_19 rfl ?_
  refine Rn.bipushv (v := 60) dX8_readSign_20 bp_60 ?_
  by_cases c60 : c = 60
  · skip
    have c62 : ¬ c = 62 := fun e => absurd (c60.symm.trans e) (by decide)
    by_cases h61 : h = 61
    · skip
      have h62 : ¬ h = 62 := fun e => absurd (h61.symm.trans e) (by decide)
      refine Rn.icmp_ne dX8_readSign_22 (fun b1 => ?_) (fun b1 => ?_)
      · skip
        first | exact absurd c60 b1 | exact absurd b1 c60
      · skip
        refine Rn.iload_n dX8_readSign_25 rfl ?_
        refine Rn.bipushv (v := 61) dX8_readSign_26 bp_61 ?_
        refine Rn.icmp_ne dX8_readSign_28 (fun b2 => ?_) (fun b2 => ?_)
        · skip
          first | exact absurd h61 b2 | exact absurd b2 h61
        · skip
          refine Rn.aload_n dX8_readSign_31 rfl ?_
          refine Rn.bipushv (v := 26) dX8_readSign_32 bp_26 ?_
          refine Rn.putI dX8_readSign_34 fX8_56 rfl rfl rfl (xc3 hX) ?_
          refine Rn.meq (M2 := sI M 3 (upd (upd (M.1 3) 6 (nI (p + 1))) 0 26)) (sI_sI _ _ _ _) ?_
          refine Rn.aload_n dX8_readSign_37 rfl ?_
          refine Rn.dup dX8_readSign_38 rfl ?_
          refine Rn.getI dX8_readSign_39 fX8_43 rfl (xc3 hX) ?_
          refine Rn.iconstv (v := 1) dX8_readSign_42 ic_1 ?_
          refine Rn.iadd dX8_readSign_43 ?_
          refine Rn.topI (y := nI (p + 1 + 1)) (nI_add (p + 1) 1) ?_
          refine Rn.putI dX8_readSign_44 fX8_43 rfl rfl rfl (xc3 hX) ?_
          refine Rn.meq (M2 := sI M 3 (upd (upd (upd (M.1 3) 6 (nI (p + 1))) 0 26) 6 (nI (p + 1 + 1)))) (sI_sI _ _ _ _) ?_
          refine Rn.goto dX8_readSign_47 ?_
          have ev : sgV c h = 256 := by unfold sgV; rw [if_pos ⟨c60, h61⟩]
          refine Rn.vret dX8_readSign_120 rfl (hQ _ ⟨rfl, fun a a1 => sI_ne a1, fun j a1 => ?_⟩ ?_ rfl ?_)
          · show upd _ _ _ j = _
            repeat rw [pk_un (by omega)]
          · rw [ev]; rfl
          · rw [ev]
            first | rw [if_pos (by decide)]; rfl | rw [if_neg (Int32.not_le.mpr hc)]; rfl
    · skip
      by_cases h62 : h = 62
      · skip
        refine Rn.icmp_ne dX8_readSign_22 (fun b3 => ?_) (fun b3 => ?_)
        · skip
          first | exact absurd c60 b3 | exact absurd b3 c60
        · skip
          refine Rn.iload_n dX8_readSign_25 rfl ?_
          refine Rn.bipushv (v := 61) dX8_readSign_26 bp_61 ?_
          refine Rn.icmp_ne dX8_readSign_28 (fun b4 => ?_) (fun b4 => ?_)
          · skip
            refine Rn.iload_n dX8_readSign_50 rfl ?_
            refine Rn.bipushv (v := 60) dX8_readSign_51 bp_60 ?_
            refine Rn.icmp_ne dX8_readSign_53 (fun b5 => ?_) (fun b5 => ?_)
            · skip
              first | exact absurd c60 b5 | exact absurd b5 c60
            · skip
              refine Rn.iload_n dX8_readSign_56 rfl ?_
              refine Rn.bipushv (v := 62) dX8_readSign_57 bp_62 ?_
              refine Rn.icmp_ne dX8_readSign_59 (fun b6 => ?_) (fun b6 => ?_)
              · skip
                first | exact absurd h62 b6 | exact absurd b6 h62
              · skip
                refine Rn.aload_n dX8_readSign_62 rfl ?_
                refine Rn.bipushv (v := 28) dX8_readSign_63 bp_28 ?_
                refine Rn.putI dX8_readSign_65 fX8_56 rfl rfl rfl (xc3 hX) ?_
                refine Rn.meq (M2 := sI M 3 (upd (upd (M.1 3) 6 (nI (p + 1))) 0 28)) (sI_sI _ _ _ _) ?_
                refine Rn.aload_n dX8_readSign_68 rfl ?_
                refine Rn.dup dX8_readSign_69 rfl ?_
                refine Rn.getI dX8_readSign_70 fX8_43 rfl (xc3 hX) ?_
                refine Rn.iconstv (v := 1) dX8_readSign_73 ic_1 ?_
                refine Rn.iadd dX8_readSign_74 ?_
                refine Rn.topI (y := nI (p + 1 + 1)) (nI_add (p + 1) 1) ?_
                refine Rn.putI dX8_readSign_75 fX8_43 rfl rfl rfl (xc3 hX) ?_
                refine Rn.meq (M2 := sI M 3 (upd (upd (upd (M.1 3) 6 (nI (p + 1))) 0 28) 6 (nI (p + 1 + 1)))) (sI_sI _ _ _ _) ?_
                refine Rn.goto dX8_readSign_78 ?_
                have ev : sgV c h = 257 := by unfold sgV; rw [if_neg (fun e => h61 e.2), if_pos ⟨c60, h62⟩]
                refine Rn.vret dX8_readSign_120 rfl (hQ _ ⟨rfl, fun a a1 => sI_ne a1, fun j a1 => ?_⟩ ?_ rfl ?_)
                · show upd _ _ _ j = _
                  repeat rw [pk_un (by omega)]
                · rw [ev]; rfl
                · rw [ev]
                  first | rw [if_pos (by decide)]; rfl | rw [if_neg (Int32.not_le.mpr hc)]; rfl
          · skip
            first | exact absurd h61 b4 | exact absurd b4 h61
      · skip
        refine Rn.icmp_ne dX8_readSign_22 (fun b7 => ?_) (fun b7 => ?_)
        · skip
          first | exact absurd c60 b7 | exact absurd b7 c60
        · skip
          refine Rn.iload_n dX8_readSign_25 rfl ?_
          refine Rn.bipushv (v := 61) dX8_readSign_26 bp_61 ?_
          refine Rn.icmp_ne dX8_readSign_28 (fun b8 => ?_) (fun b8 => ?_)
          · skip
            refine Rn.iload_n dX8_readSign_50 rfl ?_
            refine Rn.bipushv (v := 60) dX8_readSign_51 bp_60 ?_
            refine Rn.icmp_ne dX8_readSign_53 (fun b9 => ?_) (fun b9 => ?_)
            · skip
              first | exact absurd c60 b9 | exact absurd b9 c60
            · skip
              refine Rn.iload_n dX8_readSign_56 rfl ?_
              refine Rn.bipushv (v := 62) dX8_readSign_57 bp_62 ?_
              refine Rn.icmp_ne dX8_readSign_59 (fun b10 => ?_) (fun b10 => ?_)
              · skip
                refine Rn.iload_n dX8_readSign_81 rfl ?_
                refine Rn.bipushv (v := 62) dX8_readSign_82 bp_62 ?_
                refine Rn.icmp_ne dX8_readSign_84 (fun b11 => ?_) (fun b11 => ?_)
                · skip
                  refine Rn.aload_n dX8_readSign_112 rfl ?_
                  refine Rn.iload_n dX8_readSign_113 rfl ?_
                  refine Rn.callS1 dX8_readSign_114 vX8_86 (tX8_singleSign (x := c) hc) (by decide) ⟨(Nat.le_of_ble_eq_true rfl), (Nat.le_of_ble_eq_true rfl), (Nat.le_of_ble_eq_true rfl)⟩ (fun h => by cases h) (fun v1 ly1 M1 ⟨q1, q2, q3⟩ => ?_)
                  rw [q1, q2, q3]
                  refine Rn.putI dX8_readSign_117 fX8_56 rfl rfl rfl (xc3 hX) ?_
                  refine Rn.meq (M2 := sI M 3 (upd (upd (M.1 3) 6 (nI (p + 1))) 0 (sgK c))) (sI_sI _ _ _ _) ?_
                  have ev : sgV c h = c := by unfold sgV; rw [if_neg (fun e => h61 e.2), if_neg (fun e => h62 e.2), if_neg (fun e => h61 e.2)]
                  refine Rn.vret dX8_readSign_120 rfl (hQ _ ⟨rfl, fun a a1 => sI_ne a1, fun j a1 => ?_⟩ ?_ rfl ?_)
                  · show upd _ _ _ j = _
                    repeat rw [pk_un (by omega)]
                  · rw [ev]; rfl
                  · rw [ev]
                    first | rw [if_pos (by decide)]; rfl | rw [if_neg (Int32.not_le.mpr hc)]; rfl
                · skip
                  first | exact absurd c62 b11 | exact absurd b11 c62
              · skip
                first | exact absurd h62 b10 | exact absurd b10 h62
          · skip
            first | exact absurd h61 b8 | exact absurd b8 h61
  · skip
    by_cases c62 : c = 62
    · skip
      by_cases h61 : h = 61
      · skip
        refine Rn.icmp_ne dX8_readSign_22 (fun b12 => ?_) (fun b12 => ?_)
        · skip
          refine Rn.iload_n dX8_readSign_50 rfl ?_
          refine Rn.bipushv (v := 60) dX8_readSign_51 bp_60 ?_
          refine Rn.icmp_ne dX8_readSign_53 (fun b13 => ?_) (fun b13 => ?_)
          · skip
            refine Rn.iload_n dX8_readSign_81 rfl ?_
            refine Rn.bipushv (v := 62) dX8_readSign_82 bp_62 ?_
            refine Rn.icmp_ne dX8_readSign_84 (fun b14 => ?_) (fun b14 => ?_)
            · skip
              first | exact absurd c62 b14 | exact absurd b14 c62
            · skip
              refine Rn.iload_n dX8_readSign_87 rfl ?_
              refine Rn.bipushv (v := 61) dX8_readSign_88 bp_61 ?_
              refine Rn.icmp_ne dX8_readSign_90 (fun b15 => ?_) (fun b15 => ?_)
              · skip
                first | exact absurd h61 b15 | exact absurd b15 h61
              · skip
                refine Rn.aload_n dX8_readSign_93 rfl ?_
                refine Rn.bipushv (v := 29) dX8_readSign_94 bp_29 ?_
                refine Rn.putI dX8_readSign_96 fX8_56 rfl rfl rfl (xc3 hX) ?_
                refine Rn.meq (M2 := sI M 3 (upd (upd (M.1 3) 6 (nI (p + 1))) 0 29)) (sI_sI _ _ _ _) ?_
                refine Rn.aload_n dX8_readSign_99 rfl ?_
                refine Rn.dup dX8_readSign_100 rfl ?_
                refine Rn.getI dX8_readSign_101 fX8_43 rfl (xc3 hX) ?_
                refine Rn.iconstv (v := 1) dX8_readSign_104 ic_1 ?_
                refine Rn.iadd dX8_readSign_105 ?_
                refine Rn.topI (y := nI (p + 1 + 1)) (nI_add (p + 1) 1) ?_
                refine Rn.putI dX8_readSign_106 fX8_43 rfl rfl rfl (xc3 hX) ?_
                refine Rn.meq (M2 := sI M 3 (upd (upd (upd (M.1 3) 6 (nI (p + 1))) 0 29) 6 (nI (p + 1 + 1)))) (sI_sI _ _ _ _) ?_
                refine Rn.goto dX8_readSign_109 ?_
                have ev : sgV c h = 258 := by unfold sgV; rw [if_neg (fun e => c60 e.1), if_neg (fun e => c60 e.1), if_pos ⟨c62, h61⟩]
                refine Rn.vret dX8_readSign_120 rfl (hQ _ ⟨rfl, fun a a1 => sI_ne a1, fun j a1 => ?_⟩ ?_ rfl ?_)
                · show upd _ _ _ j = _
                  repeat rw [pk_un (by omega)]
                · rw [ev]; rfl
                · rw [ev]
                  first | rw [if_pos (by decide)]; rfl | rw [if_neg (Int32.not_le.mpr hc)]; rfl
          · skip
            first | exact absurd c60 b13 | exact absurd b13 c60
        · skip
          first | exact absurd c60 b12 | exact absurd b12 c60
      · skip
        refine Rn.icmp_ne dX8_readSign_22 (fun b16 => ?_) (fun b16 => ?_)
        · skip
          refine Rn.iload_n dX8_readSign_50 rfl ?_
          refine Rn.bipushv (v := 60) dX8_readSign_51 bp_60 ?_
          refine Rn.icmp_ne dX8_readSign_53 (fun b17 => ?_) (fun b17 => ?_)
          · skip
            refine Rn.iload_n dX8_readSign_81 rfl ?_
            refine Rn.bipushv (v := 62) dX8_readSign_82 bp_62 ?_
            refine Rn.icmp_ne dX8_readSign_84 (fun b18 => ?_) (fun b18 => ?_)
            · skip
              first | exact absurd c62 b18 | exact absurd b18 c62
            · skip
              refine Rn.iload_n dX8_readSign_87 rfl ?_
              refine Rn.bipushv (v := 61) dX8_readSign_88 bp_61 ?_
              refine Rn.icmp_ne dX8_readSign_90 (fun b19 => ?_) (fun b19 => ?_)
              · skip
                refine Rn.aload_n dX8_readSign_112 rfl ?_
                refine Rn.iload_n dX8_readSign_113 rfl ?_
                refine Rn.callS1 dX8_readSign_114 vX8_86 (tX8_singleSign (x := c) hc) (by decide) ⟨(Nat.le_of_ble_eq_true rfl), (Nat.le_of_ble_eq_true rfl), (Nat.le_of_ble_eq_true rfl)⟩ (fun h => by cases h) (fun v1 ly1 M1 ⟨q1, q2, q3⟩ => ?_)
                rw [q1, q2, q3]
                refine Rn.putI dX8_readSign_117 fX8_56 rfl rfl rfl (xc3 hX) ?_
                refine Rn.meq (M2 := sI M 3 (upd (upd (M.1 3) 6 (nI (p + 1))) 0 (sgK c))) (sI_sI _ _ _ _) ?_
                have ev : sgV c h = c := by unfold sgV; rw [if_neg (fun e => c60 e.1), if_neg (fun e => c60 e.1), if_neg (fun e => h61 e.2)]
                refine Rn.vret dX8_readSign_120 rfl (hQ _ ⟨rfl, fun a a1 => sI_ne a1, fun j a1 => ?_⟩ ?_ rfl ?_)
                · show upd _ _ _ j = _
                  repeat rw [pk_un (by omega)]
                · rw [ev]; rfl
                · rw [ev]
                  first | rw [if_pos (by decide)]; rfl | rw [if_neg (Int32.not_le.mpr hc)]; rfl
              · skip
                first | exact absurd h61 b19 | exact absurd b19 h61
          · skip
            first | exact absurd c60 b17 | exact absurd b17 c60
        · skip
          first | exact absurd c60 b16 | exact absurd b16 c60
    · skip
      refine Rn.icmp_ne dX8_readSign_22 (fun b20 => ?_) (fun b20 => ?_)
      · skip
        refine Rn.iload_n dX8_readSign_50 rfl ?_
        refine Rn.bipushv (v := 60) dX8_readSign_51 bp_60 ?_
        refine Rn.icmp_ne dX8_readSign_53 (fun b21 => ?_) (fun b21 => ?_)
        · skip
          refine Rn.iload_n dX8_readSign_81 rfl ?_
          refine Rn.bipushv (v := 62) dX8_readSign_82 bp_62 ?_
          refine Rn.icmp_ne dX8_readSign_84 (fun b22 => ?_) (fun b22 => ?_)
          · skip
            refine Rn.aload_n dX8_readSign_112 rfl ?_
            refine Rn.iload_n dX8_readSign_113 rfl ?_
            refine Rn.callS1 dX8_readSign_114 vX8_86 (tX8_singleSign (x := c) hc) (by decide) ⟨(Nat.le_of_ble_eq_true rfl), (Nat.le_of_ble_eq_true rfl), (Nat.le_of_ble_eq_true rfl)⟩ (fun h => by cases h) (fun v1 ly1 M1 ⟨q1, q2, q3⟩ => ?_)
            rw [q1, q2, q3]
            refine Rn.putI dX8_readSign_117 fX8_56 rfl rfl rfl (xc3 hX) ?_
            refine Rn.meq (M2 := sI M 3 (upd (upd (M.1 3) 6 (nI (p + 1))) 0 (sgK c))) (sI_sI _ _ _ _) ?_
            have ev : sgV c h = c := by unfold sgV; rw [if_neg (fun e => c60 e.1), if_neg (fun e => c60 e.1), if_neg (fun e => c62 e.1)]
            refine Rn.vret dX8_readSign_120 rfl (hQ _ ⟨rfl, fun a a1 => sI_ne a1, fun j a1 => ?_⟩ ?_ rfl ?_)
            · show upd _ _ _ j = _
              repeat rw [pk_un (by omega)]
            · rw [ev]; rfl
            · rw [ev]
              first | rw [if_pos (by decide)]; rfl | rw [if_neg (Int32.not_le.mpr hc)]; rfl
          · skip
            first | exact absurd c62 b22 | exact absurd b22 c62
        · skip
          first | exact absurd c60 b21 | exact absurd b21 c60
      · skip
        first | exact absurd c60 b20 | exact absurd b20 c60
/-- what the class's reader has of the token at p -/
def kdA (M K : Mm) (f : Nat → Int32) (n p : Nat) : Prop := (n ≤ p → K.1 3 0 = 40) ∧ (p < n → isS (f p) = true → K.1 3 0 = (if 6 < scN isS f (n - p) p - p then 41 else if wdF (fun j => decide (M.1 4 j = lbS f p (scN isS f (n - p) p - p))) 25 0 = -1 then 39 else wdF (fun j => decide (M.1 4 j = lbS f p (scN isS f (n - p) p - p))) 25 0) ∧ K.1 3 3 = lbS f p (scN isS f (n - p) p - p)) ∧ (p < n → ¬ isS (f p) = true → isD (f p) = true → K.1 3 0 = 38 ∧ K.1 3 2 = nmC f p (scN isD f (n - p) p - p)) ∧ (p < n → ¬ isS (f p) = true → ¬ isD (f p) = true → K.1 3 0 = sgK (sgV (f p) (hrF f n (p + 1))))
theorem tX8_advance {G : Gx} {l : Launch} {ly : Ly} {M : Mm} {n i : Nat} {f : Nat → Int32} (hn : M.1 3 5 = nI n ∧ n ≤ 700) (hi : M.1 3 6 = nI i ∧ i ≤ n) (hf : tpR (M.1 1) f n) (hby : byA f n) (hX : XW ly M.2.2) {Q : Qt} (hQ : ∀ K, xrF M K → K.1 3 1 = nI (tkP f n i) → K.1 3 6 = nI (nx f n i) → kdA M K f n (tkP f n i) → Q none ly K) : Mt G l mX8_advance (2, 0, 0, false) [.ref 3] ly M Q := by
  refine Mt.of (lv := [some (.ref 3), none]) rfl ?_
  have hP := tkP_le (f := f) hi.2
  obtain ⟨p, hp⟩ : ∃ p, p = tkP f n i := ⟨_, rfl⟩
  have hnx : nx f n i = (tkT f n p 0).1 := by rw [hp]; rfl
  rw [← hp] at hQ hP
  rw [hnx] at hQ
  have hpn : p ≤ n := hP.2
  have atP : ∀ KK : Mm, xrF M KK → KK.1 3 6 = nI p → Rn G l mX8_advance (2, 0, 0, false) 52 [some (.ref 3), none] [] ly KK Q := by
    intro KK hF h6
    have hXKK : XW ly KK.2.2 := by rw [hF.1]; exact hX
    have h5 : KK.1 3 5 = nI n := (hF.2.2 5 (by omega)).trans hn.1
    have e1 : KK.1 1 = M.1 1 := hF.2.1 1 (by decide)
    have hfK : tpR (KK.1 1) f n := by rw [e1]; exact hf
    refine Rn.aload_n dX8_advance_52 rfl ?_
    refine Rn.aload_n dX8_advance_53 rfl ?_
    refine Rn.getI dX8_advance_54 fX8_43 rfl (xc3 hXKK) ?_
    refine Rn.topI (y := nI p) (h6) ?_
    refine Rn.putI dX8_advance_57 fX8_49 rfl rfl rfl (xc3 hXKK) ?_
    refine Rn.aload_n dX8_advance_60 rfl ?_
    refine Rn.aload_n dX8_advance_61 rfl ?_
    refine Rn.getI dX8_advance_62 fX8_43 rfl (xc3 hXKK) ?_
    refine Rn.topI (y := nI p) (h6) ?_
    refine Rn.callV1 dX8_advance_65 vX8_52 (xc3 hXKK) (by decide) rfl (tX8_signAt (M := sI KK 3 (upd (KK.1 3) 1 (nI p))) (n := n) (k := p) (f := f) ⟨h5, hn.2⟩ hfK (by omega) hXKK) (by decide) ⟨(Nat.le_of_ble_eq_true rfl), (Nat.le_of_ble_eq_true rfl), (Nat.le_of_ble_eq_true rfl)⟩ (fun h => by cases h) (fun v1 ly1 M1 ⟨q1, q2, q3⟩ => ?_)
    rw [q1, q2, q3]
    by_cases hlt : p < n
    · skip
      rw [show hrF f n p = f p from if_pos hlt]
      refine Rn.istore_n (lv' := [some (.ref 3), some (.int (f p))]) dX8_advance_68 (by decide) rfl ?_
      refine Rn.iload_n dX8_advance_69 rfl ?_
      refine Rn.iconstv (v := -1) dX8_advance_70 ic_m1 ?_
      refine Rn.icmp_ne dX8_advance_71 (fun g1 => ?_) (fun g1 => ?_)
      · skip
        refine Rn.iload_n dX8_advance_83 rfl ?_
        refine Rn.callS1 dX8_advance_84 vX8_59 (tX8_isLetter) (by decide) ⟨(Nat.le_of_ble_eq_true rfl), (Nat.le_of_ble_eq_true rfl), (Nat.le_of_ble_eq_true rfl)⟩ (fun h => by cases h) (fun v1 ly1 M1 ⟨q1, q2, q3⟩ => ?_)
        rw [q1, q2, q3]
        refine Rn.if_eq dX8_advance_87 (fun g2 => ?_) (fun g2 => ?_)
        · skip
          have hsm : ¬ isS (f p) = true := inS.elim (fun h => h.2) (fun h => absurd (h.1.symm.trans g2) (by decide))
          refine Rn.iload_n dX8_advance_97 rfl ?_
          refine Rn.callS1 dX8_advance_98 vX8_66 (tX8_isDigit) (by decide) ⟨(Nat.le_of_ble_eq_true rfl), (Nat.le_of_ble_eq_true rfl), (Nat.le_of_ble_eq_true rfl)⟩ (fun h => by cases h) (fun v1 ly1 M1 ⟨q1, q2, q3⟩ => ?_)
          rw [q1, q2, q3]
          refine Rn.if_eq dX8_advance_101 (fun g3 => ?_) (fun g3 => ?_)
          · skip
            have hdg : ¬ isD (f p) = true := inD.elim (fun h => h.2) (fun h => absurd (h.1.symm.trans g3) (by decide))
            have hT : (tkT f n p 0).1 = if 256 ≤ sgV (f p) (hrF f n (p + 1)) then p + 2 else p + 1 := by unfold tkT; rw [if_neg (by omega), if_neg hsm, if_neg hdg]
            refine Rn.aload_n dX8_advance_111 rfl ?_
            refine Rn.iload_n dX8_advance_112 rfl ?_
            refine Rn.callV1 dX8_advance_113 vX8_72 (xc3 hXKK) (by decide) rfl (tX8_readSign (M := sI KK 3 (upd (KK.1 3) 1 (nI p))) (n := n) (p := p) (c := f p) (f := f) (Q := fun v0 ly0 K => v0 = none ∧ ly0 = ly ∧ xrF (sI KK 3 (upd (KK.1 3) 1 (nI p))) K ∧ K.1 3 1 = nI p ∧ K.1 3 6 = nI (tkT f n p 0).1 ∧ kdA M K f n p) ⟨h5, hn.2⟩ ⟨h6, hlt⟩ hfK (hby p hlt).2 hXKK (fun K t1 t2 t3 t4 => ⟨rfl, rfl, t1, t3, by rw [hT]; exact t4, fun h => absurd h (by omega), fun _ h => absurd h hsm, fun _ _ h => absurd h hdg, fun _ _ _ => t2⟩)) (by decide) ⟨(Nat.le_of_ble_eq_true rfl), (Nat.le_of_ble_eq_true rfl), (Nat.le_of_ble_eq_true rfl)⟩ (fun h => by cases h) (fun v1 ly1 N2 ⟨q1, q2, t1, t2, t3, t4⟩ => ?_)
            rw [q1, q2]
            exact Rn.vret dX8_advance_116 rfl (hQ N2 ((hF.r (fun j hj => pk_un (by omega))).tr t1) t2 t3 t4)
          · skip
            have hdg : isD (f p) = true := inD.elim (fun h => absurd h.1 g3) (fun h => h.2)
            have hT : (tkT f n p 0).1 = scN isD f (n - p) p := by unfold tkT; rw [if_neg (by omega), if_neg hsm, if_pos hdg]
            refine Rn.aload_n dX8_advance_104 rfl ?_
            refine Rn.callV0 dX8_advance_105 vX8_69 (xc3 hXKK) (by decide) rfl (tX8_readNumber (M := sI KK 3 (upd (KK.1 3) 1 (nI p))) (n := n) (p := p) (f := f) (Q := fun v0 ly0 K => v0 = none ∧ ly0 = ly ∧ xrF (sI KK 3 (upd (KK.1 3) 1 (nI p))) K ∧ K.1 3 1 = nI p ∧ K.1 3 6 = nI (tkT f n p 0).1 ∧ kdA M K f n p) ⟨h5, hn.2⟩ ⟨h6, hpn⟩ hfK hXKK (fun K t1 t2 t3 t4 t5 => ⟨rfl, rfl, t1, t3, by rw [hT]; exact t5, fun h => absurd h (by omega), fun _ h => absurd h hsm, fun _ _ _ => ⟨t2, t4⟩, fun _ _ h => absurd hdg h⟩)) (by decide) ⟨(Nat.le_of_ble_eq_true rfl), (Nat.le_of_ble_eq_true rfl), (Nat.le_of_ble_eq_true rfl)⟩ (fun h => by cases h) (fun v1 ly1 N2 ⟨q1, q2, t1, t2, t3, t4⟩ => ?_)
            rw [q1, q2]
            refine Rn.goto dX8_advance_108 ?_
            exact Rn.vret dX8_advance_116 rfl (hQ N2 ((hF.r (fun j hj => pk_un (by omega))).tr t1) t2 t3 t4)
        · skip
          have hsm : isS (f p) = true := inS.elim (fun h => absurd h.1 g2) (fun h => h.2)
          have hT : (tkT f n p 0).1 = scN isS f (n - p) p := by
            unfold tkT
            rw [if_neg (by omega), if_pos hsm]
            split
            · rfl
            · split <;> rfl
          have e4 : KK.1 4 = M.1 4 := hF.2.1 4 (by decide)
          refine Rn.aload_n dX8_advance_90 rfl ?_
          refine Rn.callV0 dX8_advance_91 vX8_63 (xc3 hXKK) (by decide) rfl (tX8_readWord (M := sI KK 3 (upd (KK.1 3) 1 (nI p))) (n := n) (p := p) (f := f) (Q := fun v0 ly0 K => v0 = none ∧ ly0 = ly ∧ xrF (sI KK 3 (upd (KK.1 3) 1 (nI p))) K ∧ K.1 3 1 = nI p ∧ K.1 3 6 = nI (tkT f n p 0).1 ∧ kdA M K f n p) ⟨h5, hn.2⟩ ⟨h6, hpn⟩ hfK rfl hXKK (fun K t1 t2 t3 t4 t5 => ⟨rfl, rfl, t1, t3, by rw [hT]; exact t5, fun h => absurd h (by omega), fun _ _ => ⟨by rw [t2, show (sI KK 3 (upd (KK.1 3) 1 (nI p))).1 4 = M.1 4 from e4], t4⟩, fun _ h => absurd hsm h, fun _ h => absurd hsm h⟩)) (by decide) ⟨(Nat.le_of_ble_eq_true rfl), (Nat.le_of_ble_eq_true rfl), (Nat.le_of_ble_eq_true rfl)⟩ (fun h => by cases h) (fun v1 ly1 N2 ⟨q1, q2, t1, t2, t3, t4⟩ => ?_)
          rw [q1, q2]
          refine Rn.goto dX8_advance_94 ?_
          exact Rn.vret dX8_advance_116 rfl (hQ N2 ((hF.r (fun j hj => pk_un (by omega))).tr t1) t2 t3 t4)
      · skip
        exact absurd (hby p hlt).1 (by rw [show f p = -1 from g1]; decide)
    · skip
      rw [show hrF f n p = -1 from if_neg hlt]
      refine Rn.istore_n (lv' := [some (.ref 3), some (.int (-1))]) dX8_advance_68 (by decide) rfl ?_
      refine Rn.iload_n dX8_advance_69 rfl ?_
      refine Rn.iconstv (v := -1) dX8_advance_70 ic_m1 ?_
      refine Rn.icmp_ne dX8_advance_71 (fun g1 => ?_) (fun g1 => ?_)
      · skip
        exact absurd rfl g1
      · skip
        have hT : (tkT f n p 0).1 = p := by unfold tkT; rw [if_pos (by omega)]
        refine Rn.aload_n dX8_advance_74 rfl ?_
        refine Rn.bipushv (v := 40) dX8_advance_75 bp_40 ?_
        refine Rn.putI dX8_advance_77 fX8_56 rfl rfl rfl (xc3 hXKK) ?_
        refine Rn.meq (M2 := sI KK 3 (upd (upd (KK.1 3) 1 (nI p)) 0 40)) (sI_sI _ _ _ _) ?_
        refine Rn.goto dX8_advance_80 ?_
        exact Rn.vret dX8_advance_116 rfl (hQ _ (hF.r (fun j hj => (pk_un (by omega)).trans (pk_un (by omega)))) rfl (by rw [hT]; exact h6) ⟨fun _ => rfl, fun h => absurd h hlt, fun h => absurd h hlt, fun h => absurd h hlt⟩)
  have sp : ∀ (g k : Nat) (KK : Mm), k + g = n → p = scN isB f g k → xrF M KK → KK.1 3 6 = nI k → Rn G l mX8_advance (2, 0, 0, false) 0 [some (.ref 3), none] [] ly KK Q := by
    intro g
    induction g with
    | zero =>
      intro k KK hk he hF h6
      have hXKK : XW ly KK.2.2 := by rw [hF.1]; exact hX
      have e1 : KK.1 1 = M.1 1 := hF.2.1 1 (by decide)
      refine Rn.aload_n dX8_advance_0 rfl ?_
      refine Rn.getI dX8_advance_1 fX8_43 rfl (xc3 hXKK) ?_
      refine Rn.topI (y := nI k) (h6) ?_
      refine Rn.aload_n dX8_advance_4 rfl ?_
      refine Rn.getI dX8_advance_5 fX8_40 rfl (xc3 hXKK) ?_
      refine Rn.topI (y := nI n) ((hF.2.2 5 (by omega)).trans hn.1) ?_
      refine Rn.icmp_ge dX8_advance_8 (fun g0 => ?_) (fun g0 => ?_)
      · skip
        have ek : p = k := he
        exact atP KK hF (by rw [ek]; exact h6)
      · skip
        exact absurd (nI_le (a := n) (b := k) (by omega) (by omega)) g0
    | succ g ih =>
      intro k KK hk he hF h6
      have hXKK : XW ly KK.2.2 := by rw [hF.1]; exact hX
      have e1 : KK.1 1 = M.1 1 := hF.2.1 1 (by decide)
      refine Rn.aload_n dX8_advance_0 rfl ?_
      refine Rn.getI dX8_advance_1 fX8_43 rfl (xc3 hXKK) ?_
      refine Rn.topI (y := nI k) (h6) ?_
      refine Rn.aload_n dX8_advance_4 rfl ?_
      refine Rn.getI dX8_advance_5 fX8_40 rfl (xc3 hXKK) ?_
      refine Rn.topI (y := nI n) ((hF.2.2 5 (by omega)).trans hn.1) ?_
      refine Rn.icmp_ge dX8_advance_8 (fun g0 => ?_) (fun g0 => ?_)
      · skip
        exact absurd g0 (nI_ge (a := k) (b := n) (by omega) (by omega))
      · skip
        have hlt : k < n := by omega
        have hs2 : scN isB f (g + 1) k = if isB (f k) = true then scN isB f g (k + 1) else k := rfl
        refine Rn.aload_n dX8_advance_11 rfl ?_
        refine Rn.getR dX8_advance_12 fX8_15 rfl (xc3 hXKK) (show KK.2.2 3 4 = some 1 from (xp3_4 hXKK)) ?_
        refine Rn.aload_n dX8_advance_15 rfl ?_
        refine Rn.getI dX8_advance_16 fX8_43 rfl (xc3 hXKK) ?_
        refine Rn.topI (y := nI k) (h6) ?_
        refine Rn.baldN (k0 := k) dX8_advance_19 (xc1 hXKK) (by omega) (by decide) ?_
        refine Rn.topI (y := M.1 1 k) (congrFun e1 k) ?_
        refine Rn.bipushv (v := 10) dX8_advance_20 bp_10 ?_
        refine Rn.icmp_eq dX8_advance_22 (fun g1 => ?_) (fun g1 => ?_)
        · skip
          refine Rn.aload_n dX8_advance_39 rfl ?_
          refine Rn.dup dX8_advance_40 rfl ?_
          refine Rn.getI dX8_advance_41 fX8_43 rfl (xc3 hXKK) ?_
          refine Rn.topI (y := nI k) (h6) ?_
          refine Rn.iconstv (v := 1) dX8_advance_44 ic_1 ?_
          refine Rn.iadd dX8_advance_45 ?_
          refine Rn.topI (y := nI (k + 1)) (nI_add k 1) ?_
          refine Rn.putI dX8_advance_46 fX8_43 rfl rfl rfl (xc3 hXKK) ?_
          refine Rn.goto dX8_advance_49 ?_
          exact ih (k + 1) _ (by omega) (by rw [he, hs2, if_pos (isB_or.mpr (Or.inl ((hf.eqS hlt (by decide)).mp g1)))]) (hF.r (fun j hj => pk_un (by omega))) rfl
        · skip
          refine Rn.aload_n dX8_advance_25 rfl ?_
          refine Rn.getR dX8_advance_26 fX8_15 rfl (xc3 hXKK) (show KK.2.2 3 4 = some 1 from (xp3_4 hXKK)) ?_
          refine Rn.aload_n dX8_advance_29 rfl ?_
          refine Rn.getI dX8_advance_30 fX8_43 rfl (xc3 hXKK) ?_
          refine Rn.topI (y := nI k) (h6) ?_
          refine Rn.baldN (k0 := k) dX8_advance_33 (xc1 hXKK) (by omega) (by decide) ?_
          refine Rn.topI (y := M.1 1 k) (congrFun e1 k) ?_
          refine Rn.bipushv (v := 32) dX8_advance_34 bp_32 ?_
          refine Rn.icmp_ne dX8_advance_36 (fun g2 => ?_) (fun g2 => ?_)
          · skip
            have ek : p = k := by rw [he, hs2, if_neg (fun h => (isB_or.mp h).elim (fun h => g1 ((hf.eqS hlt (by decide)).mpr h)) (fun h => g2 ((hf.eqS hlt (by decide)).mpr h)))]
            exact atP KK hF (by rw [ek]; exact h6)
          · skip
            refine Rn.aload_n dX8_advance_39 rfl ?_
            refine Rn.dup dX8_advance_40 rfl ?_
            refine Rn.getI dX8_advance_41 fX8_43 rfl (xc3 hXKK) ?_
            refine Rn.topI (y := nI k) (h6) ?_
            refine Rn.iconstv (v := 1) dX8_advance_44 ic_1 ?_
            refine Rn.iadd dX8_advance_45 ?_
            refine Rn.topI (y := nI (k + 1)) (nI_add k 1) ?_
            refine Rn.putI dX8_advance_46 fX8_43 rfl rfl rfl (xc3 hXKK) ?_
            refine Rn.goto dX8_advance_49 ?_
            exact ih (k + 1) _ (by omega) (by rw [he, hs2, if_pos (isB_or.mpr (Or.inr ((hf.eqS hlt (by decide)).mp g2)))]) (hF.r (fun j hj => pk_un (by omega))) rfl
  exact sp (n - i) i M (by have := hi.2; omega) hp xrF.rf hi.1
