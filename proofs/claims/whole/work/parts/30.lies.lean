/-- the spots next -/
def nxS (n k : Nat) (a : Nat × Nat × Nat) : Option (Nat × Nat × Nat) := match k with
  | 0 => none
  | 1 => if a.1 + 1 < n then some (a.1 + 1, a.2.1, a.2.2) else none
  | 2 => if a.2.1 + 1 < n then some (a.1, a.2.1 + 1, a.2.2) else if a.1 + 1 < n then some (a.1 + 1, a.1 + 1, a.2.2) else none
  | _ => if a.2.2 + 1 < n then some (a.1, a.2.1, a.2.2 + 1) else if a.2.1 + 1 < n then some (a.1, a.2.1 + 1, a.2.1 + 1) else if a.1 + 1 < n then some (a.1 + 1, a.1 + 1, a.1 + 1) else none
def gt3 (a : Nat × Nat × Nat) (j : Nat) : Nat := if j = 0 then a.1 else if j = 1 then a.2.1 else a.2.2
def row3 (f : Nat → Int32) (a : Nat × Nat × Nat) : Prop := ∀ j, j < 3 → f j = nI (gt3 a j)
theorem row3.up {f : Nat → Int32} {a b : Nat × Nat × Nat} (h0 : f 0 = nI b.1) (h1 : f 1 = nI b.2.1) (h2 : f 2 = nI b.2.2) : row3 f b := by
  intro j hj
  match j, hj with
  | 0, _ => exact h0
  | 1, _ => exact h1
  | 2, _ => exact h2
theorem n1_le {n x : Nat} (h2 : 2 ≤ n) (h12 : n ≤ 12) (hx : x < n) : nI n - 1 ≤ nI x ↔ ¬ x + 1 < n := by
  obtain ⟨m, rfl⟩ : ∃ m, n = m + 1 := ⟨n - 1, by omega⟩
  rw [show nI (m + 1) - 1 = nI m by rw [← nI_1]; exact Int32.add_sub_cancel _ _, nI_leI (by omega) (by omega)]
  omega
theorem tX11_nextSpots0 {G : Gx} {l : Launch} {ly : Ly} {M : Mm} {pl n nw nu nv : Nat} {a : Nat × Nat × Nat} (hXS : XS ly M pl n nw nu nv) (hr : row3 (M.1 147) a) (ha : a.1 < n ∧ a.2.1 < n ∧ a.2.2 < n) {Q : Qt} (hQ : (nxS n 0 a = none → Q (some (.int 0)) ly M) ∧ (∀ b f, nxS n 0 a = some b → row3 f b → Q (some (.int 1)) ly (sI M 147 f))) : Mt G l mX11_nextSpots (1, 0, 0, false) [.ref 0, .int 0] ly M Q := by
  have hXS0 := hXS
  obtain ⟨hX, hpl, hp7, ⟨n0, n1, n2, n3⟩, ⟨hn, hn2, hn12⟩, ⟨hw1, hw2, hw6⟩, ⟨hu1, hu2, hv1, hv2⟩, hgl, hbb⟩ := hXS
  refine Mt.of (lv := [some (.ref 0), some (.int 0), none, none, none]) rfl ?_
  refine Rn.iload_n dX11_nextSpots_0 rfl ?_
  refine Rn.iconstv (v := 1) dX11_nextSpots_1 ic_1 ?_
  refine Rn.isub dX11_nextSpots_2 ?_
  show Rn G l mX11_nextSpots (1, 0, 0, false) 3 [some (.ref 0), some (.int 0), none, none, none] [.int (-1)] ly M Q
  refine Rn.istore_n (lv' := [some (.ref 0), some (.int 0), some (.int (-1)), none, none]) dX11_nextSpots_3 (by decide) rfl ?_
  refine Rn.iload_n dX11_nextSpots_4 rfl ?_
  refine Rn.if_lt dX11_nextSpots_5 (fun hl => ?_) (fun hl => ?_)
  · skip
    refine Rn.iconstv (v := 0) dX11_nextSpots_66 ic_0 ?_
    exact Rn.iret (ty := .boolean) dX11_nextSpots_67 rfl rfl (hQ.1 (rfl))
  · skip
    exact absurd (by decide) hl
theorem tX11_nextSpots1 {G : Gx} {l : Launch} {ly : Ly} {M : Mm} {pl n nw nu nv : Nat} {a : Nat × Nat × Nat} (hXS : XS ly M pl n nw nu nv) (hr : row3 (M.1 147) a) (ha : a.1 < n ∧ a.2.1 < n ∧ a.2.2 < n) {Q : Qt} (hQ : (nxS n 1 a = none → Q (some (.int 0)) ly M) ∧ (∀ b f, nxS n 1 a = some b → row3 f b → Q (some (.int 1)) ly (sI M 147 f))) : Mt G l mX11_nextSpots (1, 0, 0, false) [.ref 0, .int 1] ly M Q := by
  have hXS0 := hXS
  obtain ⟨hX, hpl, hp7, ⟨n0, n1, n2, n3⟩, ⟨hn, hn2, hn12⟩, ⟨hw1, hw2, hw6⟩, ⟨hu1, hu2, hv1, hv2⟩, hgl, hbb⟩ := hXS
  refine Mt.of (lv := [some (.ref 0), some (.int 1), none, none, none]) rfl ?_
  refine Rn.iload_n dX11_nextSpots_0 rfl ?_
  refine Rn.iconstv (v := 1) dX11_nextSpots_1 ic_1 ?_
  refine Rn.isub dX11_nextSpots_2 ?_
  show Rn G l mX11_nextSpots (1, 0, 0, false) 3 [some (.ref 0), some (.int 1), none, none, none] [.int 0] ly M Q
  refine Rn.istore_n (lv' := [some (.ref 0), some (.int 1), some (.int 0), none, none]) dX11_nextSpots_3 (by decide) rfl ?_
  refine Rn.iload_n dX11_nextSpots_4 rfl ?_
  refine Rn.if_lt dX11_nextSpots_5 (fun hl => ?_) (fun hl => ?_)
  · skip
    exact absurd hl (by decide)
  · skip
    refine Rn.aload_n dX11_nextSpots_8 rfl ?_
    refine Rn.getR dX11_nextSpots_9 fX11_84 rfl (xc0 hX) (show M.2.2 0 15 = some 147 from (xp0_15 hX)) ?_
    refine Rn.iload_n dX11_nextSpots_12 rfl ?_
    refine Rn.iald dX11_nextSpots_13 (xc147 hX) (by unfold vp_in; decide) ?_
    refine Rn.topI (y := M.1 147 0) (rfl) ?_
    refine Rn.topI (y := nI a.1) (hr 0 (by decide)) ?_
    refine Rn.aload_n dX11_nextSpots_14 rfl ?_
    refine Rn.getR dX11_nextSpots_15 fX11_27 rfl (xc0 hX) (show M.2.2 0 3 = some pl from hpl) ?_
    refine Rn.getI dX11_nextSpots_18 fX11_209 rfl (pc0 hX hp7) ?_
    refine Rn.topI (y := nI n) (hn) ?_
    refine Rn.iconstv (v := 1) dX11_nextSpots_21 ic_1 ?_
    refine Rn.isub dX11_nextSpots_22 ?_
    refine Rn.icmp_ge dX11_nextSpots_23 (fun hc0 => ?_) (fun hc0 => ?_)
    · skip
      refine Rn.iincv (j' := -1) (lv' := [some (.ref 0), some (.int 1), some (.int (0 + (-1))), none, none]) dX11_nextSpots_60 rfl rfl (by decide) rfl ?_
      show Rn G l mX11_nextSpots (1, 0, 0, false) 63 [some (.ref 0), some (.int 1), some (.int (-1)), none, none] [] ly M Q
      refine Rn.goto dX11_nextSpots_63 ?_
      refine Rn.iload_n dX11_nextSpots_4 rfl ?_
      refine Rn.if_lt dX11_nextSpots_5 (fun hl => ?_) (fun hl => ?_)
      · skip
        refine Rn.iconstv (v := 0) dX11_nextSpots_66 ic_0 ?_
        rw [n1_le hn2 hn12 ha.1] at hc0
        exact Rn.iret (ty := .boolean) dX11_nextSpots_67 rfl rfl (hQ.1 (by unfold nxS; simp only []; rw [if_neg hc0]))
      · skip
        exact absurd (by decide) hl
    · skip
      refine Rn.aload_n dX11_nextSpots_26 rfl ?_
      refine Rn.getR dX11_nextSpots_27 fX11_84 rfl (xc0 hX) (show M.2.2 0 15 = some 147 from (xp0_15 hX)) ?_
      refine Rn.iload_n dX11_nextSpots_30 rfl ?_
      refine Rn.iald dX11_nextSpots_31 (xc147 hX) (by unfold vp_in; decide) ?_
      refine Rn.topI (y := M.1 147 0) (rfl) ?_
      refine Rn.topI (y := nI a.1) (hr 0 (by decide)) ?_
      refine Rn.iconstv (v := 1) dX11_nextSpots_32 ic_1 ?_
      refine Rn.iadd dX11_nextSpots_33 ?_
      refine Rn.istore_n (lv' := [some (.ref 0), some (.int 1), some (.int 0), some (.int ((nI a.1) + 1)), none]) dX11_nextSpots_34 (by decide) rfl ?_
      refine Rn.iload_n dX11_nextSpots_35 rfl ?_
      refine Rn.istore (lv' := [some (.ref 0), some (.int 1), some (.int 0), some (.int ((nI a.1) + 1)), some (.int 0)]) dX11_nextSpots_36 (by decide) rfl ?_
      refine Rn.iload dX11_nextSpots_38 rfl ?_
      refine Rn.iload_n dX11_nextSpots_40 rfl ?_
      refine Rn.icmp_ge dX11_nextSpots_41 (fun hl => ?_) (fun hl => ?_)
      · skip
        exact absurd hl (by decide)
      · skip
        refine Rn.aload_n dX11_nextSpots_44 rfl ?_
        refine Rn.getR dX11_nextSpots_45 fX11_84 rfl (xc0 hX) (show M.2.2 0 15 = some 147 from (xp0_15 hX)) ?_
        refine Rn.iload dX11_nextSpots_48 rfl ?_
        refine Rn.iload_n dX11_nextSpots_50 rfl ?_
        refine Rn.iast dX11_nextSpots_51 (xc147 hX) (by unfold vp_in; decide) ?_
        refine Rn.iincv (j' := 1) (lv' := [some (.ref 0), some (.int 1), some (.int 0), some (.int ((nI a.1) + 1)), some (.int (0 + 1))]) dX11_nextSpots_52 rfl rfl (by decide) rfl ?_
        show Rn G l mX11_nextSpots (1, 0, 0, false) 55 [some (.ref 0), some (.int 1), some (.int 0), some (.int ((nI a.1) + 1)), some (.int 1)] [] ly (sI M 147 (upd (M.1 147) 0 ((nI a.1) + 1))) Q
        refine Rn.goto dX11_nextSpots_55 ?_
        refine Rn.iload dX11_nextSpots_38 rfl ?_
        refine Rn.iload_n dX11_nextSpots_40 rfl ?_
        refine Rn.icmp_ge dX11_nextSpots_41 (fun hl => ?_) (fun hl => ?_)
        · skip
          refine Rn.iconstv (v := 1) dX11_nextSpots_58 ic_1 ?_
          rw [n1_le hn2 hn12 ha.1] at hc0
          exact Rn.iret (ty := .boolean) dX11_nextSpots_59 rfl rfl (hQ.2 (a.1 + 1, a.2.1, a.2.2) _ (by unfold nxS; simp only []; rw [if_pos (Decidable.of_not_not hc0)]) (row3.up (a := a) (nI_1 _) (hr 1 (by decide)) (hr 2 (by decide))))
        · skip
          exact absurd (by decide) hl
theorem tX11_nextSpots2 {G : Gx} {l : Launch} {ly : Ly} {M : Mm} {pl n nw nu nv : Nat} {a : Nat × Nat × Nat} (hXS : XS ly M pl n nw nu nv) (hr : row3 (M.1 147) a) (ha : a.1 < n ∧ a.2.1 < n ∧ a.2.2 < n) {Q : Qt} (hQ : (nxS n 2 a = none → Q (some (.int 0)) ly M) ∧ (∀ b f, nxS n 2 a = some b → row3 f b → Q (some (.int 1)) ly (sI M 147 f))) : Mt G l mX11_nextSpots (1, 0, 0, false) [.ref 0, .int 2] ly M Q := by
  have hXS0 := hXS
  obtain ⟨hX, hpl, hp7, ⟨n0, n1, n2, n3⟩, ⟨hn, hn2, hn12⟩, ⟨hw1, hw2, hw6⟩, ⟨hu1, hu2, hv1, hv2⟩, hgl, hbb⟩ := hXS
  refine Mt.of (lv := [some (.ref 0), some (.int 2), none, none, none]) rfl ?_
  refine Rn.iload_n dX11_nextSpots_0 rfl ?_
  refine Rn.iconstv (v := 1) dX11_nextSpots_1 ic_1 ?_
  refine Rn.isub dX11_nextSpots_2 ?_
  show Rn G l mX11_nextSpots (1, 0, 0, false) 3 [some (.ref 0), some (.int 2), none, none, none] [.int 1] ly M Q
  refine Rn.istore_n (lv' := [some (.ref 0), some (.int 2), some (.int 1), none, none]) dX11_nextSpots_3 (by decide) rfl ?_
  refine Rn.iload_n dX11_nextSpots_4 rfl ?_
  refine Rn.if_lt dX11_nextSpots_5 (fun hl => ?_) (fun hl => ?_)
  · skip
    exact absurd hl (by decide)
  · skip
    refine Rn.aload_n dX11_nextSpots_8 rfl ?_
    refine Rn.getR dX11_nextSpots_9 fX11_84 rfl (xc0 hX) (show M.2.2 0 15 = some 147 from (xp0_15 hX)) ?_
    refine Rn.iload_n dX11_nextSpots_12 rfl ?_
    refine Rn.iald dX11_nextSpots_13 (xc147 hX) (by unfold vp_in; decide) ?_
    refine Rn.topI (y := M.1 147 1) (rfl) ?_
    refine Rn.topI (y := nI a.2.1) (hr 1 (by decide)) ?_
    refine Rn.aload_n dX11_nextSpots_14 rfl ?_
    refine Rn.getR dX11_nextSpots_15 fX11_27 rfl (xc0 hX) (show M.2.2 0 3 = some pl from hpl) ?_
    refine Rn.getI dX11_nextSpots_18 fX11_209 rfl (pc0 hX hp7) ?_
    refine Rn.topI (y := nI n) (hn) ?_
    refine Rn.iconstv (v := 1) dX11_nextSpots_21 ic_1 ?_
    refine Rn.isub dX11_nextSpots_22 ?_
    refine Rn.icmp_ge dX11_nextSpots_23 (fun hc1 => ?_) (fun hc1 => ?_)
    · skip
      refine Rn.iincv (j' := -1) (lv' := [some (.ref 0), some (.int 2), some (.int (1 + (-1))), none, none]) dX11_nextSpots_60 rfl rfl (by decide) rfl ?_
      show Rn G l mX11_nextSpots (1, 0, 0, false) 63 [some (.ref 0), some (.int 2), some (.int 0), none, none] [] ly M Q
      refine Rn.goto dX11_nextSpots_63 ?_
      refine Rn.iload_n dX11_nextSpots_4 rfl ?_
      refine Rn.if_lt dX11_nextSpots_5 (fun hl => ?_) (fun hl => ?_)
      · skip
        exact absurd hl (by decide)
      · skip
        refine Rn.aload_n dX11_nextSpots_8 rfl ?_
        refine Rn.getR dX11_nextSpots_9 fX11_84 rfl (xc0 hX) (show M.2.2 0 15 = some 147 from (xp0_15 hX)) ?_
        refine Rn.iload_n dX11_nextSpots_12 rfl ?_
        refine Rn.iald dX11_nextSpots_13 (xc147 hX) (by unfold vp_in; decide) ?_
        refine Rn.topI (y := M.1 147 0) (rfl) ?_
        refine Rn.topI (y := nI a.1) (hr 0 (by decide)) ?_
        refine Rn.aload_n dX11_nextSpots_14 rfl ?_
        refine Rn.getR dX11_nextSpots_15 fX11_27 rfl (xc0 hX) (show M.2.2 0 3 = some pl from hpl) ?_
        refine Rn.getI dX11_nextSpots_18 fX11_209 rfl (pc0 hX hp7) ?_
        refine Rn.topI (y := nI n) (hn) ?_
        refine Rn.iconstv (v := 1) dX11_nextSpots_21 ic_1 ?_
        refine Rn.isub dX11_nextSpots_22 ?_
        refine Rn.icmp_ge dX11_nextSpots_23 (fun hc0 => ?_) (fun hc0 => ?_)
        · skip
          refine Rn.iincv (j' := -1) (lv' := [some (.ref 0), some (.int 2), some (.int (0 + (-1))), none, none]) dX11_nextSpots_60 rfl rfl (by decide) rfl ?_
          show Rn G l mX11_nextSpots (1, 0, 0, false) 63 [some (.ref 0), some (.int 2), some (.int (-1)), none, none] [] ly M Q
          refine Rn.goto dX11_nextSpots_63 ?_
          refine Rn.iload_n dX11_nextSpots_4 rfl ?_
          refine Rn.if_lt dX11_nextSpots_5 (fun hl => ?_) (fun hl => ?_)
          · skip
            refine Rn.iconstv (v := 0) dX11_nextSpots_66 ic_0 ?_
            rw [n1_le hn2 hn12 ha.2.1] at hc1
            rw [n1_le hn2 hn12 ha.1] at hc0
            exact Rn.iret (ty := .boolean) dX11_nextSpots_67 rfl rfl (hQ.1 (by unfold nxS; simp only []; rw [if_neg hc1]; rw [if_neg hc0]))
          · skip
            exact absurd (by decide) hl
        · skip
          refine Rn.aload_n dX11_nextSpots_26 rfl ?_
          refine Rn.getR dX11_nextSpots_27 fX11_84 rfl (xc0 hX) (show M.2.2 0 15 = some 147 from (xp0_15 hX)) ?_
          refine Rn.iload_n dX11_nextSpots_30 rfl ?_
          refine Rn.iald dX11_nextSpots_31 (xc147 hX) (by unfold vp_in; decide) ?_
          refine Rn.topI (y := M.1 147 0) (rfl) ?_
          refine Rn.topI (y := nI a.1) (hr 0 (by decide)) ?_
          refine Rn.iconstv (v := 1) dX11_nextSpots_32 ic_1 ?_
          refine Rn.iadd dX11_nextSpots_33 ?_
          refine Rn.istore_n (lv' := [some (.ref 0), some (.int 2), some (.int 0), some (.int ((nI a.1) + 1)), none]) dX11_nextSpots_34 (by decide) rfl ?_
          refine Rn.iload_n dX11_nextSpots_35 rfl ?_
          refine Rn.istore (lv' := [some (.ref 0), some (.int 2), some (.int 0), some (.int ((nI a.1) + 1)), some (.int 0)]) dX11_nextSpots_36 (by decide) rfl ?_
          refine Rn.iload dX11_nextSpots_38 rfl ?_
          refine Rn.iload_n dX11_nextSpots_40 rfl ?_
          refine Rn.icmp_ge dX11_nextSpots_41 (fun hl => ?_) (fun hl => ?_)
          · skip
            exact absurd hl (by decide)
          · skip
            refine Rn.aload_n dX11_nextSpots_44 rfl ?_
            refine Rn.getR dX11_nextSpots_45 fX11_84 rfl (xc0 hX) (show M.2.2 0 15 = some 147 from (xp0_15 hX)) ?_
            refine Rn.iload dX11_nextSpots_48 rfl ?_
            refine Rn.iload_n dX11_nextSpots_50 rfl ?_
            refine Rn.iast dX11_nextSpots_51 (xc147 hX) (by unfold vp_in; decide) ?_
            refine Rn.iincv (j' := 1) (lv' := [some (.ref 0), some (.int 2), some (.int 0), some (.int ((nI a.1) + 1)), some (.int (0 + 1))]) dX11_nextSpots_52 rfl rfl (by decide) rfl ?_
            show Rn G l mX11_nextSpots (1, 0, 0, false) 55 [some (.ref 0), some (.int 2), some (.int 0), some (.int ((nI a.1) + 1)), some (.int 1)] [] ly (sI M 147 (upd (M.1 147) 0 ((nI a.1) + 1))) Q
            refine Rn.goto dX11_nextSpots_55 ?_
            refine Rn.iload dX11_nextSpots_38 rfl ?_
            refine Rn.iload_n dX11_nextSpots_40 rfl ?_
            refine Rn.icmp_ge dX11_nextSpots_41 (fun hl => ?_) (fun hl => ?_)
            · skip
              exact absurd hl (by decide)
            · skip
              refine Rn.aload_n dX11_nextSpots_44 rfl ?_
              refine Rn.getR dX11_nextSpots_45 fX11_84 rfl (xc0 hX) (show M.2.2 0 15 = some 147 from (xp0_15 hX)) ?_
              refine Rn.iload dX11_nextSpots_48 rfl ?_
              refine Rn.iload_n dX11_nextSpots_50 rfl ?_
              refine Rn.iast dX11_nextSpots_51 (xc147 hX) (by unfold vp_in; decide) ?_
              refine Rn.meq (M2 := sI M 147 (upd (upd (M.1 147) 0 ((nI a.1) + 1)) 1 ((nI a.1) + 1))) (sI_sI _ _ _ _) ?_
              refine Rn.iincv (j' := 1) (lv' := [some (.ref 0), some (.int 2), some (.int 0), some (.int ((nI a.1) + 1)), some (.int (1 + 1))]) dX11_nextSpots_52 rfl rfl (by decide) rfl ?_
              show Rn G l mX11_nextSpots (1, 0, 0, false) 55 [some (.ref 0), some (.int 2), some (.int 0), some (.int ((nI a.1) + 1)), some (.int 2)] [] ly (sI M 147 (upd (upd (M.1 147) 0 ((nI a.1) + 1)) 1 ((nI a.1) + 1))) Q
              refine Rn.goto dX11_nextSpots_55 ?_
              refine Rn.iload dX11_nextSpots_38 rfl ?_
              refine Rn.iload_n dX11_nextSpots_40 rfl ?_
              refine Rn.icmp_ge dX11_nextSpots_41 (fun hl => ?_) (fun hl => ?_)
              · skip
                refine Rn.iconstv (v := 1) dX11_nextSpots_58 ic_1 ?_
                rw [n1_le hn2 hn12 ha.2.1] at hc1
                rw [n1_le hn2 hn12 ha.1] at hc0
                exact Rn.iret (ty := .boolean) dX11_nextSpots_59 rfl rfl (hQ.2 (a.1 + 1, a.1 + 1, a.2.2) _ (by unfold nxS; simp only []; rw [if_neg hc1]; rw [if_pos (Decidable.of_not_not hc0)]) (row3.up (a := a) (nI_1 _) (nI_1 _) (hr 2 (by decide))))
              · skip
                exact absurd (by decide) hl
    · skip
      refine Rn.aload_n dX11_nextSpots_26 rfl ?_
      refine Rn.getR dX11_nextSpots_27 fX11_84 rfl (xc0 hX) (show M.2.2 0 15 = some 147 from (xp0_15 hX)) ?_
      refine Rn.iload_n dX11_nextSpots_30 rfl ?_
      refine Rn.iald dX11_nextSpots_31 (xc147 hX) (by unfold vp_in; decide) ?_
      refine Rn.topI (y := M.1 147 1) (rfl) ?_
      refine Rn.topI (y := nI a.2.1) (hr 1 (by decide)) ?_
      refine Rn.iconstv (v := 1) dX11_nextSpots_32 ic_1 ?_
      refine Rn.iadd dX11_nextSpots_33 ?_
      refine Rn.istore_n (lv' := [some (.ref 0), some (.int 2), some (.int 1), some (.int ((nI a.2.1) + 1)), none]) dX11_nextSpots_34 (by decide) rfl ?_
      refine Rn.iload_n dX11_nextSpots_35 rfl ?_
      refine Rn.istore (lv' := [some (.ref 0), some (.int 2), some (.int 1), some (.int ((nI a.2.1) + 1)), some (.int 1)]) dX11_nextSpots_36 (by decide) rfl ?_
      refine Rn.iload dX11_nextSpots_38 rfl ?_
      refine Rn.iload_n dX11_nextSpots_40 rfl ?_
      refine Rn.icmp_ge dX11_nextSpots_41 (fun hl => ?_) (fun hl => ?_)
      · skip
        exact absurd hl (by decide)
      · skip
        refine Rn.aload_n dX11_nextSpots_44 rfl ?_
        refine Rn.getR dX11_nextSpots_45 fX11_84 rfl (xc0 hX) (show M.2.2 0 15 = some 147 from (xp0_15 hX)) ?_
        refine Rn.iload dX11_nextSpots_48 rfl ?_
        refine Rn.iload_n dX11_nextSpots_50 rfl ?_
        refine Rn.iast dX11_nextSpots_51 (xc147 hX) (by unfold vp_in; decide) ?_
        refine Rn.iincv (j' := 1) (lv' := [some (.ref 0), some (.int 2), some (.int 1), some (.int ((nI a.2.1) + 1)), some (.int (1 + 1))]) dX11_nextSpots_52 rfl rfl (by decide) rfl ?_
        show Rn G l mX11_nextSpots (1, 0, 0, false) 55 [some (.ref 0), some (.int 2), some (.int 1), some (.int ((nI a.2.1) + 1)), some (.int 2)] [] ly (sI M 147 (upd (M.1 147) 1 ((nI a.2.1) + 1))) Q
        refine Rn.goto dX11_nextSpots_55 ?_
        refine Rn.iload dX11_nextSpots_38 rfl ?_
        refine Rn.iload_n dX11_nextSpots_40 rfl ?_
        refine Rn.icmp_ge dX11_nextSpots_41 (fun hl => ?_) (fun hl => ?_)
        · skip
          refine Rn.iconstv (v := 1) dX11_nextSpots_58 ic_1 ?_
          rw [n1_le hn2 hn12 ha.2.1] at hc1
          exact Rn.iret (ty := .boolean) dX11_nextSpots_59 rfl rfl (hQ.2 (a.1, a.2.1 + 1, a.2.2) _ (by unfold nxS; simp only []; rw [if_pos (Decidable.of_not_not hc1)]) (row3.up (a := a) (hr 0 (by decide)) (nI_1 _) (hr 2 (by decide))))
        · skip
          exact absurd (by decide) hl
theorem tX11_nextSpots3 {G : Gx} {l : Launch} {ly : Ly} {M : Mm} {pl n nw nu nv : Nat} {a : Nat × Nat × Nat} (hXS : XS ly M pl n nw nu nv) (hr : row3 (M.1 147) a) (ha : a.1 < n ∧ a.2.1 < n ∧ a.2.2 < n) {Q : Qt} (hQ : (nxS n 3 a = none → Q (some (.int 0)) ly M) ∧ (∀ b f, nxS n 3 a = some b → row3 f b → Q (some (.int 1)) ly (sI M 147 f))) : Mt G l mX11_nextSpots (1, 0, 0, false) [.ref 0, .int 3] ly M Q := by
  have hXS0 := hXS
  obtain ⟨hX, hpl, hp7, ⟨n0, n1, n2, n3⟩, ⟨hn, hn2, hn12⟩, ⟨hw1, hw2, hw6⟩, ⟨hu1, hu2, hv1, hv2⟩, hgl, hbb⟩ := hXS
  refine Mt.of (lv := [some (.ref 0), some (.int 3), none, none, none]) rfl ?_
  refine Rn.iload_n dX11_nextSpots_0 rfl ?_
  refine Rn.iconstv (v := 1) dX11_nextSpots_1 ic_1 ?_
  refine Rn.isub dX11_nextSpots_2 ?_
  show Rn G l mX11_nextSpots (1, 0, 0, false) 3 [some (.ref 0), some (.int 3), none, none, none] [.int 2] ly M Q
  refine Rn.istore_n (lv' := [some (.ref 0), some (.int 3), some (.int 2), none, none]) dX11_nextSpots_3 (by decide) rfl ?_
  refine Rn.iload_n dX11_nextSpots_4 rfl ?_
  refine Rn.if_lt dX11_nextSpots_5 (fun hl => ?_) (fun hl => ?_)
  · skip
    exact absurd hl (by decide)
  · skip
    refine Rn.aload_n dX11_nextSpots_8 rfl ?_
    refine Rn.getR dX11_nextSpots_9 fX11_84 rfl (xc0 hX) (show M.2.2 0 15 = some 147 from (xp0_15 hX)) ?_
    refine Rn.iload_n dX11_nextSpots_12 rfl ?_
    refine Rn.iald dX11_nextSpots_13 (xc147 hX) (by unfold vp_in; decide) ?_
    refine Rn.topI (y := M.1 147 2) (rfl) ?_
    refine Rn.topI (y := nI a.2.2) (hr 2 (by decide)) ?_
    refine Rn.aload_n dX11_nextSpots_14 rfl ?_
    refine Rn.getR dX11_nextSpots_15 fX11_27 rfl (xc0 hX) (show M.2.2 0 3 = some pl from hpl) ?_
    refine Rn.getI dX11_nextSpots_18 fX11_209 rfl (pc0 hX hp7) ?_
    refine Rn.topI (y := nI n) (hn) ?_
    refine Rn.iconstv (v := 1) dX11_nextSpots_21 ic_1 ?_
    refine Rn.isub dX11_nextSpots_22 ?_
    refine Rn.icmp_ge dX11_nextSpots_23 (fun hc2 => ?_) (fun hc2 => ?_)
    · skip
      refine Rn.iincv (j' := -1) (lv' := [some (.ref 0), some (.int 3), some (.int (2 + (-1))), none, none]) dX11_nextSpots_60 rfl rfl (by decide) rfl ?_
      show Rn G l mX11_nextSpots (1, 0, 0, false) 63 [some (.ref 0), some (.int 3), some (.int 1), none, none] [] ly M Q
      refine Rn.goto dX11_nextSpots_63 ?_
      refine Rn.iload_n dX11_nextSpots_4 rfl ?_
      refine Rn.if_lt dX11_nextSpots_5 (fun hl => ?_) (fun hl => ?_)
      · skip
        exact absurd hl (by decide)
      · skip
        refine Rn.aload_n dX11_nextSpots_8 rfl ?_
        refine Rn.getR dX11_nextSpots_9 fX11_84 rfl (xc0 hX) (show M.2.2 0 15 = some 147 from (xp0_15 hX)) ?_
        refine Rn.iload_n dX11_nextSpots_12 rfl ?_
        refine Rn.iald dX11_nextSpots_13 (xc147 hX) (by unfold vp_in; decide) ?_
        refine Rn.topI (y := M.1 147 1) (rfl) ?_
        refine Rn.topI (y := nI a.2.1) (hr 1 (by decide)) ?_
        refine Rn.aload_n dX11_nextSpots_14 rfl ?_
        refine Rn.getR dX11_nextSpots_15 fX11_27 rfl (xc0 hX) (show M.2.2 0 3 = some pl from hpl) ?_
        refine Rn.getI dX11_nextSpots_18 fX11_209 rfl (pc0 hX hp7) ?_
        refine Rn.topI (y := nI n) (hn) ?_
        refine Rn.iconstv (v := 1) dX11_nextSpots_21 ic_1 ?_
        refine Rn.isub dX11_nextSpots_22 ?_
        refine Rn.icmp_ge dX11_nextSpots_23 (fun hc1 => ?_) (fun hc1 => ?_)
        · skip
          refine Rn.iincv (j' := -1) (lv' := [some (.ref 0), some (.int 3), some (.int (1 + (-1))), none, none]) dX11_nextSpots_60 rfl rfl (by decide) rfl ?_
          show Rn G l mX11_nextSpots (1, 0, 0, false) 63 [some (.ref 0), some (.int 3), some (.int 0), none, none] [] ly M Q
          refine Rn.goto dX11_nextSpots_63 ?_
          refine Rn.iload_n dX11_nextSpots_4 rfl ?_
          refine Rn.if_lt dX11_nextSpots_5 (fun hl => ?_) (fun hl => ?_)
          · skip
            exact absurd hl (by decide)
          · skip
            refine Rn.aload_n dX11_nextSpots_8 rfl ?_
            refine Rn.getR dX11_nextSpots_9 fX11_84 rfl (xc0 hX) (show M.2.2 0 15 = some 147 from (xp0_15 hX)) ?_
            refine Rn.iload_n dX11_nextSpots_12 rfl ?_
            refine Rn.iald dX11_nextSpots_13 (xc147 hX) (by unfold vp_in; decide) ?_
            refine Rn.topI (y := M.1 147 0) (rfl) ?_
            refine Rn.topI (y := nI a.1) (hr 0 (by decide)) ?_
            refine Rn.aload_n dX11_nextSpots_14 rfl ?_
            refine Rn.getR dX11_nextSpots_15 fX11_27 rfl (xc0 hX) (show M.2.2 0 3 = some pl from hpl) ?_
            refine Rn.getI dX11_nextSpots_18 fX11_209 rfl (pc0 hX hp7) ?_
            refine Rn.topI (y := nI n) (hn) ?_
            refine Rn.iconstv (v := 1) dX11_nextSpots_21 ic_1 ?_
            refine Rn.isub dX11_nextSpots_22 ?_
            refine Rn.icmp_ge dX11_nextSpots_23 (fun hc0 => ?_) (fun hc0 => ?_)
            · skip
              refine Rn.iincv (j' := -1) (lv' := [some (.ref 0), some (.int 3), some (.int (0 + (-1))), none, none]) dX11_nextSpots_60 rfl rfl (by decide) rfl ?_
              show Rn G l mX11_nextSpots (1, 0, 0, false) 63 [some (.ref 0), some (.int 3), some (.int (-1)), none, none] [] ly M Q
              refine Rn.goto dX11_nextSpots_63 ?_
              refine Rn.iload_n dX11_nextSpots_4 rfl ?_
              refine Rn.if_lt dX11_nextSpots_5 (fun hl => ?_) (fun hl => ?_)
              · skip
                refine Rn.iconstv (v := 0) dX11_nextSpots_66 ic_0 ?_
                rw [n1_le hn2 hn12 ha.2.2] at hc2
                rw [n1_le hn2 hn12 ha.2.1] at hc1
                rw [n1_le hn2 hn12 ha.1] at hc0
                exact Rn.iret (ty := .boolean) dX11_nextSpots_67 rfl rfl (hQ.1 (by unfold nxS; simp only []; rw [if_neg hc2]; rw [if_neg hc1]; rw [if_neg hc0]))
              · skip
                exact absurd (by decide) hl
            · skip
              refine Rn.aload_n dX11_nextSpots_26 rfl ?_
              refine Rn.getR dX11_nextSpots_27 fX11_84 rfl (xc0 hX) (show M.2.2 0 15 = some 147 from (xp0_15 hX)) ?_
              refine Rn.iload_n dX11_nextSpots_30 rfl ?_
              refine Rn.iald dX11_nextSpots_31 (xc147 hX) (by unfold vp_in; decide) ?_
              refine Rn.topI (y := M.1 147 0) (rfl) ?_
              refine Rn.topI (y := nI a.1) (hr 0 (by decide)) ?_
              refine Rn.iconstv (v := 1) dX11_nextSpots_32 ic_1 ?_
              refine Rn.iadd dX11_nextSpots_33 ?_
              refine Rn.istore_n (lv' := [some (.ref 0), some (.int 3), some (.int 0), some (.int ((nI a.1) + 1)), none]) dX11_nextSpots_34 (by decide) rfl ?_
              refine Rn.iload_n dX11_nextSpots_35 rfl ?_
              refine Rn.istore (lv' := [some (.ref 0), some (.int 3), some (.int 0), some (.int ((nI a.1) + 1)), some (.int 0)]) dX11_nextSpots_36 (by decide) rfl ?_
              refine Rn.iload dX11_nextSpots_38 rfl ?_
              refine Rn.iload_n dX11_nextSpots_40 rfl ?_
              refine Rn.icmp_ge dX11_nextSpots_41 (fun hl => ?_) (fun hl => ?_)
              · skip
                exact absurd hl (by decide)
              · skip
                refine Rn.aload_n dX11_nextSpots_44 rfl ?_
                refine Rn.getR dX11_nextSpots_45 fX11_84 rfl (xc0 hX) (show M.2.2 0 15 = some 147 from (xp0_15 hX)) ?_
                refine Rn.iload dX11_nextSpots_48 rfl ?_
                refine Rn.iload_n dX11_nextSpots_50 rfl ?_
                refine Rn.iast dX11_nextSpots_51 (xc147 hX) (by unfold vp_in; decide) ?_
                refine Rn.iincv (j' := 1) (lv' := [some (.ref 0), some (.int 3), some (.int 0), some (.int ((nI a.1) + 1)), some (.int (0 + 1))]) dX11_nextSpots_52 rfl rfl (by decide) rfl ?_
                show Rn G l mX11_nextSpots (1, 0, 0, false) 55 [some (.ref 0), some (.int 3), some (.int 0), some (.int ((nI a.1) + 1)), some (.int 1)] [] ly (sI M 147 (upd (M.1 147) 0 ((nI a.1) + 1))) Q
                refine Rn.goto dX11_nextSpots_55 ?_
                refine Rn.iload dX11_nextSpots_38 rfl ?_
                refine Rn.iload_n dX11_nextSpots_40 rfl ?_
                refine Rn.icmp_ge dX11_nextSpots_41 (fun hl => ?_) (fun hl => ?_)
                · skip
                  exact absurd hl (by decide)
                · skip
                  refine Rn.aload_n dX11_nextSpots_44 rfl ?_
                  refine Rn.getR dX11_nextSpots_45 fX11_84 rfl (xc0 hX) (show M.2.2 0 15 = some 147 from (xp0_15 hX)) ?_
                  refine Rn.iload dX11_nextSpots_48 rfl ?_
                  refine Rn.iload_n dX11_nextSpots_50 rfl ?_
                  refine Rn.iast dX11_nextSpots_51 (xc147 hX) (by unfold vp_in; decide) ?_
                  refine Rn.meq (M2 := sI M 147 (upd (upd (M.1 147) 0 ((nI a.1) + 1)) 1 ((nI a.1) + 1))) (sI_sI _ _ _ _) ?_
                  refine Rn.iincv (j' := 1) (lv' := [some (.ref 0), some (.int 3), some (.int 0), some (.int ((nI a.1) + 1)), some (.int (1 + 1))]) dX11_nextSpots_52 rfl rfl (by decide) rfl ?_
                  show Rn G l mX11_nextSpots (1, 0, 0, false) 55 [some (.ref 0), some (.int 3), some (.int 0), some (.int ((nI a.1) + 1)), some (.int 2)] [] ly (sI M 147 (upd (upd (M.1 147) 0 ((nI a.1) + 1)) 1 ((nI a.1) + 1))) Q
                  refine Rn.goto dX11_nextSpots_55 ?_
                  refine Rn.iload dX11_nextSpots_38 rfl ?_
                  refine Rn.iload_n dX11_nextSpots_40 rfl ?_
                  refine Rn.icmp_ge dX11_nextSpots_41 (fun hl => ?_) (fun hl => ?_)
                  · skip
                    exact absurd hl (by decide)
                  · skip
                    refine Rn.aload_n dX11_nextSpots_44 rfl ?_
                    refine Rn.getR dX11_nextSpots_45 fX11_84 rfl (xc0 hX) (show M.2.2 0 15 = some 147 from (xp0_15 hX)) ?_
                    refine Rn.iload dX11_nextSpots_48 rfl ?_
                    refine Rn.iload_n dX11_nextSpots_50 rfl ?_
                    refine Rn.iast dX11_nextSpots_51 (xc147 hX) (by unfold vp_in; decide) ?_
                    refine Rn.meq (M2 := sI M 147 (upd (upd (upd (M.1 147) 0 ((nI a.1) + 1)) 1 ((nI a.1) + 1)) 2 ((nI a.1) + 1))) (sI_sI _ _ _ _) ?_
                    refine Rn.iincv (j' := 1) (lv' := [some (.ref 0), some (.int 3), some (.int 0), some (.int ((nI a.1) + 1)), some (.int (2 + 1))]) dX11_nextSpots_52 rfl rfl (by decide) rfl ?_
                    show Rn G l mX11_nextSpots (1, 0, 0, false) 55 [some (.ref 0), some (.int 3), some (.int 0), some (.int ((nI a.1) + 1)), some (.int 3)] [] ly (sI M 147 (upd (upd (upd (M.1 147) 0 ((nI a.1) + 1)) 1 ((nI a.1) + 1)) 2 ((nI a.1) + 1))) Q
                    refine Rn.goto dX11_nextSpots_55 ?_
                    refine Rn.iload dX11_nextSpots_38 rfl ?_
                    refine Rn.iload_n dX11_nextSpots_40 rfl ?_
                    refine Rn.icmp_ge dX11_nextSpots_41 (fun hl => ?_) (fun hl => ?_)
                    · skip
                      refine Rn.iconstv (v := 1) dX11_nextSpots_58 ic_1 ?_
                      rw [n1_le hn2 hn12 ha.2.2] at hc2
                      rw [n1_le hn2 hn12 ha.2.1] at hc1
                      rw [n1_le hn2 hn12 ha.1] at hc0
                      exact Rn.iret (ty := .boolean) dX11_nextSpots_59 rfl rfl (hQ.2 (a.1 + 1, a.1 + 1, a.1 + 1) _ (by unfold nxS; simp only []; rw [if_neg hc2]; rw [if_neg hc1]; rw [if_pos (Decidable.of_not_not hc0)]) (row3.up (a := a) (nI_1 _) (nI_1 _) (nI_1 _)))
                    · skip
                      exact absurd (by decide) hl
        · skip
          refine Rn.aload_n dX11_nextSpots_26 rfl ?_
          refine Rn.getR dX11_nextSpots_27 fX11_84 rfl (xc0 hX) (show M.2.2 0 15 = some 147 from (xp0_15 hX)) ?_
          refine Rn.iload_n dX11_nextSpots_30 rfl ?_
          refine Rn.iald dX11_nextSpots_31 (xc147 hX) (by unfold vp_in; decide) ?_
          refine Rn.topI (y := M.1 147 1) (rfl) ?_
          refine Rn.topI (y := nI a.2.1) (hr 1 (by decide)) ?_
          refine Rn.iconstv (v := 1) dX11_nextSpots_32 ic_1 ?_
          refine Rn.iadd dX11_nextSpots_33 ?_
          refine Rn.istore_n (lv' := [some (.ref 0), some (.int 3), some (.int 1), some (.int ((nI a.2.1) + 1)), none]) dX11_nextSpots_34 (by decide) rfl ?_
          refine Rn.iload_n dX11_nextSpots_35 rfl ?_
          refine Rn.istore (lv' := [some (.ref 0), some (.int 3), some (.int 1), some (.int ((nI a.2.1) + 1)), some (.int 1)]) dX11_nextSpots_36 (by decide) rfl ?_
          refine Rn.iload dX11_nextSpots_38 rfl ?_
          refine Rn.iload_n dX11_nextSpots_40 rfl ?_
          refine Rn.icmp_ge dX11_nextSpots_41 (fun hl => ?_) (fun hl => ?_)
          · skip
            exact absurd hl (by decide)
          · skip
            refine Rn.aload_n dX11_nextSpots_44 rfl ?_
            refine Rn.getR dX11_nextSpots_45 fX11_84 rfl (xc0 hX) (show M.2.2 0 15 = some 147 from (xp0_15 hX)) ?_
            refine Rn.iload dX11_nextSpots_48 rfl ?_
            refine Rn.iload_n dX11_nextSpots_50 rfl ?_
            refine Rn.iast dX11_nextSpots_51 (xc147 hX) (by unfold vp_in; decide) ?_
            refine Rn.iincv (j' := 1) (lv' := [some (.ref 0), some (.int 3), some (.int 1), some (.int ((nI a.2.1) + 1)), some (.int (1 + 1))]) dX11_nextSpots_52 rfl rfl (by decide) rfl ?_
            show Rn G l mX11_nextSpots (1, 0, 0, false) 55 [some (.ref 0), some (.int 3), some (.int 1), some (.int ((nI a.2.1) + 1)), some (.int 2)] [] ly (sI M 147 (upd (M.1 147) 1 ((nI a.2.1) + 1))) Q
            refine Rn.goto dX11_nextSpots_55 ?_
            refine Rn.iload dX11_nextSpots_38 rfl ?_
            refine Rn.iload_n dX11_nextSpots_40 rfl ?_
            refine Rn.icmp_ge dX11_nextSpots_41 (fun hl => ?_) (fun hl => ?_)
            · skip
              exact absurd hl (by decide)
            · skip
              refine Rn.aload_n dX11_nextSpots_44 rfl ?_
              refine Rn.getR dX11_nextSpots_45 fX11_84 rfl (xc0 hX) (show M.2.2 0 15 = some 147 from (xp0_15 hX)) ?_
              refine Rn.iload dX11_nextSpots_48 rfl ?_
              refine Rn.iload_n dX11_nextSpots_50 rfl ?_
              refine Rn.iast dX11_nextSpots_51 (xc147 hX) (by unfold vp_in; decide) ?_
              refine Rn.meq (M2 := sI M 147 (upd (upd (M.1 147) 1 ((nI a.2.1) + 1)) 2 ((nI a.2.1) + 1))) (sI_sI _ _ _ _) ?_
              refine Rn.iincv (j' := 1) (lv' := [some (.ref 0), some (.int 3), some (.int 1), some (.int ((nI a.2.1) + 1)), some (.int (2 + 1))]) dX11_nextSpots_52 rfl rfl (by decide) rfl ?_
              show Rn G l mX11_nextSpots (1, 0, 0, false) 55 [some (.ref 0), some (.int 3), some (.int 1), some (.int ((nI a.2.1) + 1)), some (.int 3)] [] ly (sI M 147 (upd (upd (M.1 147) 1 ((nI a.2.1) + 1)) 2 ((nI a.2.1) + 1))) Q
              refine Rn.goto dX11_nextSpots_55 ?_
              refine Rn.iload dX11_nextSpots_38 rfl ?_
              refine Rn.iload_n dX11_nextSpots_40 rfl ?_
              refine Rn.icmp_ge dX11_nextSpots_41 (fun hl => ?_) (fun hl => ?_)
              · skip
                refine Rn.iconstv (v := 1) dX11_nextSpots_58 ic_1 ?_
                rw [n1_le hn2 hn12 ha.2.2] at hc2
                rw [n1_le hn2 hn12 ha.2.1] at hc1
                exact Rn.iret (ty := .boolean) dX11_nextSpots_59 rfl rfl (hQ.2 (a.1, a.2.1 + 1, a.2.1 + 1) _ (by unfold nxS; simp only []; rw [if_neg hc2]; rw [if_pos (Decidable.of_not_not hc1)]) (row3.up (a := a) (hr 0 (by decide)) (nI_1 _) (nI_1 _)))
              · skip
                exact absurd (by decide) hl
    · skip
      refine Rn.aload_n dX11_nextSpots_26 rfl ?_
      refine Rn.getR dX11_nextSpots_27 fX11_84 rfl (xc0 hX) (show M.2.2 0 15 = some 147 from (xp0_15 hX)) ?_
      refine Rn.iload_n dX11_nextSpots_30 rfl ?_
      refine Rn.iald dX11_nextSpots_31 (xc147 hX) (by unfold vp_in; decide) ?_
      refine Rn.topI (y := M.1 147 2) (rfl) ?_
      refine Rn.topI (y := nI a.2.2) (hr 2 (by decide)) ?_
      refine Rn.iconstv (v := 1) dX11_nextSpots_32 ic_1 ?_
      refine Rn.iadd dX11_nextSpots_33 ?_
      refine Rn.istore_n (lv' := [some (.ref 0), some (.int 3), some (.int 2), some (.int ((nI a.2.2) + 1)), none]) dX11_nextSpots_34 (by decide) rfl ?_
      refine Rn.iload_n dX11_nextSpots_35 rfl ?_
      refine Rn.istore (lv' := [some (.ref 0), some (.int 3), some (.int 2), some (.int ((nI a.2.2) + 1)), some (.int 2)]) dX11_nextSpots_36 (by decide) rfl ?_
      refine Rn.iload dX11_nextSpots_38 rfl ?_
      refine Rn.iload_n dX11_nextSpots_40 rfl ?_
      refine Rn.icmp_ge dX11_nextSpots_41 (fun hl => ?_) (fun hl => ?_)
      · skip
        exact absurd hl (by decide)
      · skip
        refine Rn.aload_n dX11_nextSpots_44 rfl ?_
        refine Rn.getR dX11_nextSpots_45 fX11_84 rfl (xc0 hX) (show M.2.2 0 15 = some 147 from (xp0_15 hX)) ?_
        refine Rn.iload dX11_nextSpots_48 rfl ?_
        refine Rn.iload_n dX11_nextSpots_50 rfl ?_
        refine Rn.iast dX11_nextSpots_51 (xc147 hX) (by unfold vp_in; decide) ?_
        refine Rn.iincv (j' := 1) (lv' := [some (.ref 0), some (.int 3), some (.int 2), some (.int ((nI a.2.2) + 1)), some (.int (2 + 1))]) dX11_nextSpots_52 rfl rfl (by decide) rfl ?_
        show Rn G l mX11_nextSpots (1, 0, 0, false) 55 [some (.ref 0), some (.int 3), some (.int 2), some (.int ((nI a.2.2) + 1)), some (.int 3)] [] ly (sI M 147 (upd (M.1 147) 2 ((nI a.2.2) + 1))) Q
        refine Rn.goto dX11_nextSpots_55 ?_
        refine Rn.iload dX11_nextSpots_38 rfl ?_
        refine Rn.iload_n dX11_nextSpots_40 rfl ?_
        refine Rn.icmp_ge dX11_nextSpots_41 (fun hl => ?_) (fun hl => ?_)
        · skip
          refine Rn.iconstv (v := 1) dX11_nextSpots_58 ic_1 ?_
          rw [n1_le hn2 hn12 ha.2.2] at hc2
          exact Rn.iret (ty := .boolean) dX11_nextSpots_59 rfl rfl (hQ.2 (a.1, a.2.1, a.2.2 + 1) _ (by unfold nxS; simp only []; rw [if_pos (Decidable.of_not_not hc2)]) (row3.up (a := a) (hr 0 (by decide)) (hr 1 (by decide)) (nI_1 _)))
        · skip
          exact absurd (by decide) hl
