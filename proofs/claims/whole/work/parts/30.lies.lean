/-- the spots next -/
def nxS (n k : Nat) (a : Nat × Nat × Nat) : Option (Nat × Nat × Nat) := match k with
  | 0 => none
  | 1 => if a.1 + 1 < n then some (a.1 + 1, a.2.1, a.2.2) else none
  | 2 => if a.2.1 + 1 < n then some (a.1, a.2.1 + 1, a.2.2) else if a.1 + 1 < n then some (a.1 + 1, a.1 + 1, a.2.2) else none
  | _ => if a.2.2 + 1 < n then some (a.1, a.2.1, a.2.2 + 1) else if a.2.1 + 1 < n then some (a.1, a.2.1 + 1, a.2.1 + 1) else if a.1 + 1 < n then some (a.1 + 1, a.1 + 1, a.1 + 1) else none
def gt3 (a : Nat × Nat × Nat) (j : Nat) : Nat := if j = 0 then a.1 else if j = 1 then a.2.1 else a.2.2
def row3 (f : Nat → Int32) (a : Nat × Nat × Nat) : Prop := ∀ j, j < 3 → f j = nI (gt3 a j)
theorem row3.up {f : Nat → Int32} {a b : Nat × Nat × Nat} (h0 : f 0 = nI b.1) (h1 : f 1 = nI b.2.1) (h2 : f 2 = nI b.2.2) : row3 f b := by
  intro j hj
  match j, hj with
  | 0, _ => exact h0
  | 1, _ => exact h1
  | 2, _ => exact h2
theorem n1_le {n x : Nat} (h2 : 2 ≤ n) (h12 : n ≤ 12) (hx : x < n) : nI n - 1 ≤ nI x ↔ ¬ x + 1 < n := by
  obtain ⟨m, rfl⟩ : ∃ m, n = m + 1 := ⟨n - 1, by omega⟩
  rw [show nI (m + 1) - 1 = nI m by rw [← nI_1]; exact Int32.add_sub_cancel _ _, nI_leI (by omega) (by omega)]
  omega
theorem tX11_nextSpots0 {G : Gx} {l : Launch} {ly : Ly} {M : Mm} {pl n nw nu nv : Nat} {a : Nat × Nat × Nat} (hXS : XS ly M pl n nw nu nv) (hr : row3 (M.1 147) a) (ha : a.1 < n ∧ a.2.1 < n ∧ a.2.2 < n) {Q : Qt} (hQ : (nxS n 0 a = none → Q (some (.int 0)) ly M) ∧ (∀ b f, nxS n 0 a = some b → row3 f b → Q (some (.int 1)) ly (sI M 147 f))) : Mt G l mX11_nextSpots (1, 0, 0, false) [.ref 0, .int 0] ly M Q := by
  have hXS0 := hXS
  obtain ⟨hX, hpl, hp7, ⟨n0, n1, n2, n3⟩, ⟨hn, hn2, hn12⟩, ⟨hw1, hw2, hw6⟩, ⟨hu1, hu2, hv1, hv2⟩, hgl, hbb⟩ := hXS
  refine Mt.of (lv := [some (.ref 0), some (.int 0), none, none, none]) rfl ?_
  refine Rn.iload_n dX11_nextSpots_0 rfl ?_
  refine Rn.iconstv (v := 1) dX11_nextSpots_1 ic_1 ?_
  refine Rn.isub dX11_nextSpots_2 ?_
  show Rn G l mX11_nextSpots (1, 0, 0, false) 3 [some (.ref 0), some (.int 0), none, none, none] [.int (-1)] ly M Q
  refine Rn.istore_n (lv' := [some (.ref 0), some (.int 0), some (.int (-1)), none, none]) dX11_nextSpots_3 (by decide) rfl ?_
  refine Rn.iload_n dX11_nextSpots_4 rfl ?_
  refine Rn.if_lt dX11_nextSpots_5 (fun hl => ?_) (fun hl => ?_)
  · skip
    refine Rn.iconstv (v := 0) dX11_nextSpots_66 ic_0 ?_
    exact Rn.iret (ty := .boolean) dX11_nextSpots_67 rfl rfl (hQ.1 (rfl))
  · skip
    exact absurd (by decide) hl
theorem tX11_nextSpots1 {G : Gx} {l : Launch} {ly : Ly} {M : Mm} {pl n nw nu nv : Nat} {a : Nat × Nat × Nat} (hXS : XS ly M pl n nw nu nv) (hr : row3 (M.1 147) a) (ha : a.1 < n ∧ a.2.1 < n ∧ a.2.2 < n) {Q : Qt} (hQ : (nxS n 1 a = none → Q (some (.int 0)) ly M) ∧ (∀ b f, nxS n 1 a = some b → row3 f b → Q (some (.int 1)) ly (sI M 147 f))) : Mt G l mX11_nextSpots (1, 0, 0, false) [.ref 0, .int 1] ly M Q := by
  have hXS0 := hXS
  obtain ⟨hX, hpl, hp7, ⟨n0, n1, n2, n3⟩, ⟨hn, hn2, hn12⟩, ⟨hw1, hw2, hw6⟩, ⟨hu1, hu2, hv1, hv2⟩, hgl, hbb⟩ := hXS
  refine Mt.of (lv := [some (.ref 0), some (.int 1), none, none, none]) rfl ?_
  refine Rn.iload_n dX11_nextSpots_0 rfl ?_
  refine Rn.iconstv (v := 1) dX11_nextSpots_1 ic_1 ?_
  refine Rn.isub dX11_nextSpots_2 ?_
  show Rn G l mX11_nextSpots (1, 0, 0, false) 3 [some (.ref 0), some (.int 1), none, none, none] [.int 0] ly M Q
  refine Rn.istore_n (lv' := [some (.ref 0), some (.int 1), some (.int 0), none, none]) dX11_nextSpots_3 (by decide) rfl ?_
  refine Rn.iload_n dX11_nextSpots_4 rfl ?_
  refine Rn.if_lt dX11_nextSpots_5 (fun hl => ?_) (fun hl => ?_)
  · skip
    exact absurd hl (by decide)
  · skip
    refine Rn.aload_n dX11_nextSpots_8 rfl ?_
    refine Rn.getR dX11_nextSpots_9 fX11_84 rfl (xc0 hX) (show M.2.2 0 15 = some 147 from (xp0_15 hX)) ?_
    refine Rn.iload_n dX11_nextSpots_12 rfl ?_
    refine Rn.iald dX11_nextSpots_13 (xc147 hX) (by unfold vp_in; decide) ?_
    refine Rn.topI (y := M.1 147 0) (rfl) ?_
    refine Rn.topI (y := nI a.1) (hr 0 (by decide)) ?_
    refine Rn.aload_n dX11_nextSpots_14 rfl ?_
    refine Rn.getR dX11_nextSpots_15 fX11_27 rfl (xc0 hX) (show M.2.2 0 3 = some pl from hpl) ?_
    refine Rn.getI dX11_nextSpots_18 fX11_209 rfl (pc0 hX hp7) ?_
    refine Rn.topI (y := nI n) (hn) ?_
    refine Rn.iconstv (v := 1) dX11_nextSpots_21 ic_1 ?_
    refine Rn.isub dX11_nextSpots_22 ?_
    refine Rn.icmp_ge dX11_nextSpots_23 (fun hc0 => ?_) (fun hc0 => ?_)
    · skip
      refine Rn.iincv (j' := -1) (lv' := [some (.ref 0), some (.int 1), some (.int (0 + (-1))), none, none]) dX11_nextSpots_60 rfl rfl (by decide) rfl ?_
      show Rn G l mX11_nextSpots (1, 0, 0, false) 63 [some (.ref 0), some (.int 1), some (.int (-1)), none, none] [] ly M Q
      refine Rn.goto dX11_nextSpots_63 ?_
      refine Rn.iload_n dX11_nextSpots_4 rfl ?_
      refine Rn.if_lt dX11_nextSpots_5 (fun hl => ?_) (fun hl => ?_)
      · skip
        refine Rn.iconstv (v := 0) dX11_nextSpots_66 ic_0 ?_
        rw [n1_le hn2 hn12 ha.1] at hc0
        exact Rn.iret (ty := .boolean) dX11_nextSpots_67 rfl rfl (hQ.1 (by unfold nxS; simp only []; rw [if_neg hc0]))
      · skip
        exact absurd (by decide) hl
    · skip
      refine Rn.aload_n dX11_nextSpots_26 rfl ?_
      refine Rn.getR dX11_nextSpots_27 fX11_84 rfl (xc0 hX) (show M.2.2 0 15 = some 147 from (xp0_15 hX)) ?_
      refine Rn.iload_n dX11_nextSpots_30 rfl ?_
      refine Rn.iald dX11_nextSpots_31 (xc147 hX) (by unfold vp_in; decide) ?_
      refine Rn.topI (y := M.1 147 0) (rfl) ?_
      refine Rn.topI (y := nI a.1) (hr 0 (by decide)) ?_
      refine Rn.iconstv (v := 1) dX11_nextSpots_32 ic_1 ?_
      refine Rn.iadd dX11_nextSpots_33 ?_
      refine Rn.istore_n (lv' := [some (.ref 0), some (.int 1), some (.int 0), some (.int ((nI a.1) + 1)), none]) dX11_nextSpots_34 (by decide) rfl ?_
      refine Rn.iload_n dX11_nextSpots_35 rfl ?_
      refine Rn.istore (lv' := [some (.ref 0), some (.int 1), some (.int 0), some (.int ((nI a.1) + 1)), some (.int 0)]) dX11_nextSpots_36 (by decide) rfl ?_
      refine Rn.iload dX11_nextSpots_38 rfl ?_
      refine Rn.iload_n dX11_nextSpots_40 rfl ?_
      refine Rn.icmp_ge dX11_nextSpots_41 (fun hl => ?_) (fun hl => ?_)
      · skip
        exact absurd hl (by decide)
      · skip
        refine Rn.aload_n dX11_nextSpots_44 rfl ?_
        refine Rn.getR dX11_nextSpots_45 fX11_84 rfl (xc0 hX) (show M.2.2 0 15 = some 147 from (xp0_15 hX)) ?_
        refine Rn.iload dX11_nextSpots_48 rfl ?_
        refine Rn.iload_n dX11_nextSpots_50 rfl ?_
        refine Rn.iast dX11_nextSpots_51 (xc147 hX) (by unfold vp_in; decide) ?_
        refine Rn.iincv (j' := 1) (lv' := [some (.ref 0), some (.int 1), some (.int 0), some (.int ((nI a.1) + 1)), some (.int (0 + 1))]) dX11_nextSpots_52 rfl rfl (by decide) rfl ?_
        show Rn G l mX11_nextSpots (1, 0, 0, false) 55 [some (.ref 0), some (.int 1), some (.int 0), some (.int ((nI a.1) + 1)), some (.int 1)] [] ly (sI M 147 (upd (M.1 147) 0 ((nI a.1) + 1))) Q
        refine Rn.goto dX11_nextSpots_55 ?_
        refine Rn.iload dX11_nextSpots_38 rfl ?_
        refine Rn.iload_n dX11_nextSpots_40 rfl ?_
        refine Rn.icmp_ge dX11_nextSpots_41 (fun hl => ?_) (fun hl => ?_)
        · skip
          refine Rn.iconstv (v := 1) dX11_nextSpots_58 ic_1 ?_
          rw [n1_le hn2 hn12 ha.1] at hc0
          exact Rn.iret (ty := .boolean) dX11_nextSpots_59 rfl rfl (hQ.2 (a.1 + 1, a.2.1, a.2.2) _ (by unfold nxS; simp only []; rw [if_pos (Decidable.of_not_not hc0)]) (row3.up (a := a) (nI_1 _) (hr 1 (by decide)) (hr 2 (by decide))))
        · skip
          exact absurd (by decide) hl
theorem tX11_nextSpots2 {G : Gx} {l : Launch} {ly : Ly} {M : Mm} {pl n nw nu nv : Nat} {a : Nat × Nat × Nat} (hXS : XS ly M pl n nw nu nv) (hr : row3 (M.1 147) a) (ha : a.1 < n ∧ a.2.1 < n ∧ a.2.2 < n) {Q : Qt} (hQ : (nxS n 2 a = none → Q (some (.int 0)) ly M) ∧ (∀ b f, nxS n 2 a = some b → row3 f b → Q (some (.int 1)) ly (sI M 147 f))) : Mt G l mX11_nextSpots (1, 0, 0, false) [.ref 0, .int 2] ly M Q := by
  have hXS0 := hXS
  obtain ⟨hX, hpl, hp7, ⟨n0, n1, n2, n3⟩, ⟨hn, hn2, hn12⟩, ⟨hw1, hw2, hw6⟩, ⟨hu1, hu2, hv1, hv2⟩, hgl, hbb⟩ := hXS
  refine Mt.of (lv := [some (.ref 0), some (.int 2), none, none, none]) rfl ?_
  refine Rn.iload_n dX11_nextSpots_0 rfl ?_
  refine Rn.iconstv (v := 1) dX11_nextSpots_1 ic_1 ?_
  refine Rn.isub dX11_nextSpots_2 ?_
  show Rn G l mX11_nextSpots (1, 0, 0, false) 3 [some (.ref 0), some (.int 2), none, none, none] [.int 1] ly M Q
  refine Rn.istore_n (lv' := [some (.ref 0), some (.int 2), some (.int 1), none, none]) dX11_nextSpots_3 (by decide) rfl ?_
  refine Rn.iload_n dX11_nextSpots_4 rfl ?_
  refine Rn.if_lt dX11_nextSpots_5 (fun hl => ?_) (fun hl => ?_)
  · skip
    exact absurd hl (by decide)
  · skip
    refine Rn.aload_n dX11_nextSpots_8 rfl ?_
    refine Rn.getR dX11_nextSpots_9 fX11_84 rfl (xc0 hX) (show M.2.2 0 15 = some 147 from (xp0_15 hX)) ?_
    refine Rn.iload_n dX11_nextSpots_12 rfl ?_
    refine Rn.iald dX11_nextSpots_13 (xc147 hX) (by unfold vp_in; decide) ?_
    refine Rn.topI (y := M.1 147 1) (rfl) ?_
    refine Rn.topI (y := nI a.2.1) (hr 1 (by decide)) ?_
    refine Rn.aload_n dX11_nextSpots_14 rfl ?_
    refine Rn.getR dX11_nextSpots_15 fX11_27 rfl (xc0 hX) (show M.2.2 0 3 = some pl from hpl) ?_
    refine Rn.getI dX11_nextSpots_18 fX11_209 rfl (pc0 hX hp7) ?_
    refine Rn.topI (y := nI n) (hn) ?_
    refine Rn.iconstv (v := 1) dX11_nextSpots_21 ic_1 ?_
    refine Rn.isub dX11_nextSpots_22 ?_
    refine Rn.icmp_ge dX11_nextSpots_23 (fun hc1 => ?_) (fun hc1 => ?_)
    · skip
      refine Rn.iincv (j' := -1) (lv' := [some (.ref 0), some (.int 2), some (.int (1 + (-1))), none, none]) dX11_nextSpots_60 rfl rfl (by decide) rfl ?_
      show Rn G l mX11_nextSpots (1, 0, 0, false) 63 [some (.ref 0), some (.int 2), some (.int 0), none, none] [] ly M Q
      refine Rn.goto dX11_nextSpots_63 ?_
      refine Rn.iload_n dX11_nextSpots_4 rfl ?_
      refine Rn.if_lt dX11_nextSpots_5 (fun hl => ?_) (fun hl => ?_)
      · skip
        exact absurd hl (by decide)
      · skip
        refine Rn.aload_n dX11_nextSpots_8 rfl ?_
        refine Rn.getR dX11_nextSpots_9 fX11_84 rfl (xc0 hX) (show M.2.2 0 15 = some 147 from (xp0_15 hX)) ?_
        refine Rn.iload_n dX11_nextSpots_12 rfl ?_
        refine Rn.iald dX11_nextSpots_13 (xc147 hX) (by unfold vp_in; decide) ?_
        refine Rn.topI (y := M.1 147 0) (rfl) ?_
        refine Rn.topI (y := nI a.1) (hr 0 (by decide)) ?_
        refine Rn.aload_n dX11_nextSpots_14 rfl ?_
        refine Rn.getR dX11_nextSpots_15 fX11_27 rfl (xc0 hX) (show M.2.2 0 3 = some pl from hpl) ?_
        refine Rn.getI dX11_nextSpots_18 fX11_209 rfl (pc0 hX hp7) ?_
        refine Rn.topI (y := nI n) (hn) ?_
        refine Rn.iconstv (v := 1) dX11_nextSpots_21 ic_1 ?_
        refine Rn.isub dX11_nextSpots_22 ?_
        refine Rn.icmp_ge dX11_nextSpots_23 (fun hc0 => ?_) (fun hc0 => ?_)
        · skip
          refine Rn.iincv (j' := -1) (lv' := [some (.ref 0), some (.int 2), some (.int (0 + (-1))), none, none]) dX11_nextSpots_60 rfl rfl (by decide) rfl ?_
          show Rn G l mX11_nextSpots (1, 0, 0, false) 63 [some (.ref 0), some (.int 2), some (.int (-1)), none, none] [] ly M Q
          refine Rn.goto dX11_nextSpots_63 ?_
          refine Rn.iload_n dX11_nextSpots_4 rfl ?_
          refine Rn.if_lt dX11_nextSpots_5 (fun hl => ?_) (fun hl => ?_)
          · skip
            refine Rn.iconstv (v := 0) dX11_nextSpots_66 ic_0 ?_
            rw [n1_le hn2 hn12 ha.2.1] at hc1
            rw [n1_le hn2 hn12 ha.1] at hc0
            exact Rn.iret (ty := .boolean) dX11_nextSpots_67 rfl rfl (hQ.1 (by unfold nxS; simp only []; rw [if_neg hc1]; rw [if_neg hc0]))
          · skip
            exact absurd (by decide) hl
        · skip
          refine Rn.aload_n dX11_nextSpots_26 rfl ?_
          refine Rn.getR dX11_nextSpots_27 fX11_84 rfl (xc0 hX) (show M.2.2 0 15 = some 147 from (xp0_15 hX)) ?_
          refine Rn.iload_n dX11_nextSpots_30 rfl ?_
          refine Rn.iald dX11_nextSpots_31 (xc147 hX) (by unfold vp_in; decide) ?_
          refine Rn.topI (y := M.1 147 0) (rfl) ?_
          refine Rn.topI (y := nI a.1) (hr 0 (by decide)) ?_
          refine Rn.iconstv (v := 1) dX11_nextSpots_32 ic_1 ?_
          refine Rn.iadd dX11_nextSpots_33 ?_
          refine Rn.istore_n (lv' := [some (.ref 0), some (.int 2), some (.int 0), some (.int ((nI a.1) + 1)), none]) dX11_nextSpots_34 (by decide) rfl ?_
          refine Rn.iload_n dX11_nextSpots_35 rfl ?_
          refine Rn.istore (lv' := [some (.ref 0), some (.int 2), some (.int 0), some (.int ((nI a.1) + 1)), some (.int 0)]) dX11_nextSpots_36 (by decide) rfl ?_
          refine Rn.iload dX11_nextSpots_38 rfl ?_
          refine Rn.iload_n dX11_nextSpots_40 rfl ?_
          refine Rn.icmp_ge dX11_nextSpots_41 (fun hl => ?_) (fun hl => ?_)
          · skip
            exact absurd hl (by decide)
          · skip
            refine Rn.aload_n dX11_nextSpots_44 rfl ?_
            refine Rn.getR dX11_nextSpots_45 fX11_84 rfl (xc0 hX) (show M.2.2 0 15 = some 147 from (xp0_15 hX)) ?_
            refine Rn.iload dX11_nextSpots_48 rfl ?_
            refine Rn.iload_n dX11_nextSpots_50 rfl ?_
            refine Rn.iast dX11_nextSpots_51 (xc147 hX) (by unfold vp_in; decide) ?_
            refine Rn.iincv (j' := 1) (lv' := [some (.ref 0), some (.int 2), some (.int 0), some (.int ((nI a.1) + 1)), some (.int (0 + 1))]) dX11_nextSpots_52 rfl rfl (by decide) rfl ?_
            show Rn G l mX11_nextSpots (1, 0, 0, false) 55 [some (.ref 0), some (.int 2), some (.int 0), some (.int ((nI a.1) + 1)), some (.int 1)] [] ly (sI M 147 (upd (M.1 147) 0 ((nI a.1) + 1))) Q
            refine Rn.goto dX11_nextSpots_55 ?_
            refine Rn.iload dX11_nextSpots_38 rfl ?_
            refine Rn.iload_n dX11_nextSpots_40 rfl ?_
            refine Rn.icmp_ge dX11_nextSpots_41 (fun hl => ?_) (fun hl => ?_)
            · skip
              exact absurd hl (by decide)
            · skip
              refine Rn.aload_n dX11_nextSpots_44 rfl ?_
              refine Rn.getR dX11_nextSpots_45 fX11_84 rfl (xc0 hX) (show M.2.2 0 15 = some 147 from (xp0_15 hX)) ?_
              refine Rn.iload dX11_nextSpots_48 rfl ?_
              refine Rn.iload_n dX11_nextSpots_50 rfl ?_
              refine Rn.iast dX11_nextSpots_51 (xc147 hX) (by unfold vp_in; decide) ?_
              refine Rn.meq (M2 := sI M 147 (upd (upd (M.1 147) 0 ((nI a.1) + 1)) 1 ((nI a.1) + 1))) (sI_sI _ _ _ _) ?_
              refine Rn.iincv (j' := 1) (lv' := [some (.ref 0), some (.int 2), some (.int 0), some (.int ((nI a.1) + 1)), some (.int (1 + 1))]) dX11_nextSpots_52 rfl rfl (by decide) rfl ?_
              show Rn G l mX11_nextSpots (1, 0, 0, false) 55 [some (.ref 0), some (.int 2), some (.int 0), some (.int ((nI a.1) + 1)), some (.int 2)] [] ly (sI M 147 (upd (upd (M.1 147) 0 ((nI a.1) + 1)) 1 ((nI a.1) + 1))) Q
              refine Rn.goto dX11_nextSpots_55 ?_
              refine Rn.iload dX11_nextSpots_38 rfl ?_
              refine Rn.iload_n dX11_nextSpots_40 rfl ?_
              refine Rn.icmp_ge dX11_nextSpots_41 (fun hl => ?_) (fun hl => ?_)
              · skip
                refine Rn.iconstv (v := 1) dX11_nextSpots_58 ic_1 ?_
                rw [n1_le hn2 hn12 ha.2.1] at hc1
                rw [n1_le hn2 hn12 ha.1] at hc0
                exact Rn.iret (ty := .boolean) dX11_nextSpots_59 rfl rfl (hQ.2 (a.1 + 1, a.1 + 1, a.2.2) _ (by unfold nxS; simp only []; rw [if_neg hc1]; rw [if_pos (Decidable.of_not_not hc0)]) (row3.up (a := a) (nI_1 _) (nI_1 _) (hr 2 (by decide))))
              · skip
                exact absurd (by decide) hl
    · skip
      refine Rn.aload_n dX11_nextSpots_26 rfl ?_
      refine Rn.getR dX11_nextSpots_27 fX11_84 rfl (xc0 hX) (show M.2.2 0 15 = some 147 from (xp0_15 hX)) ?_
      refine Rn.iload_n dX11_nextSpots_30 rfl ?_
      refine Rn.iald dX11_nextSpots_31 (xc147 hX) (by unfold vp_in; decide) ?_
      refine Rn.topI (y := M.1 147 1) (rfl) ?_
      refine Rn.topI (y := nI a.2.1) (hr 1 (by decide)) ?_
      refine Rn.iconstv (v := 1) dX11_nextSpots_32 ic_1 ?_
      refine Rn.iadd dX11_nextSpots_33 ?_
      refine Rn.istore_n (lv' := [some (.ref 0), some (.int 2), some (.int 1), some (.int ((nI a.2.1) + 1)), none]) dX11_nextSpots_34 (by decide) rfl ?_
      refine Rn.iload_n dX11_nextSpots_35 rfl ?_
      refine Rn.istore (lv' := [some (.ref 0), some (.int 2), some (.int 1), some (.int ((nI a.2.1) + 1)), some (.int 1)]) dX11_nextSpots_36 (by decide) rfl ?_
      refine Rn.iload dX11_nextSpots_38 rfl ?_
      refine Rn.iload_n dX11_nextSpots_40 rfl ?_
      refine Rn.icmp_ge dX11_nextSpots_41 (fun hl => ?_) (fun hl => ?_)
      · skip
        exact absurd hl (by decide)
      · skip
        refine Rn.aload_n dX11_nextSpots_44 rfl ?_
        refine Rn.getR dX11_nextSpots_45 fX11_84 rfl (xc0 hX) (show M.2.2 0 15 = some 147 from (xp0_15 hX)) ?_
        refine Rn.iload dX11_nextSpots_48 rfl ?_
        refine Rn.iload_n dX11_nextSpots_50 rfl ?_
        refine Rn.iast dX11_nextSpots_51 (xc147 hX) (by unfold vp_in; decide) ?_
        refine Rn.iincv (j' := 1) (lv' := [some (.ref 0), some (.int 2), some (.int 1), some (.int ((nI a.2.1) + 1)), some (.int (1 + 1))]) dX11_nextSpots_52 rfl rfl (by decide) rfl ?_
        show Rn G l mX11_nextSpots (1, 0, 0, false) 55 [some (.ref 0), some (.int 2), some (.int 1), some (.int ((nI a.2.1) + 1)), some (.int 2)] [] ly (sI M 147 (upd (M.1 147) 1 ((nI a.2.1) + 1))) Q
        refine Rn.goto dX11_nextSpots_55 ?_
        refine Rn.iload dX11_nextSpots_38 rfl ?_
        refine Rn.iload_n dX11_nextSpots_40 rfl ?_
        refine Rn.icmp_ge dX11_nextSpots_41 (fun hl => ?_) (fun hl => ?_)
        · skip
          refine Rn.iconstv (v := 1) dX11_nextSpots_58 ic_1 ?_
          rw [n1_le hn2 hn12 ha.2.1] at hc1
          exact Rn.iret (ty := .boolean) dX11_nextSpots_59 rfl rfl (hQ.2 (a.1, a.2.1 + 1, a.2.2) _ (by unfold nxS; simp only []; rw [if_pos (Decidable.of_not_not hc1)]) (row3.up (a := a) (hr 0 (by decide)) (nI_1 _) (hr 2 (by decide))))
        · skip
          exact absurd (by decide) hl
theorem tX11_nextSpots3 {G : Gx} {l : Launch} {ly : Ly} {M : Mm} {pl n nw nu nv : Nat} {a : Nat × Nat × Nat} (hXS : XS ly M pl n nw nu nv) (hr : row3 (M.1 147) a) (ha : a.1 < n ∧ a.2.1 < n ∧ a.2.2 < n) {Q : Qt} (hQ : (nxS n 3 a = none → Q (some (.int 0)) ly M) ∧ (∀ b f, nxS n 3 a = some b → row3 f b → Q (some (.int 1)) ly (sI M 147 f))) : Mt G l mX11_nextSpots (1, 0, 0, false) [.ref 0, .int 3] ly M Q := by
  have hXS0 := hXS
  obtain ⟨hX, hpl, hp7, ⟨n0, n1, n2, n3⟩, ⟨hn, hn2, hn12⟩, ⟨hw1, hw2, hw6⟩, ⟨hu1, hu2, hv1, hv2⟩, hgl, hbb⟩ := hXS
  refine Mt.of (lv := [some (.ref 0), some (.int 3), none, none, none]) rfl ?_
  refine Rn.iload_n dX11_nextSpots_0 rfl ?_
  refine Rn.iconstv (v := 1) dX11_nextSpots_1 ic_1 ?_
  refine Rn.isub dX11_nextSpots_2 ?_
  show Rn G l mX11_nextSpots (1, 0, 0, false) 3 [some (.ref 0), some (.int 3), none, none, none] [.int 2] ly M Q
  refine Rn.istore_n (lv' := [some (.ref 0), some (.int 3), some (.int 2), none, none]) dX11_nextSpots_3 (by decide) rfl ?_
  refine Rn.iload_n dX11_nextSpots_4 rfl ?_
  refine Rn.if_lt dX11_nextSpots_5 (fun hl => ?_) (fun hl => ?_)
  · skip
    exact absurd hl (by decide)
  · skip
    refine Rn.aload_n dX11_nextSpots_8 rfl ?_
    refine Rn.getR dX11_nextSpots_9 fX11_84 rfl (xc0 hX) (show M.2.2 0 15 = some 147 from (xp0_15 hX)) ?_
    refine Rn.iload_n dX11_nextSpots_12 rfl ?_
    refine Rn.iald dX11_nextSpots_13 (xc147 hX) (by unfold vp_in; decide) ?_
    refine Rn.topI (y := M.1 147 2) (rfl) ?_
    refine Rn.topI (y := nI a.2.2) (hr 2 (by decide)) ?_
    refine Rn.aload_n dX11_nextSpots_14 rfl ?_
    refine Rn.getR dX11_nextSpots_15 fX11_27 rfl (xc0 hX) (show M.2.2 0 3 = some pl from hpl) ?_
    refine Rn.getI dX11_nextSpots_18 fX11_209 rfl (pc0 hX hp7) ?_
    refine Rn.topI (y := nI n) (hn) ?_
    refine Rn.iconstv (v := 1) dX11_nextSpots_21 ic_1 ?_
    refine Rn.isub dX11_nextSpots_22 ?_
    refine Rn.icmp_ge dX11_nextSpots_23 (fun hc2 => ?_) (fun hc2 => ?_)
    · skip
      refine Rn.iincv (j' := -1) (lv' := [some (.ref 0), some (.int 3), some (.int (2 + (-1))), none, none]) dX11_nextSpots_60 rfl rfl (by decide) rfl ?_
      show Rn G l mX11_nextSpots (1, 0, 0, false) 63 [some (.ref 0), some (.int 3), some (.int 1), none, none] [] ly M Q
      refine Rn.goto dX11_nextSpots_63 ?_
      refine Rn.iload_n dX11_nextSpots_4 rfl ?_
      refine Rn.if_lt dX11_nextSpots_5 (fun hl => ?_) (fun hl => ?_)
      · skip
        exact absurd hl (by decide)
      · skip
        refine Rn.aload_n dX11_nextSpots_8 rfl ?_
        refine Rn.getR dX11_nextSpots_9 fX11_84 rfl (xc0 hX) (show M.2.2 0 15 = some 147 from (xp0_15 hX)) ?_
        refine Rn.iload_n dX11_nextSpots_12 rfl ?_
        refine Rn.iald dX11_nextSpots_13 (xc147 hX) (by unfold vp_in; decide) ?_
        refine Rn.topI (y := M.1 147 1) (rfl) ?_
        refine Rn.topI (y := nI a.2.1) (hr 1 (by decide)) ?_
        refine Rn.aload_n dX11_nextSpots_14 rfl ?_
        refine Rn.getR dX11_nextSpots_15 fX11_27 rfl (xc0 hX) (show M.2.2 0 3 = some pl from hpl) ?_
        refine Rn.getI dX11_nextSpots_18 fX11_209 rfl (pc0 hX hp7) ?_
        refine Rn.topI (y := nI n) (hn) ?_
        refine Rn.iconstv (v := 1) dX11_nextSpots_21 ic_1 ?_
        refine Rn.isub dX11_nextSpots_22 ?_
        refine Rn.icmp_ge dX11_nextSpots_23 (fun hc1 => ?_) (fun hc1 => ?_)
        · skip
          refine Rn.iincv (j' := -1) (lv' := [some (.ref 0), some (.int 3), some (.int (1 + (-1))), none, none]) dX11_nextSpots_60 rfl rfl (by decide) rfl ?_
          show Rn G l mX11_nextSpots (1, 0, 0, false) 63 [some (.ref 0), some (.int 3), some (.int 0), none, none] [] ly M Q
          refine Rn.goto dX11_nextSpots_63 ?_
          refine Rn.iload_n dX11_nextSpots_4 rfl ?_
          refine Rn.if_lt dX11_nextSpots_5 (fun hl => ?_) (fun hl => ?_)
          · skip
            exact absurd hl (by decide)
          · skip
            refine Rn.aload_n dX11_nextSpots_8 rfl ?_
            refine Rn.getR dX11_nextSpots_9 fX11_84 rfl (xc0 hX) (show M.2.2 0 15 = some 147 from (xp0_15 hX)) ?_
            refine Rn.iload_n dX11_nextSpots_12 rfl ?_
            refine Rn.iald dX11_nextSpots_13 (xc147 hX) (by unfold vp_in; decide) ?_
            refine Rn.topI (y := M.1 147 0) (rfl) ?_
            refine Rn.topI (y := nI a.1) (hr 0 (by decide)) ?_
            refine Rn.aload_n dX11_nextSpots_14 rfl ?_
            refine Rn.getR dX11_nextSpots_15 fX11_27 rfl (xc0 hX) (show M.2.2 0 3 = some pl from hpl) ?_
            refine Rn.getI dX11_nextSpots_18 fX11_209 rfl (pc0 hX hp7) ?_
            refine Rn.topI (y := nI n) (hn) ?_
            refine Rn.iconstv (v := 1) dX11_nextSpots_21 ic_1 ?_
            refine Rn.isub dX11_nextSpots_22 ?_
            refine Rn.icmp_ge dX11_nextSpots_23 (fun hc0 => ?_) (fun hc0 => ?_)
            · skip
              refine Rn.iincv (j' := -1) (lv' := [some (.ref 0), some (.int 3), some (.int (0 + (-1))), none, none]) dX11_nextSpots_60 rfl rfl (by decide) rfl ?_
              show Rn G l mX11_nextSpots (1, 0, 0, false) 63 [some (.ref 0), some (.int 3), some (.int (-1)), none, none] [] ly M Q
              refine Rn.goto dX11_nextSpots_63 ?_
              refine Rn.iload_n dX11_nextSpots_4 rfl ?_
              refine Rn.if_lt dX11_nextSpots_5 (fun hl => ?_) (fun hl => ?_)
              · skip
                refine Rn.iconstv (v := 0) dX11_nextSpots_66 ic_0 ?_
                rw [n1_le hn2 hn12 ha.2.2] at hc2
                rw [n1_le hn2 hn12 ha.2.1] at hc1
                rw [n1_le hn2 hn12 ha.1] at hc0
                exact Rn.iret (ty := .boolean) dX11_nextSpots_67 rfl rfl (hQ.1 (by unfold nxS; simp only []; rw [if_neg hc2]; rw [if_neg hc1]; rw [if_neg hc0]))
              · skip
                exact absurd (by decide) hl
            · skip
              refine Rn.aload_n dX11_nextSpots_26 rfl ?_
              refine Rn.getR dX11_nextSpots_27 fX11_84 rfl (xc0 hX) (show M.2.2 0 15 = some 147 from (xp0_15 hX)) ?_
              refine Rn.iload_n dX11_nextSpots_30 rfl ?_
              refine Rn.iald dX11_nextSpots_31 (xc147 hX) (by unfold vp_in; decide) ?_
              refine Rn.topI (y := M.1 147 0) (rfl) ?_
              refine Rn.topI (y := nI a.1) (hr 0 (by decide)) ?_
              refine Rn.iconstv (v := 1) dX11_nextSpots_32 ic_1 ?_
              refine Rn.iadd dX11_nextSpots_33 ?_
              refine Rn.istore_n (lv' := [some (.ref 0), some (.int 3), some (.int 0), some (.int ((nI a.1) + 1)), none]) dX11_nextSpots_34 (by decide) rfl ?_
              refine Rn.iload_n dX11_nextSpots_35 rfl ?_
              refine Rn.istore (lv' := [some (.ref 0), some (.int 3), some (.int 0), some (.int ((nI a.1) + 1)), some (.int 0)]) dX11_nextSpots_36 (by decide) rfl ?_
              refine Rn.iload dX11_nextSpots_38 rfl ?_
              refine Rn.iload_n dX11_nextSpots_40 rfl ?_
              refine Rn.icmp_ge dX11_nextSpots_41 (fun hl => ?_) (fun hl => ?_)
              · skip
                exact absurd hl (by decide)
              · skip
                refine Rn.aload_n dX11_nextSpots_44 rfl ?_
                refine Rn.getR dX11_nextSpots_45 fX11_84 rfl (xc0 hX) (show M.2.2 0 15 = some 147 from (xp0_15 hX)) ?_
                refine Rn.iload dX11_nextSpots_48 rfl ?_
                refine Rn.iload_n dX11_nextSpots_50 rfl ?_
                refine Rn.iast dX11_nextSpots_51 (xc147 hX) (by unfold vp_in; decide) ?_
                refine Rn.iincv (j' := 1) (lv' := [some (.ref 0), some (.int 3), some (.int 0), some (.int ((nI a.1) + 1)), some (.int (0 + 1))]) dX11_nextSpots_52 rfl rfl (by decide) rfl ?_
                show Rn G l mX11_nextSpots (1, 0, 0, false) 55 [some (.ref 0), some (.int 3), some (.int 0), some (.int ((nI a.1) + 1)), some (.int 1)] [] ly (sI M 147 (upd (M.1 147) 0 ((nI a.1) + 1))) Q
                refine Rn.goto dX11_nextSpots_55 ?_
                refine Rn.iload dX11_nextSpots_38 rfl ?_
                refine Rn.iload_n dX11_nextSpots_40 rfl ?_
                refine Rn.icmp_ge dX11_nextSpots_41 (fun hl => ?_) (fun hl => ?_)
                · skip
                  exact absurd hl (by decide)
                · skip
                  refine Rn.aload_n dX11_nextSpots_44 rfl ?_
                  refine Rn.getR dX11_nextSpots_45 fX11_84 rfl (xc0 hX) (show M.2.2 0 15 = some 147 from (xp0_15 hX)) ?_
                  refine Rn.iload dX11_nextSpots_48 rfl ?_
                  refine Rn.iload_n dX11_nextSpots_50 rfl ?_
                  refine Rn.iast dX11_nextSpots_51 (xc147 hX) (by unfold vp_in; decide) ?_
                  refine Rn.meq (M2 := sI M 147 (upd (upd (M.1 147) 0 ((nI a.1) + 1)) 1 ((nI a.1) + 1))) (sI_sI _ _ _ _) ?_
                  refine Rn.iincv (j' := 1) (lv' := [some (.ref 0), some (.int 3), some (.int 0), some (.int ((nI a.1) + 1)), some (.int (1 + 1))]) dX11_nextSpots_52 rfl rfl (by decide) rfl ?_
                  show Rn G l mX11_nextSpots (1, 0, 0, false) 55 [some (.ref 0), some (.int 3), some (.int 0), some (.int ((nI a.1) + 1)), some (.int 2)] [] ly (sI M 147 (upd (upd (M.1 147) 0 ((nI a.1) + 1)) 1 ((nI a.1) + 1))) Q
                  refine Rn.goto dX11_nextSpots_55 ?_
                  refine Rn.iload dX11_nextSpots_38 rfl ?_
                  refine Rn.iload_n dX11_nextSpots_40 rfl ?_
                  refine Rn.icmp_ge dX11_nextSpots_41 (fun hl => ?_) (fun hl => ?_)
                  · skip
                    exact absurd hl (by decide)
                  · skip
                    refine Rn.aload_n dX11_nextSpots_44 rfl ?_
                    refine Rn.getR dX11_nextSpots_45 fX11_84 rfl (xc0 hX) (show M.2.2 0 15 = some 147 from (xp0_15 hX)) ?_
                    refine Rn.iload dX11_nextSpots_48 rfl ?_
                    refine Rn.iload_n dX11_nextSpots_50 rfl ?_
                    refine Rn.iast dX11_nextSpots_51 (xc147 hX) (by unfold vp_in; decide) ?_
                    refine Rn.meq (M2 := sI M 147 (upd (upd (upd (M.1 147) 0 ((nI a.1) + 1)) 1 ((nI a.1) + 1)) 2 ((nI a.1) + 1))) (sI_sI _ _ _ _) ?_
                    refine Rn.iincv (j' := 1) (lv' := [some (.ref 0), some (.int 3), some (.int 0), some (.int ((nI a.1) + 1)), some (.int (2 + 1))]) dX11_nextSpots_52 rfl rfl (by decide) rfl ?_
                    show Rn G l mX11_nextSpots (1, 0, 0, false) 55 [some (.ref 0), some (.int 3), some (.int 0), some (.int ((nI a.1) + 1)), some (.int 3)] [] ly (sI M 147 (upd (upd (upd (M.1 147) 0 ((nI a.1) + 1)) 1 ((nI a.1) + 1)) 2 ((nI a.1) + 1))) Q
                    refine Rn.goto dX11_nextSpots_55 ?_
                    refine Rn.iload dX11_nextSpots_38 rfl ?_
                    refine Rn.iload_n dX11_nextSpots_40 rfl ?_
                    refine Rn.icmp_ge dX11_nextSpots_41 (fun hl => ?_) (fun hl => ?_)
                    · skip
                      refine Rn.iconstv (v := 1) dX11_nextSpots_58 ic_1 ?_
                      rw [n1_le hn2 hn12 ha.2.2] at hc2
                      rw [n1_le hn2 hn12 ha.2.1] at hc1
                      rw [n1_le hn2 hn12 ha.1] at hc0
                      exact Rn.iret (ty := .boolean) dX11_nextSpots_59 rfl rfl (hQ.2 (a.1 + 1, a.1 + 1, a.1 + 1) _ (by unfold nxS; simp only []; rw [if_neg hc2]; rw [if_neg hc1]; rw [if_pos (Decidable.of_not_not hc0)]) (row3.up (a := a) (nI_1 _) (nI_1 _) (nI_1 _)))
                    · skip
                      exact absurd (by decide) hl
        · skip
          refine Rn.aload_n dX11_nextSpots_26 rfl ?_
          refine Rn.getR dX11_nextSpots_27 fX11_84 rfl (xc0 hX) (show M.2.2 0 15 = some 147 from (xp0_15 hX)) ?_
          refine Rn.iload_n dX11_nextSpots_30 rfl ?_
          refine Rn.iald dX11_nextSpots_31 (xc147 hX) (by unfold vp_in; decide) ?_
          refine Rn.topI (y := M.1 147 1) (rfl) ?_
          refine Rn.topI (y := nI a.2.1) (hr 1 (by decide)) ?_
          refine Rn.iconstv (v := 1) dX11_nextSpots_32 ic_1 ?_
          refine Rn.iadd dX11_nextSpots_33 ?_
          refine Rn.istore_n (lv' := [some (.ref 0), some (.int 3), some (.int 1), some (.int ((nI a.2.1) + 1)), none]) dX11_nextSpots_34 (by decide) rfl ?_
          refine Rn.iload_n dX11_nextSpots_35 rfl ?_
          refine Rn.istore (lv' := [some (.ref 0), some (.int 3), some (.int 1), some (.int ((nI a.2.1) + 1)), some (.int 1)]) dX11_nextSpots_36 (by decide) rfl ?_
          refine Rn.iload dX11_nextSpots_38 rfl ?_
          refine Rn.iload_n dX11_nextSpots_40 rfl ?_
          refine Rn.icmp_ge dX11_nextSpots_41 (fun hl => ?_) (fun hl => ?_)
          · skip
            exact absurd hl (by decide)
          · skip
            refine Rn.aload_n dX11_nextSpots_44 rfl ?_
            refine Rn.getR dX11_nextSpots_45 fX11_84 rfl (xc0 hX) (show M.2.2 0 15 = some 147 from (xp0_15 hX)) ?_
            refine Rn.iload dX11_nextSpots_48 rfl ?_
            refine Rn.iload_n dX11_nextSpots_50 rfl ?_
            refine Rn.iast dX11_nextSpots_51 (xc147 hX) (by unfold vp_in; decide) ?_
            refine Rn.iincv (j' := 1) (lv' := [some (.ref 0), some (.int 3), some (.int 1), some (.int ((nI a.2.1) + 1)), some (.int (1 + 1))]) dX11_nextSpots_52 rfl rfl (by decide) rfl ?_
            show Rn G l mX11_nextSpots (1, 0, 0, false) 55 [some (.ref 0), some (.int 3), some (.int 1), some (.int ((nI a.2.1) + 1)), some (.int 2)] [] ly (sI M 147 (upd (M.1 147) 1 ((nI a.2.1) + 1))) Q
            refine Rn.goto dX11_nextSpots_55 ?_
            refine Rn.iload dX11_nextSpots_38 rfl ?_
            refine Rn.iload_n dX11_nextSpots_40 rfl ?_
            refine Rn.icmp_ge dX11_nextSpots_41 (fun hl => ?_) (fun hl => ?_)
            · skip
              exact absurd hl (by decide)
            · skip
              refine Rn.aload_n dX11_nextSpots_44 rfl ?_
              refine Rn.getR dX11_nextSpots_45 fX11_84 rfl (xc0 hX) (show M.2.2 0 15 = some 147 from (xp0_15 hX)) ?_
              refine Rn.iload dX11_nextSpots_48 rfl ?_
              refine Rn.iload_n dX11_nextSpots_50 rfl ?_
              refine Rn.iast dX11_nextSpots_51 (xc147 hX) (by unfold vp_in; decide) ?_
              refine Rn.meq (M2 := sI M 147 (upd (upd (M.1 147) 1 ((nI a.2.1) + 1)) 2 ((nI a.2.1) + 1))) (sI_sI _ _ _ _) ?_
              refine Rn.iincv (j' := 1) (lv' := [some (.ref 0), some (.int 3), some (.int 1), some (.int ((nI a.2.1) + 1)), some (.int (2 + 1))]) dX11_nextSpots_52 rfl rfl (by decide) rfl ?_
              show Rn G l mX11_nextSpots (1, 0, 0, false) 55 [some (.ref 0), some (.int 3), some (.int 1), some (.int ((nI a.2.1) + 1)), some (.int 3)] [] ly (sI M 147 (upd (upd (M.1 147) 1 ((nI a.2.1) + 1)) 2 ((nI a.2.1) + 1))) Q
              refine Rn.goto dX11_nextSpots_55 ?_
              refine Rn.iload dX11_nextSpots_38 rfl ?_
              refine Rn.iload_n dX11_nextSpots_40 rfl ?_
              refine Rn.icmp_ge dX11_nextSpots_41 (fun hl => ?_) (fun hl => ?_)
              · skip
                refine Rn.iconstv (v := 1) dX11_nextSpots_58 ic_1 ?_
                rw [n1_le hn2 hn12 ha.2.2] at hc2
                rw [n1_le hn2 hn12 ha.2.1] at hc1
                exact Rn.iret (ty := .boolean) dX11_nextSpots_59 rfl rfl (hQ.2 (a.1, a.2.1 + 1, a.2.1 + 1) _ (by unfold nxS; simp only []; rw [if_neg hc2]; rw [if_pos (Decidable.of_not_not hc1)]) (row3.up (a := a) (hr 0 (by decide)) (nI_1 _) (nI_1 _)))
              · skip
                exact absurd (by decide) hl
    · skip
      refine Rn.aload_n dX11_nextSpots_26 rfl ?_
      refine Rn.getR dX11_nextSpots_27 fX11_84 rfl (xc0 hX) (show M.2.2 0 15 = some 147 from (xp0_15 hX)) ?_
      refine Rn.iload_n dX11_nextSpots_30 rfl ?_
      refine Rn.iald dX11_nextSpots_31 (xc147 hX) (by unfold vp_in; decide) ?_
      refine Rn.topI (y := M.1 147 2) (rfl) ?_
      refine Rn.topI (y := nI a.2.2) (hr 2 (by decide)) ?_
      refine Rn.iconstv (v := 1) dX11_nextSpots_32 ic_1 ?_
      refine Rn.iadd dX11_nextSpots_33 ?_
      refine Rn.istore_n (lv' := [some (.ref 0), some (.int 3), some (.int 2), some (.int ((nI a.2.2) + 1)), none]) dX11_nextSpots_34 (by decide) rfl ?_
      refine Rn.iload_n dX11_nextSpots_35 rfl ?_
      refine Rn.istore (lv' := [some (.ref 0), some (.int 3), some (.int 2), some (.int ((nI a.2.2) + 1)), some (.int 2)]) dX11_nextSpots_36 (by decide) rfl ?_
      refine Rn.iload dX11_nextSpots_38 rfl ?_
      refine Rn.iload_n dX11_nextSpots_40 rfl ?_
      refine Rn.icmp_ge dX11_nextSpots_41 (fun hl => ?_) (fun hl => ?_)
      · skip
        exact absurd hl (by decide)
      · skip
        refine Rn.aload_n dX11_nextSpots_44 rfl ?_
        refine Rn.getR dX11_nextSpots_45 fX11_84 rfl (xc0 hX) (show M.2.2 0 15 = some 147 from (xp0_15 hX)) ?_
        refine Rn.iload dX11_nextSpots_48 rfl ?_
        refine Rn.iload_n dX11_nextSpots_50 rfl ?_
        refine Rn.iast dX11_nextSpots_51 (xc147 hX) (by unfold vp_in; decide) ?_
        refine Rn.iincv (j' := 1) (lv' := [some (.ref 0), some (.int 3), some (.int 2), some (.int ((nI a.2.2) + 1)), some (.int (2 + 1))]) dX11_nextSpots_52 rfl rfl (by decide) rfl ?_
        show Rn G l mX11_nextSpots (1, 0, 0, false) 55 [some (.ref 0), some (.int 3), some (.int 2), some (.int ((nI a.2.2) + 1)), some (.int 3)] [] ly (sI M 147 (upd (M.1 147) 2 ((nI a.2.2) + 1))) Q
        refine Rn.goto dX11_nextSpots_55 ?_
        refine Rn.iload dX11_nextSpots_38 rfl ?_
        refine Rn.iload_n dX11_nextSpots_40 rfl ?_
        refine Rn.icmp_ge dX11_nextSpots_41 (fun hl => ?_) (fun hl => ?_)
        · skip
          refine Rn.iconstv (v := 1) dX11_nextSpots_58 ic_1 ?_
          rw [n1_le hn2 hn12 ha.2.2] at hc2
          exact Rn.iret (ty := .boolean) dX11_nextSpots_59 rfl rfl (hQ.2 (a.1, a.2.1, a.2.2 + 1) _ (by unfold nxS; simp only []; rw [if_pos (Decidable.of_not_not hc2)]) (row3.up (a := a) (hr 0 (by decide)) (hr 1 (by decide)) (nI_1 _)))
        · skip
          exact absurd (by decide) hl
def fcK (fc : Nat → Int32) (nf : Nat) (a : Nat × Nat × Nat) : Nat → Nat → Int32
  | 0 => fc
  | j + 1 => upd (fcK fc nf a j) (nf + j) (nI (gt3 a j))
def fkK (fk : Nat → Int32) (nf : Nat) (y : Int32) : Nat → Nat → Int32
  | 0 => fk
  | j + 1 => upd (fkK fk nf y j) (nf + j) y
/-- the calm with k more who are fat -/
def caK (c0 : Int32) (ca fc fk : Nat → Int32) (nf : Nat) (y : Int32) (a : Nat × Nat × Nat) : Nat → Nat → Int32
  | 0 => ca
  | j + 1 => rfC c0 (fcK fc nf a (j + 1)) (fkK fk nf y (j + 1)) (fun _ => 0) (nf + (j + 1))
theorem gt3_lt {n : Nat} {a : Nat × Nat × Nat} (hn : n ≤ 12) (ha : a.1 < n ∧ a.2.1 < n ∧ a.2.2 < n) (j : Nat) : gt3 a j < 12 := by
  unfold gt3
  split
  · omega
  · split <;> omega
theorem fcK_in {fc : Nat → Int32} {nf n : Nat} {a : Nat × Nat × Nat} (hn : n ≤ 12) (h : ∀ i, i < nf → vp_in (fc i) 12) (ha : a.1 < n ∧ a.2.1 < n ∧ a.2.2 < n) : ∀ k i : Nat, i < nf + k → vp_in (fcK fc nf a k i) 12
  | 0, i, hi => h i hi
  | k + 1, i, hi => by
    unfold fcK
    by_cases e : i = nf + k
    · subst e; rw [pk_us]; exact vp_in_nI (gt3_lt hn ha k) (by decide)
    · rw [pk_un e]; exact fcK_in hn h ha k i (by omega)
def lhF (H : Nat × Nat × Nat → Int32) : List (Nat × Nat × Nat) → Int32 × Option (Nat × Nat × Nat) → Int32 × Option (Nat × Nat × Nat)
  | [], p => p
  | a :: r, p => lhF H r (if H a < p.1 then (H a, some a) else p)
/-- the spots from a on -/
def lsS (n k : Nat) : Nat → Nat × Nat × Nat → List (Nat × Nat × Nat)
  | 0, _ => []
  | f + 1, a => a :: (match nxS n k a with
    | none => []
    | some b => lsS n k f b)
theorem lsS_n {n k f : Nat} {a : Nat × Nat × Nat} (h : nxS n k a = none) : lsS n k (f + 1) a = [a] := by unfold lsS; rw [h]
theorem lsS_s {n k f : Nat} {a b : Nat × Nat × Nat} (h : nxS n k a = some b) : lsS n k (f + 1) a = a :: lsS n k f b := by rw [lsS]; rw [h]
def bst (o : Option (Nat × Nat × Nat)) (f : Nat → Int32) : Prop := match o with
  | none => True
  | some b => row3 f b
theorem mx_l (x y : Int32) : x ≤ mx x y := by
  unfold mx
  split
  · rename_i h; exact Int32.le_of_lt h
  · exact Int32.le_refl x
theorem hgS_mono {T : Sc → Sc} {s : Sc} {n : Nat} {k : Nat} : ∀ K : Nat, k ≤ K → hgS T s n k ≤ hgS T s n K
  | 0, h => by obtain rfl : k = 0 := by omega
               exact Int32.le_refl _
  | K + 1, h => by
    by_cases e : k = K + 1
    · subst e; exact Int32.le_refl _
    · exact Int32.le_trans (hgS_mono K (by omega)) (mx_l _ _)
theorem m1_lt {p v : Int32} (hp : 0 ≤ p) : p - 1 < v ↔ p ≤ v := by
  rw [Int32.le_iff_toInt_le] at *
  rw [Int32.lt_iff_toInt_lt, Int32.toInt_sub, show (1 : Int32).toInt = 1 from rfl]
  rw [show (0 : Int32).toInt = 0 from rfl] at hp
  have := Int32.toInt_lt p
  have := Int32.le_toInt v
  rw [Int.bmod_eq_of_le (by omega) (by omega)]
  omega
theorem nxS_lt {n k : Nat} {a b : Nat × Nat × Nat} (ha : a.1 < n ∧ a.2.1 < n ∧ a.2.2 < n) (h : nxS n k a = some b) : b.1 < n ∧ b.2.1 < n ∧ b.2.2 < n := by
  unfold nxS at h
  split at h
  · cases h
  · split at h
    · cases h; simp only []; omega
    · cases h
  · split at h
    · cases h; simp only []; omega
    · split at h
      · cases h; simp only []; omega
      · cases h
  · split at h
    · cases h; simp only []; omega
    · split at h
      · cases h; simp only []; omega
      · split at h
        · cases h; simp only []; omega
        · cases h
theorem bd_1 {b : Int32} (h : 0 ≤ b ∧ b ≤ 100000) : 0 ≤ b + 1 ∧ b + 1 ≤ 100001 := by
  have e1 : (100000 : Int32).toInt = 100000 := by decide
  have e2 : (100001 : Int32).toInt = 100001 := by decide
  have e0 : (0 : Int32).toInt = 0 := by decide
  obtain ⟨h1, h2⟩ := h
  rw [Int32.le_iff_toInt_le] at *
  rw [Int32.toInt_add, show (1 : Int32).toInt = 1 from rfl, Int.bmod_eq_of_le (by omega) (by omega), Int32.le_iff_toInt_le, Int32.toInt_add, show (1 : Int32).toInt = 1 from rfl, Int.bmod_eq_of_le (by omega) (by omega)]
  omega
theorem tX11_leastHigh0 {G : Gx} {l : Launch} {ly : Ly} {M : Mm} {pl n nw nu nv nf : Nat} {N : Nat} {y bd : Int32} {M0 : Mm} (hq0 : quX M M0) (hN : N < 1000) (hbd : 0 ≤ bd ∧ bd ≤ 100000) (hnf : nf + 0 ≤ 8) (hXS : XS ly M pl n nw nu nv) (hF : M.1 87 0 = nI nf ∧ nf ≤ 8 ∧ ∀ i, i < nf → vp_in (M.1 88 i) 12) {Q : Qt} (hQ : ∀ M' : Mm, quX M M' → bst (lhF (fun a => hgS (TG M.1 pl n nw (fun k => M.1 (pl + 7 + k)) (pl + 18) nu (pl + 21) nv (M.1 75 4) 0 1 (caK (M.1 pl 3) (M.1 90) (M.1 88) (M.1 89) nf y a 0)) (vS M.1 75) n N) (lsS n 0 1728 (0, 0, 0)) (bd + 1, none)).2 (M'.1 148) → Q (some (.int (lhF (fun a => hgS (TG M.1 pl n nw (fun k => M.1 (pl + 7 + k)) (pl + 18) nu (pl + 21) nv (M.1 75 4) 0 1 (caK (M.1 pl 3) (M.1 90) (M.1 88) (M.1 89) nf y a 0)) (vS M.1 75) n N) (lsS n 0 1728 (0, 0, 0)) (bd + 1, none)).1)) ly M') : Mt G l mX11_leastHigh (7, 0, 0, false) [.ref 0, .int (nI N), .int 0, .int y, .int bd] ly M0 Q := by
  have hXS0 := hXS
  obtain ⟨hX, hpl, hp7, ⟨n0, n1, n2, n3⟩, ⟨hn, hn2, hn12⟩, ⟨hw1, hw2, hw6⟩, ⟨hu1, hu2, hv1, hv2⟩, hgl, hbb⟩ := hXS
  refine Mt.of (lv := [some (.ref 0), some (.int (nI N)), some (.int 0), some (.int y), some (.int bd), none, none, none, none, none]) rfl ?_
  have hXM0 := (hq0).xw hX
  have hplM0 : M0.2.2 0 3 = some pl := ((hq0).2.2 0 3 (by decide)).trans hpl
  have hnM0 : M0.1 pl 0 = nI n := (congrFun ((hq0).p0 hp7) 0).trans hn
  have hw1M0 : M0.1 (pl + 1) 0 = nI nw := (congrFun ((hq0).pk hp7 (k := 1) (by decide)) 0).trans hw1
  refine Rn.iload dX11_leastHigh_0 rfl ?_
  refine Rn.iconstv (v := 1) dX11_leastHigh_2 ic_1 ?_
  refine Rn.iadd dX11_leastHigh_3 ?_
  refine Rn.istore (lv' := [some (.ref 0), some (.int (nI N)), some (.int 0), some (.int y), some (.int bd), some (.int (bd + 1)), none, none, none, none]) dX11_leastHigh_4 (by decide) rfl ?_
  refine Rn.sipushv (v := 1728) dX11_leastHigh_6 sp_1728 ?_
  refine Rn.istore (lv' := [some (.ref 0), some (.int (nI N)), some (.int 0), some (.int y), some (.int bd), some (.int (bd + 1)), some (.int 1728), none, none, none]) dX11_leastHigh_9 (by decide) rfl ?_
  refine Rn.aload_n dX11_leastHigh_11 rfl ?_
  refine Rn.getR dX11_leastHigh_12 fX11_84 rfl (xc0 hXM0) (show M0.2.2 0 15 = some 147 from (xp0_15 hXM0)) ?_
  refine Rn.iconstv (v := 0) dX11_leastHigh_15 ic_0 ?_
  refine Rn.callS2 dX11_leastHigh_16 vX11_319 (tJ7_fill (a := 147) (N := 3) (xc147 hXM0) (by decide)) (by decide) ⟨(Nat.le_of_ble_eq_true rfl), (Nat.le_of_ble_eq_true rfl), (Nat.le_of_ble_eq_true rfl)⟩ (fun h => by cases h) (fun v1 ly1 M1 ⟨q1, q2, q3⟩ => ?_)
  rw [q1, q2, q3]
  show Rn G l mX11_leastHigh (7, 0, 0, false) 19 [some (.ref 0), some (.int (nI N)), some (.int 0), some (.int y), some (.int bd), some (.int (bd + 1)), some (.int 1728), none, none, none] [] ly (sI M0 147 (pre 3 (fun _ => 0) (M0.1 147))) Q
  refine Rn.iconstv (v := 1) dX11_leastHigh_19 ic_1 ?_
  refine Rn.istore (lv' := [some (.ref 0), some (.int (nI N)), some (.int 0), some (.int y), some (.int bd), some (.int (bd + 1)), some (.int 1728), some (.int 1), none, none]) dX11_leastHigh_20 (by decide) rfl ?_
  refine Rn.iconstv (v := 0) dX11_leastHigh_22 ic_0 ?_
  refine Rn.istore (lv' := [some (.ref 0), some (.int (nI N)), some (.int 0), some (.int y), some (.int bd), some (.int (bd + 1)), some (.int 1728), some (.int 1), some (.int 0), none]) dX11_leastHigh_23 (by decide) rfl ?_
  have hq1 : quX M (sI M0 147 (pre 3 (fun _ => 0) (M0.1 147))) := hq0.tr2 ⟨fun k _ _ _ _ h _ => sI_ne h, fun j _ => rfl, fun _ _ _ => rfl⟩
  have hr1 : row3 ((sI M0 147 (pre 3 (fun _ => 0) (M0.1 147))).1 147) (0, 0, 0) := row3.up (a := (0, 0, 0)) rfl rfl rfl
  generalize sI M0 147 (pre 3 (fun _ => 0) (M0.1 147)) = N1 at hq1 hr1 ⊢
  have fin : ∀ (i : Nat) (p : Int32) (K : Mm), i ≤ 1728 → Q (some (.int p)) ly K → Rn G l mX11_leastHigh (7, 0, 0, false) 25 [some (.ref 0), some (.int (nI N)), some (.int 0), some (.int y), some (.int bd), some (.int p), some (.int 1728), some (.int 0), some (.int (nI i)), none] [] ly K Q := by
    intro i p K hi hR
    refine Rn.iload dX11_leastHigh_25 rfl ?_
    refine Rn.iload dX11_leastHigh_27 rfl ?_
    refine Rn.icmp_ge dX11_leastHigh_29 (fun f1 => ?_) (fun f1 => ?_)
    · skip
      refine Rn.iload dX11_leastHigh_128 rfl ?_
      exact Rn.iret (ty := .int) dX11_leastHigh_130 rfl rfl hR
    · skip
      refine Rn.iload dX11_leastHigh_32 rfl ?_
      refine Rn.if_eq dX11_leastHigh_34 (fun f2 => ?_) (fun f2 => ?_)
      · skip
        refine Rn.iload dX11_leastHigh_128 rfl ?_
        exact Rn.iret (ty := .int) dX11_leastHigh_130 rfl rfl hR
      · skip
        exact absurd rfl f2
  have loop : ∀ (f i : Nat) (a : Nat × Nat × Nat) (p : Int32 × Option (Nat × Nat × Nat)) (N1 : Mm), i + f = 1728 → (0 ≤ p.1 ∧ p.1 ≤ 100001) → quX M N1 → row3 (N1.1 147) a → (a.1 < n ∧ a.2.1 < n ∧ a.2.2 < n) → bst p.2 (N1.1 148) → (∀ M' : Mm, quX M M' → bst (lhF (fun a => hgS (TG M.1 pl n nw (fun k => M.1 (pl + 7 + k)) (pl + 18) nu (pl + 21) nv (M.1 75 4) 0 1 (caK (M.1 pl 3) (M.1 90) (M.1 88) (M.1 89) nf y a 0)) (vS M.1 75) n N) (lsS n 0 f a) p).2 (M'.1 148) → Q (some (.int (lhF (fun a => hgS (TG M.1 pl n nw (fun k => M.1 (pl + 7 + k)) (pl + 18) nu (pl + 21) nv (M.1 75 4) 0 1 (caK (M.1 pl 3) (M.1 90) (M.1 88) (M.1 89) nf y a 0)) (vS M.1 75) n N) (lsS n 0 f a) p).1)) ly M') → Rn G l mX11_leastHigh (7, 0, 0, false) 25 [some (.ref 0), some (.int (nI N)), some (.int 0), some (.int y), some (.int bd), some (.int p.1), some (.int 1728), some (.int 1), some (.int (nI i)), none] [] ly N1 Q := by
    intro f
    induction f with
    | zero =>
      intro i a p N1 hi hp hq1 hr ha hb hR
      have hXN1 := (hq1).xw hX
      have hplN1 : N1.2.2 0 3 = some pl := ((hq1).2.2 0 3 (by decide)).trans hpl
      have hnN1 : N1.1 pl 0 = nI n := (congrFun ((hq1).p0 hp7) 0).trans hn
      have hw1N1 : N1.1 (pl + 1) 0 = nI nw := (congrFun ((hq1).pk hp7 (k := 1) (by decide)) 0).trans hw1
      refine Rn.iload dX11_leastHigh_25 rfl ?_
      refine Rn.iload dX11_leastHigh_27 rfl ?_
      refine Rn.icmp_ge dX11_leastHigh_29 (fun hc => ?_) (fun hc => ?_)
      · skip
        refine Rn.iload dX11_leastHigh_128 rfl ?_
        exact Rn.iret (ty := .int) dX11_leastHigh_130 rfl rfl (hR N1 hq1 hb)
      · skip
        exact absurd (nI_le (a := 1728) (b := i) (by omega) (by omega)) hc
    | succ f ih =>
      intro i a p N1 hi hp hq1 hr ha hb hR
      have hXN1 := (hq1).xw hX
      have hplN1 : N1.2.2 0 3 = some pl := ((hq1).2.2 0 3 (by decide)).trans hpl
      have hnN1 : N1.1 pl 0 = nI n := (congrFun ((hq1).p0 hp7) 0).trans hn
      have hw1N1 : N1.1 (pl + 1) 0 = nI nw := (congrFun ((hq1).pk hp7 (k := 1) (by decide)) 0).trans hw1
      refine Rn.iload dX11_leastHigh_25 rfl ?_
      refine Rn.iload dX11_leastHigh_27 rfl ?_
      refine Rn.icmp_ge dX11_leastHigh_29 (fun hc => ?_) (fun hc => ?_)
      · skip
        exact absurd hc (nI_ge (a := i) (b := 1728) (by omega) (by omega))
      · skip
        refine Rn.iload dX11_leastHigh_32 rfl ?_
        refine Rn.if_eq dX11_leastHigh_34 (fun hm => ?_) (fun hm => ?_)
        · skip
          exact absurd hm (by decide)
        · skip
          refine Rn.aload_n dX11_leastHigh_37 rfl ?_
          refine Rn.iconstv (v := 1) dX11_leastHigh_38 ic_1 ?_
          refine Rn.callV1 dX11_leastHigh_39 vX11_299 (xc0 hXN1) (by decide) rfl (trNow (Q := fun v0 ly0 M0 => v0 = none ∧ ly0 = ly ∧ Tr ly M M0 pl n (pl + 7) nw (fun k => M.1 (pl + 7 + k)) (pl + 18) nu (pl + 21) nv (M.1 75 4) 0 1 (M.1 90) nf (M.1 88) (M.1 89) (vS M.1 75) ∧ quT N1 M0) (Or.inr rfl) hXS0 hF.1 hq1 (fun K h u => ⟨rfl, rfl, h, u⟩)) (by decide) ⟨(Nat.le_of_ble_eq_true rfl), (Nat.le_of_ble_eq_true rfl), (Nat.le_of_ble_eq_true rfl)⟩ (fun h => by cases h) (fun v1 ly1 N2 ⟨q1, q2, hT2, hU2⟩ => ?_)
          rw [q1, q2]
          have hXN2 := (hT2.1).xw hX
          have hplN2 : N2.2.2 0 3 = some pl := ((hT2.1).2.2 0 3 (by decide)).trans hpl
          have hnN2 : N2.1 pl 0 = nI n := (congrFun ((hT2.1).p0 hp7) 0).trans hn
          have hw1N2 : N2.1 (pl + 1) 0 = nI nw := (congrFun ((hT2.1).pk hp7 (k := 1) (by decide)) 0).trans hw1
          refine Rn.iconstv (v := 0) dX11_leastHigh_42 ic_0 ?_
          refine Rn.istore (lv' := [some (.ref 0), some (.int (nI N)), some (.int 0), some (.int y), some (.int bd), some (.int p.1), some (.int 1728), some (.int 1), some (.int (nI i)), some (.int 0)]) dX11_leastHigh_43 (by decide) rfl ?_
          refine Rn.iload dX11_leastHigh_45 rfl ?_
          refine Rn.iload_n dX11_leastHigh_47 rfl ?_
          refine Rn.icmp_ge dX11_leastHigh_48 (fun hl => ?_) (fun hl => ?_)
          · skip
            refine Rn.aload_n dX11_leastHigh_72 rfl ?_
            refine Rn.getR dX11_leastHigh_73 fX11_43 rfl (xc0 hXN2) (show N2.2.2 0 6 = some 92 from (xp0_6 hXN2)) ?_
            refine Rn.iload_n dX11_leastHigh_76 rfl ?_
            refine Rn.iload dX11_leastHigh_77 rfl ?_
            refine Rn.iconstv (v := 1) dX11_leastHigh_79 ic_1 ?_
            refine Rn.isub dX11_leastHigh_80 ?_
            refine Rn.callV2 dX11_leastHigh_81 vX11_303 (xc92 hXN2) (by decide) rfl (trHigh (Q := fun v0 ly0 M0 => ly0 = ly ∧ ∃ k, k ≤ N ∧ v0 = some (.int (hgS (TG M.1 pl n nw (fun k => M.1 (pl + 7 + k)) (pl + 18) nu (pl + 21) nv (M.1 75 4) 0 1 (M.1 90)) (vS M.1 75) n k)) ∧ quX M M0 ∧ quT N2 M0 ∧ (k = N ∨ p.1 - 1 < hgS (TG M.1 pl n nw (fun k => M.1 (pl + 7 + k)) (pl + 18) nu (pl + 21) nv (M.1 75 4) 0 1 (M.1 90)) (vS M.1 75) n k)) hN hXS0.ok hT2 (fun K k h1 h2 h3 h4 h5 => ⟨rfl, k, h1, rfl, h2, h3, h4⟩)) (by decide) ⟨(Nat.le_of_ble_eq_true rfl), (Nat.le_of_ble_eq_true rfl), (Nat.le_of_ble_eq_true rfl)⟩ (fun h => by cases h) (fun v1 ly1 N9 ⟨q2, kk, hkk, q1, hq9, hU9, hor⟩ => ?_)
            rw [q1, q2]
            have hV9 := hU2.tr hU9
            have hXN9 := (hq9).xw hX
            have hplN9 : N9.2.2 0 3 = some pl := ((hq9).2.2 0 3 (by decide)).trans hpl
            have hnN9 : N9.1 pl 0 = nI n := (congrFun ((hq9).p0 hp7) 0).trans hn
            have hw1N9 : N9.1 (pl + 1) 0 = nI nw := (congrFun ((hq9).pk hp7 (k := 1) (by decide)) 0).trans hw1
            have hr9 : row3 (N9.1 147) a := by intro j hj; rw [hV9.1 147 (by omega)]; exact hr j hj
            have hb9 : bst p.2 (N9.1 148) := by rw [hV9.1 148 (by omega)]; exact hb
            refine Rn.istore (lv' := [some (.ref 0), some (.int (nI N)), some (.int 0), some (.int y), some (.int bd), some (.int p.1), some (.int 1728), some (.int 1), some (.int (nI i)), some (.int (hgS (TG M.1 pl n nw (fun k => M.1 (pl + 7 + k)) (pl + 18) nu (pl + 21) nv (M.1 75 4) 0 1 (M.1 90)) (vS M.1 75) n kk))]) dX11_leastHigh_84 (by decide) rfl ?_
            refine Rn.iload dX11_leastHigh_86 rfl ?_
            refine Rn.iload dX11_leastHigh_88 rfl ?_
            refine Rn.icmp_ge dX11_leastHigh_90 (fun hd => ?_) (fun hd => ?_)
            · skip
              have hno : ¬ hgS (TG M.1 pl n nw (fun k => M.1 (pl + 7 + k)) (pl + 18) nu (pl + 21) nv (M.1 75 4) 0 1 (M.1 90)) (vS M.1 75) n N < p.1 := fun h => Int32.not_le.mpr h (Int32.le_trans hd (hgS_mono N hkk))
              have hpp : (if (fun a => hgS (TG M.1 pl n nw (fun k => M.1 (pl + 7 + k)) (pl + 18) nu (pl + 21) nv (M.1 75 4) 0 1 (caK (M.1 pl 3) (M.1 90) (M.1 88) (M.1 89) nf y a 0)) (vS M.1 75) n N) a < p.1 then ((fun a => hgS (TG M.1 pl n nw (fun k => M.1 (pl + 7 + k)) (pl + 18) nu (pl + 21) nv (M.1 75 4) 0 1 (caK (M.1 pl 3) (M.1 90) (M.1 88) (M.1 89) nf y a 0)) (vS M.1 75) n N) a, some a) else p) = p := if_neg hno
              refine Rn.forget (lv' := [some (.ref 0), some (.int (nI N)), some (.int 0), some (.int y), some (.int bd), some (.int p.1), some (.int 1728), some (.int 1), some (.int (nI i)), none]) (⟨rfl, ⟨rfl, ⟨rfl, ⟨rfl, ⟨rfl, ⟨rfl, ⟨rfl, ⟨rfl, ⟨rfl, trivial⟩⟩⟩⟩⟩⟩⟩⟩⟩) ?_
              refine Rn.aload_n dX11_leastHigh_115 rfl ?_
              refine Rn.iload_n dX11_leastHigh_116 rfl ?_
              refine Rn.callV1 dX11_leastHigh_117 vX11_325 (xc0 hXN9) (by decide) rfl (tX11_nextSpots0 (Q := fun v0 ly0 M0 => ly0 = ly ∧ ((nxS n 0 a = none ∧ v0 = some (.int 0) ∧ M0 = N9) ∨ (∃ b f, nxS n 0 a = some b ∧ row3 f b ∧ v0 = some (.int 1) ∧ M0 = sI N9 147 f))) (hq9.xs hXS0) hr9 ha ⟨fun h => ⟨rfl, Or.inl ⟨h, rfl, rfl⟩⟩, fun b f h1 h2 => ⟨rfl, Or.inr ⟨b, f, h1, h2, rfl, rfl⟩⟩⟩) (by decide) ⟨(Nat.le_of_ble_eq_true rfl), (Nat.le_of_ble_eq_true rfl), (Nat.le_of_ble_eq_true rfl)⟩ (fun h => by cases h) (fun v1 ly1 NN ⟨q2, hor⟩ => ?_)
              rw [q2]
              rcases hor with ⟨h1, q1, q3⟩ | ⟨b, g, h1, h2, q1, q3⟩
              · skip
                rw [q1, q3]
                refine Rn.istore (lv' := [some (.ref 0), some (.int (nI N)), some (.int 0), some (.int y), some (.int bd), some (.int p.1), some (.int 1728), some (.int 0), some (.int (nI i)), none]) dX11_leastHigh_120 (by decide) rfl ?_
                refine Rn.iincN (lv' := [some (.ref 0), some (.int (nI N)), some (.int 0), some (.int y), some (.int bd), some (.int p.1), some (.int 1728), some (.int 0), some (.int (nI (i + 1))), none]) dX11_leastHigh_122 rfl (by decide) rfl ?_
                refine Rn.goto dX11_leastHigh_125 ?_
                exact fin (i + 1) _ _ (by omega) (by have h := hR N9 hq9; rw [lsS_n h1, lhF, hpp] at h; exact h hb9)
              · skip
                rw [q1, q3]
                refine Rn.istore (lv' := [some (.ref 0), some (.int (nI N)), some (.int 0), some (.int y), some (.int bd), some (.int p.1), some (.int 1728), some (.int 1), some (.int (nI i)), none]) dX11_leastHigh_120 (by decide) rfl ?_
                refine Rn.iincN (lv' := [some (.ref 0), some (.int (nI N)), some (.int 0), some (.int y), some (.int bd), some (.int p.1), some (.int 1728), some (.int 1), some (.int (nI (i + 1))), none]) dX11_leastHigh_122 rfl (by decide) rfl ?_
                refine Rn.goto dX11_leastHigh_125 ?_
                exact ih (i + 1) b p _ (by omega) hp (hq9.tr2 ⟨fun k _ _ _ _ h _ => sI_ne h, fun j _ => rfl, fun _ _ _ => rfl⟩) h2 (nxS_lt ha h1) (hb9) (fun M' hq => by have h := hR M' hq; rw [lsS_s h1, lhF, hpp] at h; exact h)
            · skip
              have hkN : kk = N := hor.elim id (fun h => absurd ((m1_lt hp.1).mp h) hd)
              subst hkN
              have hpp : (if (fun a => hgS (TG M.1 pl n nw (fun k => M.1 (pl + 7 + k)) (pl + 18) nu (pl + 21) nv (M.1 75 4) 0 1 (caK (M.1 pl 3) (M.1 90) (M.1 88) (M.1 89) nf y a 0)) (vS M.1 75) n kk) a < p.1 then ((fun a => hgS (TG M.1 pl n nw (fun k => M.1 (pl + 7 + k)) (pl + 18) nu (pl + 21) nv (M.1 75 4) 0 1 (caK (M.1 pl 3) (M.1 90) (M.1 88) (M.1 89) nf y a 0)) (vS M.1 75) n kk) a, some a) else p) = ((fun a => hgS (TG M.1 pl n nw (fun k => M.1 (pl + 7 + k)) (pl + 18) nu (pl + 21) nv (M.1 75 4) 0 1 (caK (M.1 pl 3) (M.1 90) (M.1 88) (M.1 89) nf y a 0)) (vS M.1 75) n kk) a, some a) := if_pos (Int32.not_le.mp hd)
              refine Rn.iload dX11_leastHigh_93 rfl ?_
              refine Rn.istore (lv' := [some (.ref 0), some (.int (nI kk)), some (.int 0), some (.int y), some (.int bd), some (.int (hgS (TG M.1 pl n nw (fun k => M.1 (pl + 7 + k)) (pl + 18) nu (pl + 21) nv (M.1 75 4) 0 1 (M.1 90)) (vS M.1 75) n kk)), some (.int 1728), some (.int 1), some (.int (nI i)), some (.int (hgS (TG M.1 pl n nw (fun k => M.1 (pl + 7 + k)) (pl + 18) nu (pl + 21) nv (M.1 75 4) 0 1 (M.1 90)) (vS M.1 75) n kk))]) dX11_leastHigh_95 (by decide) rfl ?_
              refine Rn.aload_n dX11_leastHigh_97 rfl ?_
              refine Rn.getR dX11_leastHigh_98 fX11_84 rfl (xc0 hXN9) (show N9.2.2 0 15 = some 147 from (xp0_15 hXN9)) ?_
              refine Rn.iconstv (v := 0) dX11_leastHigh_101 ic_0 ?_
              refine Rn.aload_n dX11_leastHigh_102 rfl ?_
              refine Rn.getR dX11_leastHigh_103 fX11_87 rfl (xc0 hXN9) (show N9.2.2 0 16 = some 148 from (xp0_16 hXN9)) ?_
              refine Rn.iconstv (v := 0) dX11_leastHigh_106 ic_0 ?_
              refine Rn.aload_n dX11_leastHigh_107 rfl ?_
              refine Rn.getR dX11_leastHigh_108 fX11_84 rfl (xc0 hXN9) (show N9.2.2 0 15 = some 147 from (xp0_15 hXN9)) ?_
              refine Rn.alen dX11_leastHigh_111 (xc147 hXN9) (by decide) ?_
              show Rn G l mX11_leastHigh (7, 0, 0, false) 112 [some (.ref 0), some (.int (nI kk)), some (.int 0), some (.int y), some (.int bd), some (.int (hgS (TG M.1 pl n nw (fun k => M.1 (pl + 7 + k)) (pl + 18) nu (pl + 21) nv (M.1 75 4) 0 1 (M.1 90)) (vS M.1 75) n kk)), some (.int 1728), some (.int 1), some (.int (nI i)), some (.int (hgS (TG M.1 pl n nw (fun k => M.1 (pl + 7 + k)) (pl + 18) nu (pl + 21) nv (M.1 75 4) 0 1 (M.1 90)) (vS M.1 75) n kk))] [.int 3, .int 0, .ref 148, .int 0, .ref 147] ly N9 Q
              refine Rn.copy dX11_leastHigh_112 jX11_289 jw_copy (xc147 hXN9) (xc148 hXN9) (by decide) (by decide) (by decide) (by decide) (by decide) ⟨(Nat.le_of_ble_eq_true rfl), (Nat.le_of_ble_eq_true rfl)⟩ ?_
              refine Rn.meq (M2 := sI N9 148 (pre 3 (N9.1 147) (N9.1 148))) (congrArg (fun r9 => sI N9 148 r9) ((congr (congrArg (fun u v => va_cpy u v 0 0 3) (rfl)) (rfl)).trans (cpy_pre 3 (N9.1 147) (N9.1 148)))) ?_
              have hqA : quX M (sI N9 148 (pre 3 (N9.1 147) (N9.1 148))) := hq9.tr2 ⟨fun k _ _ _ _ _ h => sI_ne h, fun j _ => rfl, fun _ _ _ => rfl⟩
              have hrA : row3 ((sI N9 148 (pre 3 (N9.1 147) (N9.1 148))).1 147) a := hr9
              have hbA : row3 ((sI N9 148 (pre 3 (N9.1 147) (N9.1 148))).1 148) a := fun j hj => (pre_lt hj).trans (hr9 j hj)
              generalize (sI N9 148 (pre 3 (N9.1 147) (N9.1 148))) = NA at hqA hrA hbA ⊢
              have hXNA := (hqA).xw hX
              have hplNA : NA.2.2 0 3 = some pl := ((hqA).2.2 0 3 (by decide)).trans hpl
              have hnNA : NA.1 pl 0 = nI n := (congrFun ((hqA).p0 hp7) 0).trans hn
              have hw1NA : NA.1 (pl + 1) 0 = nI nw := (congrFun ((hqA).pk hp7 (k := 1) (by decide)) 0).trans hw1
              refine Rn.forget (lv' := [some (.ref 0), some (.int (nI kk)), some (.int 0), some (.int y), some (.int bd), some (.int (hgS (TG M.1 pl n nw (fun k => M.1 (pl + 7 + k)) (pl + 18) nu (pl + 21) nv (M.1 75 4) 0 1 (M.1 90)) (vS M.1 75) n kk)), some (.int 1728), some (.int 1), some (.int (nI i)), none]) (⟨rfl, ⟨rfl, ⟨rfl, ⟨rfl, ⟨rfl, ⟨rfl, ⟨rfl, ⟨rfl, ⟨rfl, trivial⟩⟩⟩⟩⟩⟩⟩⟩⟩) ?_
              refine Rn.aload_n dX11_leastHigh_115 rfl ?_
              refine Rn.iload_n dX11_leastHigh_116 rfl ?_
              refine Rn.callV1 dX11_leastHigh_117 vX11_325 (xc0 hXNA) (by decide) rfl (tX11_nextSpots0 (Q := fun v0 ly0 M0 => ly0 = ly ∧ ((nxS n 0 a = none ∧ v0 = some (.int 0) ∧ M0 = NA) ∨ (∃ b f, nxS n 0 a = some b ∧ row3 f b ∧ v0 = some (.int 1) ∧ M0 = sI NA 147 f))) (hqA.xs hXS0) hrA ha ⟨fun h => ⟨rfl, Or.inl ⟨h, rfl, rfl⟩⟩, fun b f h1 h2 => ⟨rfl, Or.inr ⟨b, f, h1, h2, rfl, rfl⟩⟩⟩) (by decide) ⟨(Nat.le_of_ble_eq_true rfl), (Nat.le_of_ble_eq_true rfl), (Nat.le_of_ble_eq_true rfl)⟩ (fun h => by cases h) (fun v1 ly1 NN ⟨q2, hor⟩ => ?_)
              rw [q2]
              rcases hor with ⟨h1, q1, q3⟩ | ⟨b, g, h1, h2, q1, q3⟩
              · skip
                rw [q1, q3]
                refine Rn.istore (lv' := [some (.ref 0), some (.int (nI kk)), some (.int 0), some (.int y), some (.int bd), some (.int (hgS (TG M.1 pl n nw (fun k => M.1 (pl + 7 + k)) (pl + 18) nu (pl + 21) nv (M.1 75 4) 0 1 (M.1 90)) (vS M.1 75) n kk)), some (.int 1728), some (.int 0), some (.int (nI i)), none]) dX11_leastHigh_120 (by decide) rfl ?_
                refine Rn.iincN (lv' := [some (.ref 0), some (.int (nI kk)), some (.int 0), some (.int y), some (.int bd), some (.int (hgS (TG M.1 pl n nw (fun k => M.1 (pl + 7 + k)) (pl + 18) nu (pl + 21) nv (M.1 75 4) 0 1 (M.1 90)) (vS M.1 75) n kk)), some (.int 1728), some (.int 0), some (.int (nI (i + 1))), none]) dX11_leastHigh_122 rfl (by decide) rfl ?_
                refine Rn.goto dX11_leastHigh_125 ?_
                exact fin (i + 1) _ _ (by omega) (by have h := hR NA hqA; rw [lsS_n h1, lhF, hpp] at h; exact h hbA)
              · skip
                rw [q1, q3]
                refine Rn.istore (lv' := [some (.ref 0), some (.int (nI kk)), some (.int 0), some (.int y), some (.int bd), some (.int (hgS (TG M.1 pl n nw (fun k => M.1 (pl + 7 + k)) (pl + 18) nu (pl + 21) nv (M.1 75 4) 0 1 (M.1 90)) (vS M.1 75) n kk)), some (.int 1728), some (.int 1), some (.int (nI i)), none]) dX11_leastHigh_120 (by decide) rfl ?_
                refine Rn.iincN (lv' := [some (.ref 0), some (.int (nI kk)), some (.int 0), some (.int y), some (.int bd), some (.int (hgS (TG M.1 pl n nw (fun k => M.1 (pl + 7 + k)) (pl + 18) nu (pl + 21) nv (M.1 75 4) 0 1 (M.1 90)) (vS M.1 75) n kk)), some (.int 1728), some (.int 1), some (.int (nI (i + 1))), none]) dX11_leastHigh_122 rfl (by decide) rfl ?_
                refine Rn.goto dX11_leastHigh_125 ?_
                exact ih (i + 1) b ((fun a => hgS (TG M.1 pl n nw (fun k => M.1 (pl + 7 + k)) (pl + 18) nu (pl + 21) nv (M.1 75 4) 0 1 (caK (M.1 pl 3) (M.1 90) (M.1 88) (M.1 89) nf y a 0)) (vS M.1 75) n kk) a, some a) _ (by omega) ⟨Int32.le_trans (show (0 : Int32) ≤ 0 by decide) (hgS_mono (k := 0) kk (by omega)), Int32.le_trans (hgS_le (fun s => gr_pas) kk) (by decide)⟩ (hqA.tr2 ⟨fun k _ _ _ _ h _ => sI_ne h, fun j _ => rfl, fun _ _ _ => rfl⟩) h2 (nxS_lt ha h1) (hbA) (fun M' hq => by have h := hR M' hq; rw [lsS_s h1, lhF, hpp] at h; exact h)
          · skip
            exact absurd (by decide) hl
  exact loop 1728 0 (0, 0, 0) (bd + 1, none) N1 (by omega) (bd_1 hbd) hq1 hr1 (by simp only []; omega) trivial hQ
theorem tX11_leastHigh1 {G : Gx} {l : Launch} {ly : Ly} {M : Mm} {pl n nw nu nv nf : Nat} {N : Nat} {y bd : Int32} {M0 : Mm} (hq0 : quX M M0) (hN : N < 1000) (hbd : 0 ≤ bd ∧ bd ≤ 100000) (hnf : nf + 1 ≤ 8) (hXS : XS ly M pl n nw nu nv) (hF : M.1 87 0 = nI nf ∧ nf ≤ 8 ∧ ∀ i, i < nf → vp_in (M.1 88 i) 12) {Q : Qt} (hQ : ∀ M' : Mm, quX M M' → bst (lhF (fun a => hgS (TG M.1 pl n nw (fun k => M.1 (pl + 7 + k)) (pl + 18) nu (pl + 21) nv (M.1 75 4) 0 1 (caK (M.1 pl 3) (M.1 90) (M.1 88) (M.1 89) nf y a 1)) (vS M.1 75) n N) (lsS n 1 1728 (0, 0, 0)) (bd + 1, none)).2 (M'.1 148) → Q (some (.int (lhF (fun a => hgS (TG M.1 pl n nw (fun k => M.1 (pl + 7 + k)) (pl + 18) nu (pl + 21) nv (M.1 75 4) 0 1 (caK (M.1 pl 3) (M.1 90) (M.1 88) (M.1 89) nf y a 1)) (vS M.1 75) n N) (lsS n 1 1728 (0, 0, 0)) (bd + 1, none)).1)) ly M') : Mt G l mX11_leastHigh (7, 0, 0, false) [.ref 0, .int (nI N), .int 1, .int y, .int bd] ly M0 Q := by
  have hXS0 := hXS
  obtain ⟨hX, hpl, hp7, ⟨n0, n1, n2, n3⟩, ⟨hn, hn2, hn12⟩, ⟨hw1, hw2, hw6⟩, ⟨hu1, hu2, hv1, hv2⟩, hgl, hbb⟩ := hXS
  refine Mt.of (lv := [some (.ref 0), some (.int (nI N)), some (.int 1), some (.int y), some (.int bd), none, none, none, none, none]) rfl ?_
  have hXM0 := (hq0).xw hX
  have hplM0 : M0.2.2 0 3 = some pl := ((hq0).2.2 0 3 (by decide)).trans hpl
  have hnM0 : M0.1 pl 0 = nI n := (congrFun ((hq0).p0 hp7) 0).trans hn
  have hw1M0 : M0.1 (pl + 1) 0 = nI nw := (congrFun ((hq0).pk hp7 (k := 1) (by decide)) 0).trans hw1
  refine Rn.iload dX11_leastHigh_0 rfl ?_
  refine Rn.iconstv (v := 1) dX11_leastHigh_2 ic_1 ?_
  refine Rn.iadd dX11_leastHigh_3 ?_
  refine Rn.istore (lv' := [some (.ref 0), some (.int (nI N)), some (.int 1), some (.int y), some (.int bd), some (.int (bd + 1)), none, none, none, none]) dX11_leastHigh_4 (by decide) rfl ?_
  refine Rn.sipushv (v := 1728) dX11_leastHigh_6 sp_1728 ?_
  refine Rn.istore (lv' := [some (.ref 0), some (.int (nI N)), some (.int 1), some (.int y), some (.int bd), some (.int (bd + 1)), some (.int 1728), none, none, none]) dX11_leastHigh_9 (by decide) rfl ?_
  refine Rn.aload_n dX11_leastHigh_11 rfl ?_
  refine Rn.getR dX11_leastHigh_12 fX11_84 rfl (xc0 hXM0) (show M0.2.2 0 15 = some 147 from (xp0_15 hXM0)) ?_
  refine Rn.iconstv (v := 0) dX11_leastHigh_15 ic_0 ?_
  refine Rn.callS2 dX11_leastHigh_16 vX11_319 (tJ7_fill (a := 147) (N := 3) (xc147 hXM0) (by decide)) (by decide) ⟨(Nat.le_of_ble_eq_true rfl), (Nat.le_of_ble_eq_true rfl), (Nat.le_of_ble_eq_true rfl)⟩ (fun h => by cases h) (fun v1 ly1 M1 ⟨q1, q2, q3⟩ => ?_)
  rw [q1, q2, q3]
  show Rn G l mX11_leastHigh (7, 0, 0, false) 19 [some (.ref 0), some (.int (nI N)), some (.int 1), some (.int y), some (.int bd), some (.int (bd + 1)), some (.int 1728), none, none, none] [] ly (sI M0 147 (pre 3 (fun _ => 0) (M0.1 147))) Q
  refine Rn.iconstv (v := 1) dX11_leastHigh_19 ic_1 ?_
  refine Rn.istore (lv' := [some (.ref 0), some (.int (nI N)), some (.int 1), some (.int y), some (.int bd), some (.int (bd + 1)), some (.int 1728), some (.int 1), none, none]) dX11_leastHigh_20 (by decide) rfl ?_
  refine Rn.iconstv (v := 0) dX11_leastHigh_22 ic_0 ?_
  refine Rn.istore (lv' := [some (.ref 0), some (.int (nI N)), some (.int 1), some (.int y), some (.int bd), some (.int (bd + 1)), some (.int 1728), some (.int 1), some (.int 0), none]) dX11_leastHigh_23 (by decide) rfl ?_
  have hq1 : quX M (sI M0 147 (pre 3 (fun _ => 0) (M0.1 147))) := hq0.tr2 ⟨fun k _ _ _ _ h _ => sI_ne h, fun j _ => rfl, fun _ _ _ => rfl⟩
  have hr1 : row3 ((sI M0 147 (pre 3 (fun _ => 0) (M0.1 147))).1 147) (0, 0, 0) := row3.up (a := (0, 0, 0)) rfl rfl rfl
  generalize sI M0 147 (pre 3 (fun _ => 0) (M0.1 147)) = N1 at hq1 hr1 ⊢
  have fin : ∀ (i : Nat) (p : Int32) (K : Mm), i ≤ 1728 → Q (some (.int p)) ly K → Rn G l mX11_leastHigh (7, 0, 0, false) 25 [some (.ref 0), some (.int (nI N)), some (.int 1), some (.int y), some (.int bd), some (.int p), some (.int 1728), some (.int 0), some (.int (nI i)), none] [] ly K Q := by
    intro i p K hi hR
    refine Rn.iload dX11_leastHigh_25 rfl ?_
    refine Rn.iload dX11_leastHigh_27 rfl ?_
    refine Rn.icmp_ge dX11_leastHigh_29 (fun f1 => ?_) (fun f1 => ?_)
    · skip
      refine Rn.iload dX11_leastHigh_128 rfl ?_
      exact Rn.iret (ty := .int) dX11_leastHigh_130 rfl rfl hR
    · skip
      refine Rn.iload dX11_leastHigh_32 rfl ?_
      refine Rn.if_eq dX11_leastHigh_34 (fun f2 => ?_) (fun f2 => ?_)
      · skip
        refine Rn.iload dX11_leastHigh_128 rfl ?_
        exact Rn.iret (ty := .int) dX11_leastHigh_130 rfl rfl hR
      · skip
        exact absurd rfl f2
  have loop : ∀ (f i : Nat) (a : Nat × Nat × Nat) (p : Int32 × Option (Nat × Nat × Nat)) (N1 : Mm), i + f = 1728 → (0 ≤ p.1 ∧ p.1 ≤ 100001) → quX M N1 → row3 (N1.1 147) a → (a.1 < n ∧ a.2.1 < n ∧ a.2.2 < n) → bst p.2 (N1.1 148) → (∀ M' : Mm, quX M M' → bst (lhF (fun a => hgS (TG M.1 pl n nw (fun k => M.1 (pl + 7 + k)) (pl + 18) nu (pl + 21) nv (M.1 75 4) 0 1 (caK (M.1 pl 3) (M.1 90) (M.1 88) (M.1 89) nf y a 1)) (vS M.1 75) n N) (lsS n 1 f a) p).2 (M'.1 148) → Q (some (.int (lhF (fun a => hgS (TG M.1 pl n nw (fun k => M.1 (pl + 7 + k)) (pl + 18) nu (pl + 21) nv (M.1 75 4) 0 1 (caK (M.1 pl 3) (M.1 90) (M.1 88) (M.1 89) nf y a 1)) (vS M.1 75) n N) (lsS n 1 f a) p).1)) ly M') → Rn G l mX11_leastHigh (7, 0, 0, false) 25 [some (.ref 0), some (.int (nI N)), some (.int 1), some (.int y), some (.int bd), some (.int p.1), some (.int 1728), some (.int 1), some (.int (nI i)), none] [] ly N1 Q := by
    intro f
    induction f with
    | zero =>
      intro i a p N1 hi hp hq1 hr ha hb hR
      have hXN1 := (hq1).xw hX
      have hplN1 : N1.2.2 0 3 = some pl := ((hq1).2.2 0 3 (by decide)).trans hpl
      have hnN1 : N1.1 pl 0 = nI n := (congrFun ((hq1).p0 hp7) 0).trans hn
      have hw1N1 : N1.1 (pl + 1) 0 = nI nw := (congrFun ((hq1).pk hp7 (k := 1) (by decide)) 0).trans hw1
      refine Rn.iload dX11_leastHigh_25 rfl ?_
      refine Rn.iload dX11_leastHigh_27 rfl ?_
      refine Rn.icmp_ge dX11_leastHigh_29 (fun hc => ?_) (fun hc => ?_)
      · skip
        refine Rn.iload dX11_leastHigh_128 rfl ?_
        exact Rn.iret (ty := .int) dX11_leastHigh_130 rfl rfl (hR N1 hq1 hb)
      · skip
        exact absurd (nI_le (a := 1728) (b := i) (by omega) (by omega)) hc
    | succ f ih =>
      intro i a p N1 hi hp hq1 hr ha hb hR
      have hXN1 := (hq1).xw hX
      have hplN1 : N1.2.2 0 3 = some pl := ((hq1).2.2 0 3 (by decide)).trans hpl
      have hnN1 : N1.1 pl 0 = nI n := (congrFun ((hq1).p0 hp7) 0).trans hn
      have hw1N1 : N1.1 (pl + 1) 0 = nI nw := (congrFun ((hq1).pk hp7 (k := 1) (by decide)) 0).trans hw1
      refine Rn.iload dX11_leastHigh_25 rfl ?_
      refine Rn.iload dX11_leastHigh_27 rfl ?_
      refine Rn.icmp_ge dX11_leastHigh_29 (fun hc => ?_) (fun hc => ?_)
      · skip
        exact absurd hc (nI_ge (a := i) (b := 1728) (by omega) (by omega))
      · skip
        refine Rn.iload dX11_leastHigh_32 rfl ?_
        refine Rn.if_eq dX11_leastHigh_34 (fun hm => ?_) (fun hm => ?_)
        · skip
          exact absurd hm (by decide)
        · skip
          refine Rn.aload_n dX11_leastHigh_37 rfl ?_
          refine Rn.iconstv (v := 1) dX11_leastHigh_38 ic_1 ?_
          refine Rn.callV1 dX11_leastHigh_39 vX11_299 (xc0 hXN1) (by decide) rfl (trNow (Q := fun v0 ly0 M0 => v0 = none ∧ ly0 = ly ∧ Tr ly M M0 pl n (pl + 7) nw (fun k => M.1 (pl + 7 + k)) (pl + 18) nu (pl + 21) nv (M.1 75 4) 0 1 (M.1 90) nf (M.1 88) (M.1 89) (vS M.1 75) ∧ quT N1 M0) (Or.inr rfl) hXS0 hF.1 hq1 (fun K h u => ⟨rfl, rfl, h, u⟩)) (by decide) ⟨(Nat.le_of_ble_eq_true rfl), (Nat.le_of_ble_eq_true rfl), (Nat.le_of_ble_eq_true rfl)⟩ (fun h => by cases h) (fun v1 ly1 N2 ⟨q1, q2, hT2, hU2⟩ => ?_)
          rw [q1, q2]
          have hXN2 := (hT2.1).xw hX
          have hplN2 : N2.2.2 0 3 = some pl := ((hT2.1).2.2 0 3 (by decide)).trans hpl
          have hnN2 : N2.1 pl 0 = nI n := (congrFun ((hT2.1).p0 hp7) 0).trans hn
          have hw1N2 : N2.1 (pl + 1) 0 = nI nw := (congrFun ((hT2.1).pk hp7 (k := 1) (by decide)) 0).trans hw1
          refine Rn.iconstv (v := 0) dX11_leastHigh_42 ic_0 ?_
          refine Rn.istore (lv' := [some (.ref 0), some (.int (nI N)), some (.int 1), some (.int y), some (.int bd), some (.int p.1), some (.int 1728), some (.int 1), some (.int (nI i)), some (.int 0)]) dX11_leastHigh_43 (by decide) rfl ?_
          refine Rn.iload dX11_leastHigh_45 rfl ?_
          refine Rn.iload_n dX11_leastHigh_47 rfl ?_
          refine Rn.icmp_ge dX11_leastHigh_48 (fun hl => ?_) (fun hl => ?_)
          · skip
            exact absurd hl (by decide)
          · skip
            refine Rn.aload_n dX11_leastHigh_51 rfl ?_
            refine Rn.getR dX11_leastHigh_52 fX11_43 rfl (xc0 hXN2) (show N2.2.2 0 6 = some 92 from (xp0_6 hXN2)) ?_
            refine Rn.aload_n dX11_leastHigh_55 rfl ?_
            refine Rn.getR dX11_leastHigh_56 fX11_84 rfl (xc0 hXN2) (show N2.2.2 0 15 = some 147 from (xp0_15 hXN2)) ?_
            refine Rn.iload dX11_leastHigh_59 rfl ?_
            refine Rn.iald dX11_leastHigh_61 (xc147 hXN2) (by unfold vp_in; decide) ?_
            refine Rn.topI (y := N2.1 147 0) (rfl) ?_
            refine Rn.topI (y := nI a.1) ((congrFun (hU2.1 147 (by omega)) 0).trans (hr 0 (by decide))) ?_
            refine Rn.iload_n dX11_leastHigh_62 rfl ?_
            refine Rn.callV2 dX11_leastHigh_63 vX11_262 (xc92 hXN2) (by decide) rfl (trFat (Q := fun v0 ly0 M0 => v0 = none ∧ ly0 = ly ∧ Tr ly M M0 pl n (pl + 7) nw (fun k => M.1 (pl + 7 + k)) (pl + 18) nu (pl + 21) nv (M.1 75 4) 0 1 (caK (M.1 pl 3) (M.1 90) (M.1 88) (M.1 89) nf y a 1) (nf + 1) (fcK (M.1 88) nf a 1) (fkK (M.1 89) nf y 1) (vS M.1 75) ∧ quT N2 M0) (nf := nf + 0) (fc := fcK (M.1 88) nf a 0) (fk := fkK (M.1 89) nf y 0) (ca := caK (M.1 pl 3) (M.1 90) (M.1 88) (M.1 89) nf y a 0) hXS0.ok hT2 (by omega) (fcK_in hn12 hF.2.2 ha 0) (vp_in_nI (gt3_lt hn12 ha 0) (by decide)) (fun K h u => ⟨rfl, rfl, h, u⟩)) (by decide) ⟨(Nat.le_of_ble_eq_true rfl), (Nat.le_of_ble_eq_true rfl), (Nat.le_of_ble_eq_true rfl)⟩ (fun h => by cases h) (fun v1 ly1 N3 ⟨q1, q2, hT3, hU3⟩ => ?_)
            rw [q1, q2]
            have hXN3 := (hT3.1).xw hX
            have hplN3 : N3.2.2 0 3 = some pl := ((hT3.1).2.2 0 3 (by decide)).trans hpl
            have hnN3 : N3.1 pl 0 = nI n := (congrFun ((hT3.1).p0 hp7) 0).trans hn
            have hw1N3 : N3.1 (pl + 1) 0 = nI nw := (congrFun ((hT3.1).pk hp7 (k := 1) (by decide)) 0).trans hw1
            have hV3 := hU2.tr hU3
            refine Rn.iincv (j' := 1) (lv' := [some (.ref 0), some (.int (nI N)), some (.int 1), some (.int y), some (.int bd), some (.int p.1), some (.int 1728), some (.int 1), some (.int (nI i)), some (.int (0 + 1))]) dX11_leastHigh_66 rfl rfl (by decide) rfl ?_
            refine Rn.goto dX11_leastHigh_69 ?_
            show Rn G l mX11_leastHigh (7, 0, 0, false) 45 [some (.ref 0), some (.int (nI N)), some (.int 1), some (.int y), some (.int bd), some (.int p.1), some (.int 1728), some (.int 1), some (.int (nI i)), some (.int 1)] [] ly N3 Q
            refine Rn.iload dX11_leastHigh_45 rfl ?_
            refine Rn.iload_n dX11_leastHigh_47 rfl ?_
            refine Rn.icmp_ge dX11_leastHigh_48 (fun hl => ?_) (fun hl => ?_)
            · skip
              refine Rn.aload_n dX11_leastHigh_72 rfl ?_
              refine Rn.getR dX11_leastHigh_73 fX11_43 rfl (xc0 hXN3) (show N3.2.2 0 6 = some 92 from (xp0_6 hXN3)) ?_
              refine Rn.iload_n dX11_leastHigh_76 rfl ?_
              refine Rn.iload dX11_leastHigh_77 rfl ?_
              refine Rn.iconstv (v := 1) dX11_leastHigh_79 ic_1 ?_
              refine Rn.isub dX11_leastHigh_80 ?_
              refine Rn.callV2 dX11_leastHigh_81 vX11_303 (xc92 hXN3) (by decide) rfl (trHigh (Q := fun v0 ly0 M0 => ly0 = ly ∧ ∃ k, k ≤ N ∧ v0 = some (.int (hgS (TG M.1 pl n nw (fun k => M.1 (pl + 7 + k)) (pl + 18) nu (pl + 21) nv (M.1 75 4) 0 1 (caK (M.1 pl 3) (M.1 90) (M.1 88) (M.1 89) nf y a 1)) (vS M.1 75) n k)) ∧ quX M M0 ∧ quT N3 M0 ∧ (k = N ∨ p.1 - 1 < hgS (TG M.1 pl n nw (fun k => M.1 (pl + 7 + k)) (pl + 18) nu (pl + 21) nv (M.1 75 4) 0 1 (caK (M.1 pl 3) (M.1 90) (M.1 88) (M.1 89) nf y a 1)) (vS M.1 75) n k)) hN hXS0.ok hT3 (fun K k h1 h2 h3 h4 h5 => ⟨rfl, k, h1, rfl, h2, h3, h4⟩)) (by decide) ⟨(Nat.le_of_ble_eq_true rfl), (Nat.le_of_ble_eq_true rfl), (Nat.le_of_ble_eq_true rfl)⟩ (fun h => by cases h) (fun v1 ly1 N9 ⟨q2, kk, hkk, q1, hq9, hU9, hor⟩ => ?_)
              rw [q1, q2]
              have hV9 := hV3.tr hU9
              have hXN9 := (hq9).xw hX
              have hplN9 : N9.2.2 0 3 = some pl := ((hq9).2.2 0 3 (by decide)).trans hpl
              have hnN9 : N9.1 pl 0 = nI n := (congrFun ((hq9).p0 hp7) 0).trans hn
              have hw1N9 : N9.1 (pl + 1) 0 = nI nw := (congrFun ((hq9).pk hp7 (k := 1) (by decide)) 0).trans hw1
              have hr9 : row3 (N9.1 147) a := by intro j hj; rw [hV9.1 147 (by omega)]; exact hr j hj
              have hb9 : bst p.2 (N9.1 148) := by rw [hV9.1 148 (by omega)]; exact hb
              refine Rn.istore (lv' := [some (.ref 0), some (.int (nI N)), some (.int 1), some (.int y), some (.int bd), some (.int p.1), some (.int 1728), some (.int 1), some (.int (nI i)), some (.int (hgS (TG M.1 pl n nw (fun k => M.1 (pl + 7 + k)) (pl + 18) nu (pl + 21) nv (M.1 75 4) 0 1 (caK (M.1 pl 3) (M.1 90) (M.1 88) (M.1 89) nf y a 1)) (vS M.1 75) n kk))]) dX11_leastHigh_84 (by decide) rfl ?_
              refine Rn.iload dX11_leastHigh_86 rfl ?_
              refine Rn.iload dX11_leastHigh_88 rfl ?_
              refine Rn.icmp_ge dX11_leastHigh_90 (fun hd => ?_) (fun hd => ?_)
              · skip
                have hno : ¬ hgS (TG M.1 pl n nw (fun k => M.1 (pl + 7 + k)) (pl + 18) nu (pl + 21) nv (M.1 75 4) 0 1 (caK (M.1 pl 3) (M.1 90) (M.1 88) (M.1 89) nf y a 1)) (vS M.1 75) n N < p.1 := fun h => Int32.not_le.mpr h (Int32.le_trans hd (hgS_mono N hkk))
                have hpp : (if (fun a => hgS (TG M.1 pl n nw (fun k => M.1 (pl + 7 + k)) (pl + 18) nu (pl + 21) nv (M.1 75 4) 0 1 (caK (M.1 pl 3) (M.1 90) (M.1 88) (M.1 89) nf y a 1)) (vS M.1 75) n N) a < p.1 then ((fun a => hgS (TG M.1 pl n nw (fun k => M.1 (pl + 7 + k)) (pl + 18) nu (pl + 21) nv (M.1 75 4) 0 1 (caK (M.1 pl 3) (M.1 90) (M.1 88) (M.1 89) nf y a 1)) (vS M.1 75) n N) a, some a) else p) = p := if_neg hno
                refine Rn.forget (lv' := [some (.ref 0), some (.int (nI N)), some (.int 1), some (.int y), some (.int bd), some (.int p.1), some (.int 1728), some (.int 1), some (.int (nI i)), none]) (⟨rfl, ⟨rfl, ⟨rfl, ⟨rfl, ⟨rfl, ⟨rfl, ⟨rfl, ⟨rfl, ⟨rfl, trivial⟩⟩⟩⟩⟩⟩⟩⟩⟩) ?_
                refine Rn.aload_n dX11_leastHigh_115 rfl ?_
                refine Rn.iload_n dX11_leastHigh_116 rfl ?_
                refine Rn.callV1 dX11_leastHigh_117 vX11_325 (xc0 hXN9) (by decide) rfl (tX11_nextSpots1 (Q := fun v0 ly0 M0 => ly0 = ly ∧ ((nxS n 1 a = none ∧ v0 = some (.int 0) ∧ M0 = N9) ∨ (∃ b f, nxS n 1 a = some b ∧ row3 f b ∧ v0 = some (.int 1) ∧ M0 = sI N9 147 f))) (hq9.xs hXS0) hr9 ha ⟨fun h => ⟨rfl, Or.inl ⟨h, rfl, rfl⟩⟩, fun b f h1 h2 => ⟨rfl, Or.inr ⟨b, f, h1, h2, rfl, rfl⟩⟩⟩) (by decide) ⟨(Nat.le_of_ble_eq_true rfl), (Nat.le_of_ble_eq_true rfl), (Nat.le_of_ble_eq_true rfl)⟩ (fun h => by cases h) (fun v1 ly1 NN ⟨q2, hor⟩ => ?_)
                rw [q2]
                rcases hor with ⟨h1, q1, q3⟩ | ⟨b, g, h1, h2, q1, q3⟩
                · skip
                  rw [q1, q3]
                  refine Rn.istore (lv' := [some (.ref 0), some (.int (nI N)), some (.int 1), some (.int y), some (.int bd), some (.int p.1), some (.int 1728), some (.int 0), some (.int (nI i)), none]) dX11_leastHigh_120 (by decide) rfl ?_
                  refine Rn.iincN (lv' := [some (.ref 0), some (.int (nI N)), some (.int 1), some (.int y), some (.int bd), some (.int p.1), some (.int 1728), some (.int 0), some (.int (nI (i + 1))), none]) dX11_leastHigh_122 rfl (by decide) rfl ?_
                  refine Rn.goto dX11_leastHigh_125 ?_
                  exact fin (i + 1) _ _ (by omega) (by have h := hR N9 hq9; rw [lsS_n h1, lhF, hpp] at h; exact h hb9)
                · skip
                  rw [q1, q3]
                  refine Rn.istore (lv' := [some (.ref 0), some (.int (nI N)), some (.int 1), some (.int y), some (.int bd), some (.int p.1), some (.int 1728), some (.int 1), some (.int (nI i)), none]) dX11_leastHigh_120 (by decide) rfl ?_
                  refine Rn.iincN (lv' := [some (.ref 0), some (.int (nI N)), some (.int 1), some (.int y), some (.int bd), some (.int p.1), some (.int 1728), some (.int 1), some (.int (nI (i + 1))), none]) dX11_leastHigh_122 rfl (by decide) rfl ?_
                  refine Rn.goto dX11_leastHigh_125 ?_
                  exact ih (i + 1) b p _ (by omega) hp (hq9.tr2 ⟨fun k _ _ _ _ h _ => sI_ne h, fun j _ => rfl, fun _ _ _ => rfl⟩) h2 (nxS_lt ha h1) (hb9) (fun M' hq => by have h := hR M' hq; rw [lsS_s h1, lhF, hpp] at h; exact h)
              · skip
                have hkN : kk = N := hor.elim id (fun h => absurd ((m1_lt hp.1).mp h) hd)
                subst hkN
                have hpp : (if (fun a => hgS (TG M.1 pl n nw (fun k => M.1 (pl + 7 + k)) (pl + 18) nu (pl + 21) nv (M.1 75 4) 0 1 (caK (M.1 pl 3) (M.1 90) (M.1 88) (M.1 89) nf y a 1)) (vS M.1 75) n kk) a < p.1 then ((fun a => hgS (TG M.1 pl n nw (fun k => M.1 (pl + 7 + k)) (pl + 18) nu (pl + 21) nv (M.1 75 4) 0 1 (caK (M.1 pl 3) (M.1 90) (M.1 88) (M.1 89) nf y a 1)) (vS M.1 75) n kk) a, some a) else p) = ((fun a => hgS (TG M.1 pl n nw (fun k => M.1 (pl + 7 + k)) (pl + 18) nu (pl + 21) nv (M.1 75 4) 0 1 (caK (M.1 pl 3) (M.1 90) (M.1 88) (M.1 89) nf y a 1)) (vS M.1 75) n kk) a, some a) := if_pos (Int32.not_le.mp hd)
                refine Rn.iload dX11_leastHigh_93 rfl ?_
                refine Rn.istore (lv' := [some (.ref 0), some (.int (nI kk)), some (.int 1), some (.int y), some (.int bd), some (.int (hgS (TG M.1 pl n nw (fun k => M.1 (pl + 7 + k)) (pl + 18) nu (pl + 21) nv (M.1 75 4) 0 1 (caK (M.1 pl 3) (M.1 90) (M.1 88) (M.1 89) nf y a 1)) (vS M.1 75) n kk)), some (.int 1728), some (.int 1), some (.int (nI i)), some (.int (hgS (TG M.1 pl n nw (fun k => M.1 (pl + 7 + k)) (pl + 18) nu (pl + 21) nv (M.1 75 4) 0 1 (caK (M.1 pl 3) (M.1 90) (M.1 88) (M.1 89) nf y a 1)) (vS M.1 75) n kk))]) dX11_leastHigh_95 (by decide) rfl ?_
                refine Rn.aload_n dX11_leastHigh_97 rfl ?_
                refine Rn.getR dX11_leastHigh_98 fX11_84 rfl (xc0 hXN9) (show N9.2.2 0 15 = some 147 from (xp0_15 hXN9)) ?_
                refine Rn.iconstv (v := 0) dX11_leastHigh_101 ic_0 ?_
                refine Rn.aload_n dX11_leastHigh_102 rfl ?_
                refine Rn.getR dX11_leastHigh_103 fX11_87 rfl (xc0 hXN9) (show N9.2.2 0 16 = some 148 from (xp0_16 hXN9)) ?_
                refine Rn.iconstv (v := 0) dX11_leastHigh_106 ic_0 ?_
                refine Rn.aload_n dX11_leastHigh_107 rfl ?_
                refine Rn.getR dX11_leastHigh_108 fX11_84 rfl (xc0 hXN9) (show N9.2.2 0 15 = some 147 from (xp0_15 hXN9)) ?_
                refine Rn.alen dX11_leastHigh_111 (xc147 hXN9) (by decide) ?_
                show Rn G l mX11_leastHigh (7, 0, 0, false) 112 [some (.ref 0), some (.int (nI kk)), some (.int 1), some (.int y), some (.int bd), some (.int (hgS (TG M.1 pl n nw (fun k => M.1 (pl + 7 + k)) (pl + 18) nu (pl + 21) nv (M.1 75 4) 0 1 (caK (M.1 pl 3) (M.1 90) (M.1 88) (M.1 89) nf y a 1)) (vS M.1 75) n kk)), some (.int 1728), some (.int 1), some (.int (nI i)), some (.int (hgS (TG M.1 pl n nw (fun k => M.1 (pl + 7 + k)) (pl + 18) nu (pl + 21) nv (M.1 75 4) 0 1 (caK (M.1 pl 3) (M.1 90) (M.1 88) (M.1 89) nf y a 1)) (vS M.1 75) n kk))] [.int 3, .int 0, .ref 148, .int 0, .ref 147] ly N9 Q
                refine Rn.copy dX11_leastHigh_112 jX11_289 jw_copy (xc147 hXN9) (xc148 hXN9) (by decide) (by decide) (by decide) (by decide) (by decide) ⟨(Nat.le_of_ble_eq_true rfl), (Nat.le_of_ble_eq_true rfl)⟩ ?_
                refine Rn.meq (M2 := sI N9 148 (pre 3 (N9.1 147) (N9.1 148))) (congrArg (fun r9 => sI N9 148 r9) ((congr (congrArg (fun u v => va_cpy u v 0 0 3) (rfl)) (rfl)).trans (cpy_pre 3 (N9.1 147) (N9.1 148)))) ?_
                have hqA : quX M (sI N9 148 (pre 3 (N9.1 147) (N9.1 148))) := hq9.tr2 ⟨fun k _ _ _ _ _ h => sI_ne h, fun j _ => rfl, fun _ _ _ => rfl⟩
                have hrA : row3 ((sI N9 148 (pre 3 (N9.1 147) (N9.1 148))).1 147) a := hr9
                have hbA : row3 ((sI N9 148 (pre 3 (N9.1 147) (N9.1 148))).1 148) a := fun j hj => (pre_lt hj).trans (hr9 j hj)
                generalize (sI N9 148 (pre 3 (N9.1 147) (N9.1 148))) = NA at hqA hrA hbA ⊢
                have hXNA := (hqA).xw hX
                have hplNA : NA.2.2 0 3 = some pl := ((hqA).2.2 0 3 (by decide)).trans hpl
                have hnNA : NA.1 pl 0 = nI n := (congrFun ((hqA).p0 hp7) 0).trans hn
                have hw1NA : NA.1 (pl + 1) 0 = nI nw := (congrFun ((hqA).pk hp7 (k := 1) (by decide)) 0).trans hw1
                refine Rn.forget (lv' := [some (.ref 0), some (.int (nI kk)), some (.int 1), some (.int y), some (.int bd), some (.int (hgS (TG M.1 pl n nw (fun k => M.1 (pl + 7 + k)) (pl + 18) nu (pl + 21) nv (M.1 75 4) 0 1 (caK (M.1 pl 3) (M.1 90) (M.1 88) (M.1 89) nf y a 1)) (vS M.1 75) n kk)), some (.int 1728), some (.int 1), some (.int (nI i)), none]) (⟨rfl, ⟨rfl, ⟨rfl, ⟨rfl, ⟨rfl, ⟨rfl, ⟨rfl, ⟨rfl, ⟨rfl, trivial⟩⟩⟩⟩⟩⟩⟩⟩⟩) ?_
                refine Rn.aload_n dX11_leastHigh_115 rfl ?_
                refine Rn.iload_n dX11_leastHigh_116 rfl ?_
                refine Rn.callV1 dX11_leastHigh_117 vX11_325 (xc0 hXNA) (by decide) rfl (tX11_nextSpots1 (Q := fun v0 ly0 M0 => ly0 = ly ∧ ((nxS n 1 a = none ∧ v0 = some (.int 0) ∧ M0 = NA) ∨ (∃ b f, nxS n 1 a = some b ∧ row3 f b ∧ v0 = some (.int 1) ∧ M0 = sI NA 147 f))) (hqA.xs hXS0) hrA ha ⟨fun h => ⟨rfl, Or.inl ⟨h, rfl, rfl⟩⟩, fun b f h1 h2 => ⟨rfl, Or.inr ⟨b, f, h1, h2, rfl, rfl⟩⟩⟩) (by decide) ⟨(Nat.le_of_ble_eq_true rfl), (Nat.le_of_ble_eq_true rfl), (Nat.le_of_ble_eq_true rfl)⟩ (fun h => by cases h) (fun v1 ly1 NN ⟨q2, hor⟩ => ?_)
                rw [q2]
                rcases hor with ⟨h1, q1, q3⟩ | ⟨b, g, h1, h2, q1, q3⟩
                · skip
                  rw [q1, q3]
                  refine Rn.istore (lv' := [some (.ref 0), some (.int (nI kk)), some (.int 1), some (.int y), some (.int bd), some (.int (hgS (TG M.1 pl n nw (fun k => M.1 (pl + 7 + k)) (pl + 18) nu (pl + 21) nv (M.1 75 4) 0 1 (caK (M.1 pl 3) (M.1 90) (M.1 88) (M.1 89) nf y a 1)) (vS M.1 75) n kk)), some (.int 1728), some (.int 0), some (.int (nI i)), none]) dX11_leastHigh_120 (by decide) rfl ?_
                  refine Rn.iincN (lv' := [some (.ref 0), some (.int (nI kk)), some (.int 1), some (.int y), some (.int bd), some (.int (hgS (TG M.1 pl n nw (fun k => M.1 (pl + 7 + k)) (pl + 18) nu (pl + 21) nv (M.1 75 4) 0 1 (caK (M.1 pl 3) (M.1 90) (M.1 88) (M.1 89) nf y a 1)) (vS M.1 75) n kk)), some (.int 1728), some (.int 0), some (.int (nI (i + 1))), none]) dX11_leastHigh_122 rfl (by decide) rfl ?_
                  refine Rn.goto dX11_leastHigh_125 ?_
                  exact fin (i + 1) _ _ (by omega) (by have h := hR NA hqA; rw [lsS_n h1, lhF, hpp] at h; exact h hbA)
                · skip
                  rw [q1, q3]
                  refine Rn.istore (lv' := [some (.ref 0), some (.int (nI kk)), some (.int 1), some (.int y), some (.int bd), some (.int (hgS (TG M.1 pl n nw (fun k => M.1 (pl + 7 + k)) (pl + 18) nu (pl + 21) nv (M.1 75 4) 0 1 (caK (M.1 pl 3) (M.1 90) (M.1 88) (M.1 89) nf y a 1)) (vS M.1 75) n kk)), some (.int 1728), some (.int 1), some (.int (nI i)), none]) dX11_leastHigh_120 (by decide) rfl ?_
                  refine Rn.iincN (lv' := [some (.ref 0), some (.int (nI kk)), some (.int 1), some (.int y), some (.int bd), some (.int (hgS (TG M.1 pl n nw (fun k => M.1 (pl + 7 + k)) (pl + 18) nu (pl + 21) nv (M.1 75 4) 0 1 (caK (M.1 pl 3) (M.1 90) (M.1 88) (M.1 89) nf y a 1)) (vS M.1 75) n kk)), some (.int 1728), some (.int 1), some (.int (nI (i + 1))), none]) dX11_leastHigh_122 rfl (by decide) rfl ?_
                  refine Rn.goto dX11_leastHigh_125 ?_
                  exact ih (i + 1) b ((fun a => hgS (TG M.1 pl n nw (fun k => M.1 (pl + 7 + k)) (pl + 18) nu (pl + 21) nv (M.1 75 4) 0 1 (caK (M.1 pl 3) (M.1 90) (M.1 88) (M.1 89) nf y a 1)) (vS M.1 75) n kk) a, some a) _ (by omega) ⟨Int32.le_trans (show (0 : Int32) ≤ 0 by decide) (hgS_mono (k := 0) kk (by omega)), Int32.le_trans (hgS_le (fun s => gr_pas) kk) (by decide)⟩ (hqA.tr2 ⟨fun k _ _ _ _ h _ => sI_ne h, fun j _ => rfl, fun _ _ _ => rfl⟩) h2 (nxS_lt ha h1) (hbA) (fun M' hq => by have h := hR M' hq; rw [lsS_s h1, lhF, hpp] at h; exact h)
            · skip
              exact absurd (by decide) hl
  exact loop 1728 0 (0, 0, 0) (bd + 1, none) N1 (by omega) (bd_1 hbd) hq1 hr1 (by simp only []; omega) trivial hQ
theorem tX11_leastHigh2 {G : Gx} {l : Launch} {ly : Ly} {M : Mm} {pl n nw nu nv nf : Nat} {N : Nat} {y bd : Int32} {M0 : Mm} (hq0 : quX M M0) (hN : N < 1000) (hbd : 0 ≤ bd ∧ bd ≤ 100000) (hnf : nf + 2 ≤ 8) (hXS : XS ly M pl n nw nu nv) (hF : M.1 87 0 = nI nf ∧ nf ≤ 8 ∧ ∀ i, i < nf → vp_in (M.1 88 i) 12) {Q : Qt} (hQ : ∀ M' : Mm, quX M M' → bst (lhF (fun a => hgS (TG M.1 pl n nw (fun k => M.1 (pl + 7 + k)) (pl + 18) nu (pl + 21) nv (M.1 75 4) 0 1 (caK (M.1 pl 3) (M.1 90) (M.1 88) (M.1 89) nf y a 2)) (vS M.1 75) n N) (lsS n 2 1728 (0, 0, 0)) (bd + 1, none)).2 (M'.1 148) → Q (some (.int (lhF (fun a => hgS (TG M.1 pl n nw (fun k => M.1 (pl + 7 + k)) (pl + 18) nu (pl + 21) nv (M.1 75 4) 0 1 (caK (M.1 pl 3) (M.1 90) (M.1 88) (M.1 89) nf y a 2)) (vS M.1 75) n N) (lsS n 2 1728 (0, 0, 0)) (bd + 1, none)).1)) ly M') : Mt G l mX11_leastHigh (7, 0, 0, false) [.ref 0, .int (nI N), .int 2, .int y, .int bd] ly M0 Q := by
  have hXS0 := hXS
  obtain ⟨hX, hpl, hp7, ⟨n0, n1, n2, n3⟩, ⟨hn, hn2, hn12⟩, ⟨hw1, hw2, hw6⟩, ⟨hu1, hu2, hv1, hv2⟩, hgl, hbb⟩ := hXS
  refine Mt.of (lv := [some (.ref 0), some (.int (nI N)), some (.int 2), some (.int y), some (.int bd), none, none, none, none, none]) rfl ?_
  have hXM0 := (hq0).xw hX
  have hplM0 : M0.2.2 0 3 = some pl := ((hq0).2.2 0 3 (by decide)).trans hpl
  have hnM0 : M0.1 pl 0 = nI n := (congrFun ((hq0).p0 hp7) 0).trans hn
  have hw1M0 : M0.1 (pl + 1) 0 = nI nw := (congrFun ((hq0).pk hp7 (k := 1) (by decide)) 0).trans hw1
  refine Rn.iload dX11_leastHigh_0 rfl ?_
  refine Rn.iconstv (v := 1) dX11_leastHigh_2 ic_1 ?_
  refine Rn.iadd dX11_leastHigh_3 ?_
  refine Rn.istore (lv' := [some (.ref 0), some (.int (nI N)), some (.int 2), some (.int y), some (.int bd), some (.int (bd + 1)), none, none, none, none]) dX11_leastHigh_4 (by decide) rfl ?_
  refine Rn.sipushv (v := 1728) dX11_leastHigh_6 sp_1728 ?_
  refine Rn.istore (lv' := [some (.ref 0), some (.int (nI N)), some (.int 2), some (.int y), some (.int bd), some (.int (bd + 1)), some (.int 1728), none, none, none]) dX11_leastHigh_9 (by decide) rfl ?_
  refine Rn.aload_n dX11_leastHigh_11 rfl ?_
  refine Rn.getR dX11_leastHigh_12 fX11_84 rfl (xc0 hXM0) (show M0.2.2 0 15 = some 147 from (xp0_15 hXM0)) ?_
  refine Rn.iconstv (v := 0) dX11_leastHigh_15 ic_0 ?_
  refine Rn.callS2 dX11_leastHigh_16 vX11_319 (tJ7_fill (a := 147) (N := 3) (xc147 hXM0) (by decide)) (by decide) ⟨(Nat.le_of_ble_eq_true rfl), (Nat.le_of_ble_eq_true rfl), (Nat.le_of_ble_eq_true rfl)⟩ (fun h => by cases h) (fun v1 ly1 M1 ⟨q1, q2, q3⟩ => ?_)
  rw [q1, q2, q3]
  show Rn G l mX11_leastHigh (7, 0, 0, false) 19 [some (.ref 0), some (.int (nI N)), some (.int 2), some (.int y), some (.int bd), some (.int (bd + 1)), some (.int 1728), none, none, none] [] ly (sI M0 147 (pre 3 (fun _ => 0) (M0.1 147))) Q
  refine Rn.iconstv (v := 1) dX11_leastHigh_19 ic_1 ?_
  refine Rn.istore (lv' := [some (.ref 0), some (.int (nI N)), some (.int 2), some (.int y), some (.int bd), some (.int (bd + 1)), some (.int 1728), some (.int 1), none, none]) dX11_leastHigh_20 (by decide) rfl ?_
  refine Rn.iconstv (v := 0) dX11_leastHigh_22 ic_0 ?_
  refine Rn.istore (lv' := [some (.ref 0), some (.int (nI N)), some (.int 2), some (.int y), some (.int bd), some (.int (bd + 1)), some (.int 1728), some (.int 1), some (.int 0), none]) dX11_leastHigh_23 (by decide) rfl ?_
  have hq1 : quX M (sI M0 147 (pre 3 (fun _ => 0) (M0.1 147))) := hq0.tr2 ⟨fun k _ _ _ _ h _ => sI_ne h, fun j _ => rfl, fun _ _ _ => rfl⟩
  have hr1 : row3 ((sI M0 147 (pre 3 (fun _ => 0) (M0.1 147))).1 147) (0, 0, 0) := row3.up (a := (0, 0, 0)) rfl rfl rfl
  generalize sI M0 147 (pre 3 (fun _ => 0) (M0.1 147)) = N1 at hq1 hr1 ⊢
  have fin : ∀ (i : Nat) (p : Int32) (K : Mm), i ≤ 1728 → Q (some (.int p)) ly K → Rn G l mX11_leastHigh (7, 0, 0, false) 25 [some (.ref 0), some (.int (nI N)), some (.int 2), some (.int y), some (.int bd), some (.int p), some (.int 1728), some (.int 0), some (.int (nI i)), none] [] ly K Q := by
    intro i p K hi hR
    refine Rn.iload dX11_leastHigh_25 rfl ?_
    refine Rn.iload dX11_leastHigh_27 rfl ?_
    refine Rn.icmp_ge dX11_leastHigh_29 (fun f1 => ?_) (fun f1 => ?_)
    · skip
      refine Rn.iload dX11_leastHigh_128 rfl ?_
      exact Rn.iret (ty := .int) dX11_leastHigh_130 rfl rfl hR
    · skip
      refine Rn.iload dX11_leastHigh_32 rfl ?_
      refine Rn.if_eq dX11_leastHigh_34 (fun f2 => ?_) (fun f2 => ?_)
      · skip
        refine Rn.iload dX11_leastHigh_128 rfl ?_
        exact Rn.iret (ty := .int) dX11_leastHigh_130 rfl rfl hR
      · skip
        exact absurd rfl f2
  have loop : ∀ (f i : Nat) (a : Nat × Nat × Nat) (p : Int32 × Option (Nat × Nat × Nat)) (N1 : Mm), i + f = 1728 → (0 ≤ p.1 ∧ p.1 ≤ 100001) → quX M N1 → row3 (N1.1 147) a → (a.1 < n ∧ a.2.1 < n ∧ a.2.2 < n) → bst p.2 (N1.1 148) → (∀ M' : Mm, quX M M' → bst (lhF (fun a => hgS (TG M.1 pl n nw (fun k => M.1 (pl + 7 + k)) (pl + 18) nu (pl + 21) nv (M.1 75 4) 0 1 (caK (M.1 pl 3) (M.1 90) (M.1 88) (M.1 89) nf y a 2)) (vS M.1 75) n N) (lsS n 2 f a) p).2 (M'.1 148) → Q (some (.int (lhF (fun a => hgS (TG M.1 pl n nw (fun k => M.1 (pl + 7 + k)) (pl + 18) nu (pl + 21) nv (M.1 75 4) 0 1 (caK (M.1 pl 3) (M.1 90) (M.1 88) (M.1 89) nf y a 2)) (vS M.1 75) n N) (lsS n 2 f a) p).1)) ly M') → Rn G l mX11_leastHigh (7, 0, 0, false) 25 [some (.ref 0), some (.int (nI N)), some (.int 2), some (.int y), some (.int bd), some (.int p.1), some (.int 1728), some (.int 1), some (.int (nI i)), none] [] ly N1 Q := by
    intro f
    induction f with
    | zero =>
      intro i a p N1 hi hp hq1 hr ha hb hR
      have hXN1 := (hq1).xw hX
      have hplN1 : N1.2.2 0 3 = some pl := ((hq1).2.2 0 3 (by decide)).trans hpl
      have hnN1 : N1.1 pl 0 = nI n := (congrFun ((hq1).p0 hp7) 0).trans hn
      have hw1N1 : N1.1 (pl + 1) 0 = nI nw := (congrFun ((hq1).pk hp7 (k := 1) (by decide)) 0).trans hw1
      refine Rn.iload dX11_leastHigh_25 rfl ?_
      refine Rn.iload dX11_leastHigh_27 rfl ?_
      refine Rn.icmp_ge dX11_leastHigh_29 (fun hc => ?_) (fun hc => ?_)
      · skip
        refine Rn.iload dX11_leastHigh_128 rfl ?_
        exact Rn.iret (ty := .int) dX11_leastHigh_130 rfl rfl (hR N1 hq1 hb)
      · skip
        exact absurd (nI_le (a := 1728) (b := i) (by omega) (by omega)) hc
    | succ f ih =>
      intro i a p N1 hi hp hq1 hr ha hb hR
      have hXN1 := (hq1).xw hX
      have hplN1 : N1.2.2 0 3 = some pl := ((hq1).2.2 0 3 (by decide)).trans hpl
      have hnN1 : N1.1 pl 0 = nI n := (congrFun ((hq1).p0 hp7) 0).trans hn
      have hw1N1 : N1.1 (pl + 1) 0 = nI nw := (congrFun ((hq1).pk hp7 (k := 1) (by decide)) 0).trans hw1
      refine Rn.iload dX11_leastHigh_25 rfl ?_
      refine Rn.iload dX11_leastHigh_27 rfl ?_
      refine Rn.icmp_ge dX11_leastHigh_29 (fun hc => ?_) (fun hc => ?_)
      · skip
        exact absurd hc (nI_ge (a := i) (b := 1728) (by omega) (by omega))
      · skip
        refine Rn.iload dX11_leastHigh_32 rfl ?_
        refine Rn.if_eq dX11_leastHigh_34 (fun hm => ?_) (fun hm => ?_)
        · skip
          exact absurd hm (by decide)
        · skip
          refine Rn.aload_n dX11_leastHigh_37 rfl ?_
          refine Rn.iconstv (v := 1) dX11_leastHigh_38 ic_1 ?_
          refine Rn.callV1 dX11_leastHigh_39 vX11_299 (xc0 hXN1) (by decide) rfl (trNow (Q := fun v0 ly0 M0 => v0 = none ∧ ly0 = ly ∧ Tr ly M M0 pl n (pl + 7) nw (fun k => M.1 (pl + 7 + k)) (pl + 18) nu (pl + 21) nv (M.1 75 4) 0 1 (M.1 90) nf (M.1 88) (M.1 89) (vS M.1 75) ∧ quT N1 M0) (Or.inr rfl) hXS0 hF.1 hq1 (fun K h u => ⟨rfl, rfl, h, u⟩)) (by decide) ⟨(Nat.le_of_ble_eq_true rfl), (Nat.le_of_ble_eq_true rfl), (Nat.le_of_ble_eq_true rfl)⟩ (fun h => by cases h) (fun v1 ly1 N2 ⟨q1, q2, hT2, hU2⟩ => ?_)
          rw [q1, q2]
          have hXN2 := (hT2.1).xw hX
          have hplN2 : N2.2.2 0 3 = some pl := ((hT2.1).2.2 0 3 (by decide)).trans hpl
          have hnN2 : N2.1 pl 0 = nI n := (congrFun ((hT2.1).p0 hp7) 0).trans hn
          have hw1N2 : N2.1 (pl + 1) 0 = nI nw := (congrFun ((hT2.1).pk hp7 (k := 1) (by decide)) 0).trans hw1
          refine Rn.iconstv (v := 0) dX11_leastHigh_42 ic_0 ?_
          refine Rn.istore (lv' := [some (.ref 0), some (.int (nI N)), some (.int 2), some (.int y), some (.int bd), some (.int p.1), some (.int 1728), some (.int 1), some (.int (nI i)), some (.int 0)]) dX11_leastHigh_43 (by decide) rfl ?_
          refine Rn.iload dX11_leastHigh_45 rfl ?_
          refine Rn.iload_n dX11_leastHigh_47 rfl ?_
          refine Rn.icmp_ge dX11_leastHigh_48 (fun hl => ?_) (fun hl => ?_)
          · skip
            exact absurd hl (by decide)
          · skip
            refine Rn.aload_n dX11_leastHigh_51 rfl ?_
            refine Rn.getR dX11_leastHigh_52 fX11_43 rfl (xc0 hXN2) (show N2.2.2 0 6 = some 92 from (xp0_6 hXN2)) ?_
            refine Rn.aload_n dX11_leastHigh_55 rfl ?_
            refine Rn.getR dX11_leastHigh_56 fX11_84 rfl (xc0 hXN2) (show N2.2.2 0 15 = some 147 from (xp0_15 hXN2)) ?_
            refine Rn.iload dX11_leastHigh_59 rfl ?_
            refine Rn.iald dX11_leastHigh_61 (xc147 hXN2) (by unfold vp_in; decide) ?_
            refine Rn.topI (y := N2.1 147 0) (rfl) ?_
            refine Rn.topI (y := nI a.1) ((congrFun (hU2.1 147 (by omega)) 0).trans (hr 0 (by decide))) ?_
            refine Rn.iload_n dX11_leastHigh_62 rfl ?_
            refine Rn.callV2 dX11_leastHigh_63 vX11_262 (xc92 hXN2) (by decide) rfl (trFat (Q := fun v0 ly0 M0 => v0 = none ∧ ly0 = ly ∧ Tr ly M M0 pl n (pl + 7) nw (fun k => M.1 (pl + 7 + k)) (pl + 18) nu (pl + 21) nv (M.1 75 4) 0 1 (caK (M.1 pl 3) (M.1 90) (M.1 88) (M.1 89) nf y a 1) (nf + 1) (fcK (M.1 88) nf a 1) (fkK (M.1 89) nf y 1) (vS M.1 75) ∧ quT N2 M0) (nf := nf + 0) (fc := fcK (M.1 88) nf a 0) (fk := fkK (M.1 89) nf y 0) (ca := caK (M.1 pl 3) (M.1 90) (M.1 88) (M.1 89) nf y a 0) hXS0.ok hT2 (by omega) (fcK_in hn12 hF.2.2 ha 0) (vp_in_nI (gt3_lt hn12 ha 0) (by decide)) (fun K h u => ⟨rfl, rfl, h, u⟩)) (by decide) ⟨(Nat.le_of_ble_eq_true rfl), (Nat.le_of_ble_eq_true rfl), (Nat.le_of_ble_eq_true rfl)⟩ (fun h => by cases h) (fun v1 ly1 N3 ⟨q1, q2, hT3, hU3⟩ => ?_)
            rw [q1, q2]
            have hXN3 := (hT3.1).xw hX
            have hplN3 : N3.2.2 0 3 = some pl := ((hT3.1).2.2 0 3 (by decide)).trans hpl
            have hnN3 : N3.1 pl 0 = nI n := (congrFun ((hT3.1).p0 hp7) 0).trans hn
            have hw1N3 : N3.1 (pl + 1) 0 = nI nw := (congrFun ((hT3.1).pk hp7 (k := 1) (by decide)) 0).trans hw1
            have hV3 := hU2.tr hU3
            refine Rn.iincv (j' := 1) (lv' := [some (.ref 0), some (.int (nI N)), some (.int 2), some (.int y), some (.int bd), some (.int p.1), some (.int 1728), some (.int 1), some (.int (nI i)), some (.int (0 + 1))]) dX11_leastHigh_66 rfl rfl (by decide) rfl ?_
            refine Rn.goto dX11_leastHigh_69 ?_
            show Rn G l mX11_leastHigh (7, 0, 0, false) 45 [some (.ref 0), some (.int (nI N)), some (.int 2), some (.int y), some (.int bd), some (.int p.1), some (.int 1728), some (.int 1), some (.int (nI i)), some (.int 1)] [] ly N3 Q
            refine Rn.iload dX11_leastHigh_45 rfl ?_
            refine Rn.iload_n dX11_leastHigh_47 rfl ?_
            refine Rn.icmp_ge dX11_leastHigh_48 (fun hl => ?_) (fun hl => ?_)
            · skip
              exact absurd hl (by decide)
            · skip
              refine Rn.aload_n dX11_leastHigh_51 rfl ?_
              refine Rn.getR dX11_leastHigh_52 fX11_43 rfl (xc0 hXN3) (show N3.2.2 0 6 = some 92 from (xp0_6 hXN3)) ?_
              refine Rn.aload_n dX11_leastHigh_55 rfl ?_
              refine Rn.getR dX11_leastHigh_56 fX11_84 rfl (xc0 hXN3) (show N3.2.2 0 15 = some 147 from (xp0_15 hXN3)) ?_
              refine Rn.iload dX11_leastHigh_59 rfl ?_
              refine Rn.iald dX11_leastHigh_61 (xc147 hXN3) (by unfold vp_in; decide) ?_
              refine Rn.topI (y := N3.1 147 1) (rfl) ?_
              refine Rn.topI (y := nI a.2.1) ((congrFun (hV3.1 147 (by omega)) 1).trans (hr 1 (by decide))) ?_
              refine Rn.iload_n dX11_leastHigh_62 rfl ?_
              refine Rn.callV2 dX11_leastHigh_63 vX11_262 (xc92 hXN3) (by decide) rfl (trFat (Q := fun v0 ly0 M0 => v0 = none ∧ ly0 = ly ∧ Tr ly M M0 pl n (pl + 7) nw (fun k => M.1 (pl + 7 + k)) (pl + 18) nu (pl + 21) nv (M.1 75 4) 0 1 (caK (M.1 pl 3) (M.1 90) (M.1 88) (M.1 89) nf y a 2) (nf + 2) (fcK (M.1 88) nf a 2) (fkK (M.1 89) nf y 2) (vS M.1 75) ∧ quT N3 M0) (nf := nf + 1) (fc := fcK (M.1 88) nf a 1) (fk := fkK (M.1 89) nf y 1) (ca := caK (M.1 pl 3) (M.1 90) (M.1 88) (M.1 89) nf y a 1) hXS0.ok hT3 (by omega) (fcK_in hn12 hF.2.2 ha 1) (vp_in_nI (gt3_lt hn12 ha 1) (by decide)) (fun K h u => ⟨rfl, rfl, h, u⟩)) (by decide) ⟨(Nat.le_of_ble_eq_true rfl), (Nat.le_of_ble_eq_true rfl), (Nat.le_of_ble_eq_true rfl)⟩ (fun h => by cases h) (fun v1 ly1 N4 ⟨q1, q2, hT4, hU4⟩ => ?_)
              rw [q1, q2]
              have hXN4 := (hT4.1).xw hX
              have hplN4 : N4.2.2 0 3 = some pl := ((hT4.1).2.2 0 3 (by decide)).trans hpl
              have hnN4 : N4.1 pl 0 = nI n := (congrFun ((hT4.1).p0 hp7) 0).trans hn
              have hw1N4 : N4.1 (pl + 1) 0 = nI nw := (congrFun ((hT4.1).pk hp7 (k := 1) (by decide)) 0).trans hw1
              have hV4 := hV3.tr hU4
              refine Rn.iincv (j' := 1) (lv' := [some (.ref 0), some (.int (nI N)), some (.int 2), some (.int y), some (.int bd), some (.int p.1), some (.int 1728), some (.int 1), some (.int (nI i)), some (.int (1 + 1))]) dX11_leastHigh_66 rfl rfl (by decide) rfl ?_
              refine Rn.goto dX11_leastHigh_69 ?_
              show Rn G l mX11_leastHigh (7, 0, 0, false) 45 [some (.ref 0), some (.int (nI N)), some (.int 2), some (.int y), some (.int bd), some (.int p.1), some (.int 1728), some (.int 1), some (.int (nI i)), some (.int 2)] [] ly N4 Q
              refine Rn.iload dX11_leastHigh_45 rfl ?_
              refine Rn.iload_n dX11_leastHigh_47 rfl ?_
              refine Rn.icmp_ge dX11_leastHigh_48 (fun hl => ?_) (fun hl => ?_)
              · skip
                refine Rn.aload_n dX11_leastHigh_72 rfl ?_
                refine Rn.getR dX11_leastHigh_73 fX11_43 rfl (xc0 hXN4) (show N4.2.2 0 6 = some 92 from (xp0_6 hXN4)) ?_
                refine Rn.iload_n dX11_leastHigh_76 rfl ?_
                refine Rn.iload dX11_leastHigh_77 rfl ?_
                refine Rn.iconstv (v := 1) dX11_leastHigh_79 ic_1 ?_
                refine Rn.isub dX11_leastHigh_80 ?_
                refine Rn.callV2 dX11_leastHigh_81 vX11_303 (xc92 hXN4) (by decide) rfl (trHigh (Q := fun v0 ly0 M0 => ly0 = ly ∧ ∃ k, k ≤ N ∧ v0 = some (.int (hgS (TG M.1 pl n nw (fun k => M.1 (pl + 7 + k)) (pl + 18) nu (pl + 21) nv (M.1 75 4) 0 1 (caK (M.1 pl 3) (M.1 90) (M.1 88) (M.1 89) nf y a 2)) (vS M.1 75) n k)) ∧ quX M M0 ∧ quT N4 M0 ∧ (k = N ∨ p.1 - 1 < hgS (TG M.1 pl n nw (fun k => M.1 (pl + 7 + k)) (pl + 18) nu (pl + 21) nv (M.1 75 4) 0 1 (caK (M.1 pl 3) (M.1 90) (M.1 88) (M.1 89) nf y a 2)) (vS M.1 75) n k)) hN hXS0.ok hT4 (fun K k h1 h2 h3 h4 h5 => ⟨rfl, k, h1, rfl, h2, h3, h4⟩)) (by decide) ⟨(Nat.le_of_ble_eq_true rfl), (Nat.le_of_ble_eq_true rfl), (Nat.le_of_ble_eq_true rfl)⟩ (fun h => by cases h) (fun v1 ly1 N9 ⟨q2, kk, hkk, q1, hq9, hU9, hor⟩ => ?_)
                rw [q1, q2]
                have hV9 := hV4.tr hU9
                have hXN9 := (hq9).xw hX
                have hplN9 : N9.2.2 0 3 = some pl := ((hq9).2.2 0 3 (by decide)).trans hpl
                have hnN9 : N9.1 pl 0 = nI n := (congrFun ((hq9).p0 hp7) 0).trans hn
                have hw1N9 : N9.1 (pl + 1) 0 = nI nw := (congrFun ((hq9).pk hp7 (k := 1) (by decide)) 0).trans hw1
                have hr9 : row3 (N9.1 147) a := by intro j hj; rw [hV9.1 147 (by omega)]; exact hr j hj
                have hb9 : bst p.2 (N9.1 148) := by rw [hV9.1 148 (by omega)]; exact hb
                refine Rn.istore (lv' := [some (.ref 0), some (.int (nI N)), some (.int 2), some (.int y), some (.int bd), some (.int p.1), some (.int 1728), some (.int 1), some (.int (nI i)), some (.int (hgS (TG M.1 pl n nw (fun k => M.1 (pl + 7 + k)) (pl + 18) nu (pl + 21) nv (M.1 75 4) 0 1 (caK (M.1 pl 3) (M.1 90) (M.1 88) (M.1 89) nf y a 2)) (vS M.1 75) n kk))]) dX11_leastHigh_84 (by decide) rfl ?_
                refine Rn.iload dX11_leastHigh_86 rfl ?_
                refine Rn.iload dX11_leastHigh_88 rfl ?_
                refine Rn.icmp_ge dX11_leastHigh_90 (fun hd => ?_) (fun hd => ?_)
                · skip
                  have hno : ¬ hgS (TG M.1 pl n nw (fun k => M.1 (pl + 7 + k)) (pl + 18) nu (pl + 21) nv (M.1 75 4) 0 1 (caK (M.1 pl 3) (M.1 90) (M.1 88) (M.1 89) nf y a 2)) (vS M.1 75) n N < p.1 := fun h => Int32.not_le.mpr h (Int32.le_trans hd (hgS_mono N hkk))
                  have hpp : (if (fun a => hgS (TG M.1 pl n nw (fun k => M.1 (pl + 7 + k)) (pl + 18) nu (pl + 21) nv (M.1 75 4) 0 1 (caK (M.1 pl 3) (M.1 90) (M.1 88) (M.1 89) nf y a 2)) (vS M.1 75) n N) a < p.1 then ((fun a => hgS (TG M.1 pl n nw (fun k => M.1 (pl + 7 + k)) (pl + 18) nu (pl + 21) nv (M.1 75 4) 0 1 (caK (M.1 pl 3) (M.1 90) (M.1 88) (M.1 89) nf y a 2)) (vS M.1 75) n N) a, some a) else p) = p := if_neg hno
                  refine Rn.forget (lv' := [some (.ref 0), some (.int (nI N)), some (.int 2), some (.int y), some (.int bd), some (.int p.1), some (.int 1728), some (.int 1), some (.int (nI i)), none]) (⟨rfl, ⟨rfl, ⟨rfl, ⟨rfl, ⟨rfl, ⟨rfl, ⟨rfl, ⟨rfl, ⟨rfl, trivial⟩⟩⟩⟩⟩⟩⟩⟩⟩) ?_
                  refine Rn.aload_n dX11_leastHigh_115 rfl ?_
                  refine Rn.iload_n dX11_leastHigh_116 rfl ?_
                  refine Rn.callV1 dX11_leastHigh_117 vX11_325 (xc0 hXN9) (by decide) rfl (tX11_nextSpots2 (Q := fun v0 ly0 M0 => ly0 = ly ∧ ((nxS n 2 a = none ∧ v0 = some (.int 0) ∧ M0 = N9) ∨ (∃ b f, nxS n 2 a = some b ∧ row3 f b ∧ v0 = some (.int 1) ∧ M0 = sI N9 147 f))) (hq9.xs hXS0) hr9 ha ⟨fun h => ⟨rfl, Or.inl ⟨h, rfl, rfl⟩⟩, fun b f h1 h2 => ⟨rfl, Or.inr ⟨b, f, h1, h2, rfl, rfl⟩⟩⟩) (by decide) ⟨(Nat.le_of_ble_eq_true rfl), (Nat.le_of_ble_eq_true rfl), (Nat.le_of_ble_eq_true rfl)⟩ (fun h => by cases h) (fun v1 ly1 NN ⟨q2, hor⟩ => ?_)
                  rw [q2]
                  rcases hor with ⟨h1, q1, q3⟩ | ⟨b, g, h1, h2, q1, q3⟩
                  · skip
                    rw [q1, q3]
                    refine Rn.istore (lv' := [some (.ref 0), some (.int (nI N)), some (.int 2), some (.int y), some (.int bd), some (.int p.1), some (.int 1728), some (.int 0), some (.int (nI i)), none]) dX11_leastHigh_120 (by decide) rfl ?_
                    refine Rn.iincN (lv' := [some (.ref 0), some (.int (nI N)), some (.int 2), some (.int y), some (.int bd), some (.int p.1), some (.int 1728), some (.int 0), some (.int (nI (i + 1))), none]) dX11_leastHigh_122 rfl (by decide) rfl ?_
                    refine Rn.goto dX11_leastHigh_125 ?_
                    exact fin (i + 1) _ _ (by omega) (by have h := hR N9 hq9; rw [lsS_n h1, lhF, hpp] at h; exact h hb9)
                  · skip
                    rw [q1, q3]
                    refine Rn.istore (lv' := [some (.ref 0), some (.int (nI N)), some (.int 2), some (.int y), some (.int bd), some (.int p.1), some (.int 1728), some (.int 1), some (.int (nI i)), none]) dX11_leastHigh_120 (by decide) rfl ?_
                    refine Rn.iincN (lv' := [some (.ref 0), some (.int (nI N)), some (.int 2), some (.int y), some (.int bd), some (.int p.1), some (.int 1728), some (.int 1), some (.int (nI (i + 1))), none]) dX11_leastHigh_122 rfl (by decide) rfl ?_
                    refine Rn.goto dX11_leastHigh_125 ?_
                    exact ih (i + 1) b p _ (by omega) hp (hq9.tr2 ⟨fun k _ _ _ _ h _ => sI_ne h, fun j _ => rfl, fun _ _ _ => rfl⟩) h2 (nxS_lt ha h1) (hb9) (fun M' hq => by have h := hR M' hq; rw [lsS_s h1, lhF, hpp] at h; exact h)
                · skip
                  have hkN : kk = N := hor.elim id (fun h => absurd ((m1_lt hp.1).mp h) hd)
                  subst hkN
                  have hpp : (if (fun a => hgS (TG M.1 pl n nw (fun k => M.1 (pl + 7 + k)) (pl + 18) nu (pl + 21) nv (M.1 75 4) 0 1 (caK (M.1 pl 3) (M.1 90) (M.1 88) (M.1 89) nf y a 2)) (vS M.1 75) n kk) a < p.1 then ((fun a => hgS (TG M.1 pl n nw (fun k => M.1 (pl + 7 + k)) (pl + 18) nu (pl + 21) nv (M.1 75 4) 0 1 (caK (M.1 pl 3) (M.1 90) (M.1 88) (M.1 89) nf y a 2)) (vS M.1 75) n kk) a, some a) else p) = ((fun a => hgS (TG M.1 pl n nw (fun k => M.1 (pl + 7 + k)) (pl + 18) nu (pl + 21) nv (M.1 75 4) 0 1 (caK (M.1 pl 3) (M.1 90) (M.1 88) (M.1 89) nf y a 2)) (vS M.1 75) n kk) a, some a) := if_pos (Int32.not_le.mp hd)
                  refine Rn.iload dX11_leastHigh_93 rfl ?_
                  refine Rn.istore (lv' := [some (.ref 0), some (.int (nI kk)), some (.int 2), some (.int y), some (.int bd), some (.int (hgS (TG M.1 pl n nw (fun k => M.1 (pl + 7 + k)) (pl + 18) nu (pl + 21) nv (M.1 75 4) 0 1 (caK (M.1 pl 3) (M.1 90) (M.1 88) (M.1 89) nf y a 2)) (vS M.1 75) n kk)), some (.int 1728), some (.int 1), some (.int (nI i)), some (.int (hgS (TG M.1 pl n nw (fun k => M.1 (pl + 7 + k)) (pl + 18) nu (pl + 21) nv (M.1 75 4) 0 1 (caK (M.1 pl 3) (M.1 90) (M.1 88) (M.1 89) nf y a 2)) (vS M.1 75) n kk))]) dX11_leastHigh_95 (by decide) rfl ?_
                  refine Rn.aload_n dX11_leastHigh_97 rfl ?_
                  refine Rn.getR dX11_leastHigh_98 fX11_84 rfl (xc0 hXN9) (show N9.2.2 0 15 = some 147 from (xp0_15 hXN9)) ?_
                  refine Rn.iconstv (v := 0) dX11_leastHigh_101 ic_0 ?_
                  refine Rn.aload_n dX11_leastHigh_102 rfl ?_
                  refine Rn.getR dX11_leastHigh_103 fX11_87 rfl (xc0 hXN9) (show N9.2.2 0 16 = some 148 from (xp0_16 hXN9)) ?_
                  refine Rn.iconstv (v := 0) dX11_leastHigh_106 ic_0 ?_
                  refine Rn.aload_n dX11_leastHigh_107 rfl ?_
                  refine Rn.getR dX11_leastHigh_108 fX11_84 rfl (xc0 hXN9) (show N9.2.2 0 15 = some 147 from (xp0_15 hXN9)) ?_
                  refine Rn.alen dX11_leastHigh_111 (xc147 hXN9) (by decide) ?_
                  show Rn G l mX11_leastHigh (7, 0, 0, false) 112 [some (.ref 0), some (.int (nI kk)), some (.int 2), some (.int y), some (.int bd), some (.int (hgS (TG M.1 pl n nw (fun k => M.1 (pl + 7 + k)) (pl + 18) nu (pl + 21) nv (M.1 75 4) 0 1 (caK (M.1 pl 3) (M.1 90) (M.1 88) (M.1 89) nf y a 2)) (vS M.1 75) n kk)), some (.int 1728), some (.int 1), some (.int (nI i)), some (.int (hgS (TG M.1 pl n nw (fun k => M.1 (pl + 7 + k)) (pl + 18) nu (pl + 21) nv (M.1 75 4) 0 1 (caK (M.1 pl 3) (M.1 90) (M.1 88) (M.1 89) nf y a 2)) (vS M.1 75) n kk))] [.int 3, .int 0, .ref 148, .int 0, .ref 147] ly N9 Q
                  refine Rn.copy dX11_leastHigh_112 jX11_289 jw_copy (xc147 hXN9) (xc148 hXN9) (by decide) (by decide) (by decide) (by decide) (by decide) ⟨(Nat.le_of_ble_eq_true rfl), (Nat.le_of_ble_eq_true rfl)⟩ ?_
                  refine Rn.meq (M2 := sI N9 148 (pre 3 (N9.1 147) (N9.1 148))) (congrArg (fun r9 => sI N9 148 r9) ((congr (congrArg (fun u v => va_cpy u v 0 0 3) (rfl)) (rfl)).trans (cpy_pre 3 (N9.1 147) (N9.1 148)))) ?_
                  have hqA : quX M (sI N9 148 (pre 3 (N9.1 147) (N9.1 148))) := hq9.tr2 ⟨fun k _ _ _ _ _ h => sI_ne h, fun j _ => rfl, fun _ _ _ => rfl⟩
                  have hrA : row3 ((sI N9 148 (pre 3 (N9.1 147) (N9.1 148))).1 147) a := hr9
                  have hbA : row3 ((sI N9 148 (pre 3 (N9.1 147) (N9.1 148))).1 148) a := fun j hj => (pre_lt hj).trans (hr9 j hj)
                  generalize (sI N9 148 (pre 3 (N9.1 147) (N9.1 148))) = NA at hqA hrA hbA ⊢
                  have hXNA := (hqA).xw hX
                  have hplNA : NA.2.2 0 3 = some pl := ((hqA).2.2 0 3 (by decide)).trans hpl
                  have hnNA : NA.1 pl 0 = nI n := (congrFun ((hqA).p0 hp7) 0).trans hn
                  have hw1NA : NA.1 (pl + 1) 0 = nI nw := (congrFun ((hqA).pk hp7 (k := 1) (by decide)) 0).trans hw1
                  refine Rn.forget (lv' := [some (.ref 0), some (.int (nI kk)), some (.int 2), some (.int y), some (.int bd), some (.int (hgS (TG M.1 pl n nw (fun k => M.1 (pl + 7 + k)) (pl + 18) nu (pl + 21) nv (M.1 75 4) 0 1 (caK (M.1 pl 3) (M.1 90) (M.1 88) (M.1 89) nf y a 2)) (vS M.1 75) n kk)), some (.int 1728), some (.int 1), some (.int (nI i)), none]) (⟨rfl, ⟨rfl, ⟨rfl, ⟨rfl, ⟨rfl, ⟨rfl, ⟨rfl, ⟨rfl, ⟨rfl, trivial⟩⟩⟩⟩⟩⟩⟩⟩⟩) ?_
                  refine Rn.aload_n dX11_leastHigh_115 rfl ?_
                  refine Rn.iload_n dX11_leastHigh_116 rfl ?_
                  refine Rn.callV1 dX11_leastHigh_117 vX11_325 (xc0 hXNA) (by decide) rfl (tX11_nextSpots2 (Q := fun v0 ly0 M0 => ly0 = ly ∧ ((nxS n 2 a = none ∧ v0 = some (.int 0) ∧ M0 = NA) ∨ (∃ b f, nxS n 2 a = some b ∧ row3 f b ∧ v0 = some (.int 1) ∧ M0 = sI NA 147 f))) (hqA.xs hXS0) hrA ha ⟨fun h => ⟨rfl, Or.inl ⟨h, rfl, rfl⟩⟩, fun b f h1 h2 => ⟨rfl, Or.inr ⟨b, f, h1, h2, rfl, rfl⟩⟩⟩) (by decide) ⟨(Nat.le_of_ble_eq_true rfl), (Nat.le_of_ble_eq_true rfl), (Nat.le_of_ble_eq_true rfl)⟩ (fun h => by cases h) (fun v1 ly1 NN ⟨q2, hor⟩ => ?_)
                  rw [q2]
                  rcases hor with ⟨h1, q1, q3⟩ | ⟨b, g, h1, h2, q1, q3⟩
                  · skip
                    rw [q1, q3]
                    refine Rn.istore (lv' := [some (.ref 0), some (.int (nI kk)), some (.int 2), some (.int y), some (.int bd), some (.int (hgS (TG M.1 pl n nw (fun k => M.1 (pl + 7 + k)) (pl + 18) nu (pl + 21) nv (M.1 75 4) 0 1 (caK (M.1 pl 3) (M.1 90) (M.1 88) (M.1 89) nf y a 2)) (vS M.1 75) n kk)), some (.int 1728), some (.int 0), some (.int (nI i)), none]) dX11_leastHigh_120 (by decide) rfl ?_
                    refine Rn.iincN (lv' := [some (.ref 0), some (.int (nI kk)), some (.int 2), some (.int y), some (.int bd), some (.int (hgS (TG M.1 pl n nw (fun k => M.1 (pl + 7 + k)) (pl + 18) nu (pl + 21) nv (M.1 75 4) 0 1 (caK (M.1 pl 3) (M.1 90) (M.1 88) (M.1 89) nf y a 2)) (vS M.1 75) n kk)), some (.int 1728), some (.int 0), some (.int (nI (i + 1))), none]) dX11_leastHigh_122 rfl (by decide) rfl ?_
                    refine Rn.goto dX11_leastHigh_125 ?_
                    exact fin (i + 1) _ _ (by omega) (by have h := hR NA hqA; rw [lsS_n h1, lhF, hpp] at h; exact h hbA)
                  · skip
                    rw [q1, q3]
                    refine Rn.istore (lv' := [some (.ref 0), some (.int (nI kk)), some (.int 2), some (.int y), some (.int bd), some (.int (hgS (TG M.1 pl n nw (fun k => M.1 (pl + 7 + k)) (pl + 18) nu (pl + 21) nv (M.1 75 4) 0 1 (caK (M.1 pl 3) (M.1 90) (M.1 88) (M.1 89) nf y a 2)) (vS M.1 75) n kk)), some (.int 1728), some (.int 1), some (.int (nI i)), none]) dX11_leastHigh_120 (by decide) rfl ?_
                    refine Rn.iincN (lv' := [some (.ref 0), some (.int (nI kk)), some (.int 2), some (.int y), some (.int bd), some (.int (hgS (TG M.1 pl n nw (fun k => M.1 (pl + 7 + k)) (pl + 18) nu (pl + 21) nv (M.1 75 4) 0 1 (caK (M.1 pl 3) (M.1 90) (M.1 88) (M.1 89) nf y a 2)) (vS M.1 75) n kk)), some (.int 1728), some (.int 1), some (.int (nI (i + 1))), none]) dX11_leastHigh_122 rfl (by decide) rfl ?_
                    refine Rn.goto dX11_leastHigh_125 ?_
                    exact ih (i + 1) b ((fun a => hgS (TG M.1 pl n nw (fun k => M.1 (pl + 7 + k)) (pl + 18) nu (pl + 21) nv (M.1 75 4) 0 1 (caK (M.1 pl 3) (M.1 90) (M.1 88) (M.1 89) nf y a 2)) (vS M.1 75) n kk) a, some a) _ (by omega) ⟨Int32.le_trans (show (0 : Int32) ≤ 0 by decide) (hgS_mono (k := 0) kk (by omega)), Int32.le_trans (hgS_le (fun s => gr_pas) kk) (by decide)⟩ (hqA.tr2 ⟨fun k _ _ _ _ h _ => sI_ne h, fun j _ => rfl, fun _ _ _ => rfl⟩) h2 (nxS_lt ha h1) (hbA) (fun M' hq => by have h := hR M' hq; rw [lsS_s h1, lhF, hpp] at h; exact h)
              · skip
                exact absurd (by decide) hl
  exact loop 1728 0 (0, 0, 0) (bd + 1, none) N1 (by omega) (bd_1 hbd) hq1 hr1 (by simp only []; omega) trivial hQ
theorem tX11_leastHigh3 {G : Gx} {l : Launch} {ly : Ly} {M : Mm} {pl n nw nu nv nf : Nat} {N : Nat} {y bd : Int32} {M0 : Mm} (hq0 : quX M M0) (hN : N < 1000) (hbd : 0 ≤ bd ∧ bd ≤ 100000) (hnf : nf + 3 ≤ 8) (hXS : XS ly M pl n nw nu nv) (hF : M.1 87 0 = nI nf ∧ nf ≤ 8 ∧ ∀ i, i < nf → vp_in (M.1 88 i) 12) {Q : Qt} (hQ : ∀ M' : Mm, quX M M' → bst (lhF (fun a => hgS (TG M.1 pl n nw (fun k => M.1 (pl + 7 + k)) (pl + 18) nu (pl + 21) nv (M.1 75 4) 0 1 (caK (M.1 pl 3) (M.1 90) (M.1 88) (M.1 89) nf y a 3)) (vS M.1 75) n N) (lsS n 3 1728 (0, 0, 0)) (bd + 1, none)).2 (M'.1 148) → Q (some (.int (lhF (fun a => hgS (TG M.1 pl n nw (fun k => M.1 (pl + 7 + k)) (pl + 18) nu (pl + 21) nv (M.1 75 4) 0 1 (caK (M.1 pl 3) (M.1 90) (M.1 88) (M.1 89) nf y a 3)) (vS M.1 75) n N) (lsS n 3 1728 (0, 0, 0)) (bd + 1, none)).1)) ly M') : Mt G l mX11_leastHigh (7, 0, 0, false) [.ref 0, .int (nI N), .int 3, .int y, .int bd] ly M0 Q := by
  have hXS0 := hXS
  obtain ⟨hX, hpl, hp7, ⟨n0, n1, n2, n3⟩, ⟨hn, hn2, hn12⟩, ⟨hw1, hw2, hw6⟩, ⟨hu1, hu2, hv1, hv2⟩, hgl, hbb⟩ := hXS
  refine Mt.of (lv := [some (.ref 0), some (.int (nI N)), some (.int 3), some (.int y), some (.int bd), none, none, none, none, none]) rfl ?_
  have hXM0 := (hq0).xw hX
  have hplM0 : M0.2.2 0 3 = some pl := ((hq0).2.2 0 3 (by decide)).trans hpl
  have hnM0 : M0.1 pl 0 = nI n := (congrFun ((hq0).p0 hp7) 0).trans hn
  have hw1M0 : M0.1 (pl + 1) 0 = nI nw := (congrFun ((hq0).pk hp7 (k := 1) (by decide)) 0).trans hw1
  refine Rn.iload dX11_leastHigh_0 rfl ?_
  refine Rn.iconstv (v := 1) dX11_leastHigh_2 ic_1 ?_
  refine Rn.iadd dX11_leastHigh_3 ?_
  refine Rn.istore (lv' := [some (.ref 0), some (.int (nI N)), some (.int 3), some (.int y), some (.int bd), some (.int (bd + 1)), none, none, none, none]) dX11_leastHigh_4 (by decide) rfl ?_
  refine Rn.sipushv (v := 1728) dX11_leastHigh_6 sp_1728 ?_
  refine Rn.istore (lv' := [some (.ref 0), some (.int (nI N)), some (.int 3), some (.int y), some (.int bd), some (.int (bd + 1)), some (.int 1728), none, none, none]) dX11_leastHigh_9 (by decide) rfl ?_
  refine Rn.aload_n dX11_leastHigh_11 rfl ?_
  refine Rn.getR dX11_leastHigh_12 fX11_84 rfl (xc0 hXM0) (show M0.2.2 0 15 = some 147 from (xp0_15 hXM0)) ?_
  refine Rn.iconstv (v := 0) dX11_leastHigh_15 ic_0 ?_
  refine Rn.callS2 dX11_leastHigh_16 vX11_319 (tJ7_fill (a := 147) (N := 3) (xc147 hXM0) (by decide)) (by decide) ⟨(Nat.le_of_ble_eq_true rfl), (Nat.le_of_ble_eq_true rfl), (Nat.le_of_ble_eq_true rfl)⟩ (fun h => by cases h) (fun v1 ly1 M1 ⟨q1, q2, q3⟩ => ?_)
  rw [q1, q2, q3]
  show Rn G l mX11_leastHigh (7, 0, 0, false) 19 [some (.ref 0), some (.int (nI N)), some (.int 3), some (.int y), some (.int bd), some (.int (bd + 1)), some (.int 1728), none, none, none] [] ly (sI M0 147 (pre 3 (fun _ => 0) (M0.1 147))) Q
  refine Rn.iconstv (v := 1) dX11_leastHigh_19 ic_1 ?_
  refine Rn.istore (lv' := [some (.ref 0), some (.int (nI N)), some (.int 3), some (.int y), some (.int bd), some (.int (bd + 1)), some (.int 1728), some (.int 1), none, none]) dX11_leastHigh_20 (by decide) rfl ?_
  refine Rn.iconstv (v := 0) dX11_leastHigh_22 ic_0 ?_
  refine Rn.istore (lv' := [some (.ref 0), some (.int (nI N)), some (.int 3), some (.int y), some (.int bd), some (.int (bd + 1)), some (.int 1728), some (.int 1), some (.int 0), none]) dX11_leastHigh_23 (by decide) rfl ?_
  have hq1 : quX M (sI M0 147 (pre 3 (fun _ => 0) (M0.1 147))) := hq0.tr2 ⟨fun k _ _ _ _ h _ => sI_ne h, fun j _ => rfl, fun _ _ _ => rfl⟩
  have hr1 : row3 ((sI M0 147 (pre 3 (fun _ => 0) (M0.1 147))).1 147) (0, 0, 0) := row3.up (a := (0, 0, 0)) rfl rfl rfl
  generalize sI M0 147 (pre 3 (fun _ => 0) (M0.1 147)) = N1 at hq1 hr1 ⊢
  have fin : ∀ (i : Nat) (p : Int32) (K : Mm), i ≤ 1728 → Q (some (.int p)) ly K → Rn G l mX11_leastHigh (7, 0, 0, false) 25 [some (.ref 0), some (.int (nI N)), some (.int 3), some (.int y), some (.int bd), some (.int p), some (.int 1728), some (.int 0), some (.int (nI i)), none] [] ly K Q := by
    intro i p K hi hR
    refine Rn.iload dX11_leastHigh_25 rfl ?_
    refine Rn.iload dX11_leastHigh_27 rfl ?_
    refine Rn.icmp_ge dX11_leastHigh_29 (fun f1 => ?_) (fun f1 => ?_)
    · skip
      refine Rn.iload dX11_leastHigh_128 rfl ?_
      exact Rn.iret (ty := .int) dX11_leastHigh_130 rfl rfl hR
    · skip
      refine Rn.iload dX11_leastHigh_32 rfl ?_
      refine Rn.if_eq dX11_leastHigh_34 (fun f2 => ?_) (fun f2 => ?_)
      · skip
        refine Rn.iload dX11_leastHigh_128 rfl ?_
        exact Rn.iret (ty := .int) dX11_leastHigh_130 rfl rfl hR
      · skip
        exact absurd rfl f2
  have loop : ∀ (f i : Nat) (a : Nat × Nat × Nat) (p : Int32 × Option (Nat × Nat × Nat)) (N1 : Mm), i + f = 1728 → (0 ≤ p.1 ∧ p.1 ≤ 100001) → quX M N1 → row3 (N1.1 147) a → (a.1 < n ∧ a.2.1 < n ∧ a.2.2 < n) → bst p.2 (N1.1 148) → (∀ M' : Mm, quX M M' → bst (lhF (fun a => hgS (TG M.1 pl n nw (fun k => M.1 (pl + 7 + k)) (pl + 18) nu (pl + 21) nv (M.1 75 4) 0 1 (caK (M.1 pl 3) (M.1 90) (M.1 88) (M.1 89) nf y a 3)) (vS M.1 75) n N) (lsS n 3 f a) p).2 (M'.1 148) → Q (some (.int (lhF (fun a => hgS (TG M.1 pl n nw (fun k => M.1 (pl + 7 + k)) (pl + 18) nu (pl + 21) nv (M.1 75 4) 0 1 (caK (M.1 pl 3) (M.1 90) (M.1 88) (M.1 89) nf y a 3)) (vS M.1 75) n N) (lsS n 3 f a) p).1)) ly M') → Rn G l mX11_leastHigh (7, 0, 0, false) 25 [some (.ref 0), some (.int (nI N)), some (.int 3), some (.int y), some (.int bd), some (.int p.1), some (.int 1728), some (.int 1), some (.int (nI i)), none] [] ly N1 Q := by
    intro f
    induction f with
    | zero =>
      intro i a p N1 hi hp hq1 hr ha hb hR
      have hXN1 := (hq1).xw hX
      have hplN1 : N1.2.2 0 3 = some pl := ((hq1).2.2 0 3 (by decide)).trans hpl
      have hnN1 : N1.1 pl 0 = nI n := (congrFun ((hq1).p0 hp7) 0).trans hn
      have hw1N1 : N1.1 (pl + 1) 0 = nI nw := (congrFun ((hq1).pk hp7 (k := 1) (by decide)) 0).trans hw1
      refine Rn.iload dX11_leastHigh_25 rfl ?_
      refine Rn.iload dX11_leastHigh_27 rfl ?_
      refine Rn.icmp_ge dX11_leastHigh_29 (fun hc => ?_) (fun hc => ?_)
      · skip
        refine Rn.iload dX11_leastHigh_128 rfl ?_
        exact Rn.iret (ty := .int) dX11_leastHigh_130 rfl rfl (hR N1 hq1 hb)
      · skip
        exact absurd (nI_le (a := 1728) (b := i) (by omega) (by omega)) hc
    | succ f ih =>
      intro i a p N1 hi hp hq1 hr ha hb hR
      have hXN1 := (hq1).xw hX
      have hplN1 : N1.2.2 0 3 = some pl := ((hq1).2.2 0 3 (by decide)).trans hpl
      have hnN1 : N1.1 pl 0 = nI n := (congrFun ((hq1).p0 hp7) 0).trans hn
      have hw1N1 : N1.1 (pl + 1) 0 = nI nw := (congrFun ((hq1).pk hp7 (k := 1) (by decide)) 0).trans hw1
      refine Rn.iload dX11_leastHigh_25 rfl ?_
      refine Rn.iload dX11_leastHigh_27 rfl ?_
      refine Rn.icmp_ge dX11_leastHigh_29 (fun hc => ?_) (fun hc => ?_)
      · skip
        exact absurd hc (nI_ge (a := i) (b := 1728) (by omega) (by omega))
      · skip
        refine Rn.iload dX11_leastHigh_32 rfl ?_
        refine Rn.if_eq dX11_leastHigh_34 (fun hm => ?_) (fun hm => ?_)
        · skip
          exact absurd hm (by decide)
        · skip
          refine Rn.aload_n dX11_leastHigh_37 rfl ?_
          refine Rn.iconstv (v := 1) dX11_leastHigh_38 ic_1 ?_
          refine Rn.callV1 dX11_leastHigh_39 vX11_299 (xc0 hXN1) (by decide) rfl (trNow (Q := fun v0 ly0 M0 => v0 = none ∧ ly0 = ly ∧ Tr ly M M0 pl n (pl + 7) nw (fun k => M.1 (pl + 7 + k)) (pl + 18) nu (pl + 21) nv (M.1 75 4) 0 1 (M.1 90) nf (M.1 88) (M.1 89) (vS M.1 75) ∧ quT N1 M0) (Or.inr rfl) hXS0 hF.1 hq1 (fun K h u => ⟨rfl, rfl, h, u⟩)) (by decide) ⟨(Nat.le_of_ble_eq_true rfl), (Nat.le_of_ble_eq_true rfl), (Nat.le_of_ble_eq_true rfl)⟩ (fun h => by cases h) (fun v1 ly1 N2 ⟨q1, q2, hT2, hU2⟩ => ?_)
          rw [q1, q2]
          have hXN2 := (hT2.1).xw hX
          have hplN2 : N2.2.2 0 3 = some pl := ((hT2.1).2.2 0 3 (by decide)).trans hpl
          have hnN2 : N2.1 pl 0 = nI n := (congrFun ((hT2.1).p0 hp7) 0).trans hn
          have hw1N2 : N2.1 (pl + 1) 0 = nI nw := (congrFun ((hT2.1).pk hp7 (k := 1) (by decide)) 0).trans hw1
          refine Rn.iconstv (v := 0) dX11_leastHigh_42 ic_0 ?_
          refine Rn.istore (lv' := [some (.ref 0), some (.int (nI N)), some (.int 3), some (.int y), some (.int bd), some (.int p.1), some (.int 1728), some (.int 1), some (.int (nI i)), some (.int 0)]) dX11_leastHigh_43 (by decide) rfl ?_
          refine Rn.iload dX11_leastHigh_45 rfl ?_
          refine Rn.iload_n dX11_leastHigh_47 rfl ?_
          refine Rn.icmp_ge dX11_leastHigh_48 (fun hl => ?_) (fun hl => ?_)
          · skip
            exact absurd hl (by decide)
          · skip
            refine Rn.aload_n dX11_leastHigh_51 rfl ?_
            refine Rn.getR dX11_leastHigh_52 fX11_43 rfl (xc0 hXN2) (show N2.2.2 0 6 = some 92 from (xp0_6 hXN2)) ?_
            refine Rn.aload_n dX11_leastHigh_55 rfl ?_
            refine Rn.getR dX11_leastHigh_56 fX11_84 rfl (xc0 hXN2) (show N2.2.2 0 15 = some 147 from (xp0_15 hXN2)) ?_
            refine Rn.iload dX11_leastHigh_59 rfl ?_
            refine Rn.iald dX11_leastHigh_61 (xc147 hXN2) (by unfold vp_in; decide) ?_
            refine Rn.topI (y := N2.1 147 0) (rfl) ?_
            refine Rn.topI (y := nI a.1) ((congrFun (hU2.1 147 (by omega)) 0).trans (hr 0 (by decide))) ?_
            refine Rn.iload_n dX11_leastHigh_62 rfl ?_
            refine Rn.callV2 dX11_leastHigh_63 vX11_262 (xc92 hXN2) (by decide) rfl (trFat (Q := fun v0 ly0 M0 => v0 = none ∧ ly0 = ly ∧ Tr ly M M0 pl n (pl + 7) nw (fun k => M.1 (pl + 7 + k)) (pl + 18) nu (pl + 21) nv (M.1 75 4) 0 1 (caK (M.1 pl 3) (M.1 90) (M.1 88) (M.1 89) nf y a 1) (nf + 1) (fcK (M.1 88) nf a 1) (fkK (M.1 89) nf y 1) (vS M.1 75) ∧ quT N2 M0) (nf := nf + 0) (fc := fcK (M.1 88) nf a 0) (fk := fkK (M.1 89) nf y 0) (ca := caK (M.1 pl 3) (M.1 90) (M.1 88) (M.1 89) nf y a 0) hXS0.ok hT2 (by omega) (fcK_in hn12 hF.2.2 ha 0) (vp_in_nI (gt3_lt hn12 ha 0) (by decide)) (fun K h u => ⟨rfl, rfl, h, u⟩)) (by decide) ⟨(Nat.le_of_ble_eq_true rfl), (Nat.le_of_ble_eq_true rfl), (Nat.le_of_ble_eq_true rfl)⟩ (fun h => by cases h) (fun v1 ly1 N3 ⟨q1, q2, hT3, hU3⟩ => ?_)
            rw [q1, q2]
            have hXN3 := (hT3.1).xw hX
            have hplN3 : N3.2.2 0 3 = some pl := ((hT3.1).2.2 0 3 (by decide)).trans hpl
            have hnN3 : N3.1 pl 0 = nI n := (congrFun ((hT3.1).p0 hp7) 0).trans hn
            have hw1N3 : N3.1 (pl + 1) 0 = nI nw := (congrFun ((hT3.1).pk hp7 (k := 1) (by decide)) 0).trans hw1
            have hV3 := hU2.tr hU3
            refine Rn.iincv (j' := 1) (lv' := [some (.ref 0), some (.int (nI N)), some (.int 3), some (.int y), some (.int bd), some (.int p.1), some (.int 1728), some (.int 1), some (.int (nI i)), some (.int (0 + 1))]) dX11_leastHigh_66 rfl rfl (by decide) rfl ?_
            refine Rn.goto dX11_leastHigh_69 ?_
            show Rn G l mX11_leastHigh (7, 0, 0, false) 45 [some (.ref 0), some (.int (nI N)), some (.int 3), some (.int y), some (.int bd), some (.int p.1), some (.int 1728), some (.int 1), some (.int (nI i)), some (.int 1)] [] ly N3 Q
            refine Rn.iload dX11_leastHigh_45 rfl ?_
            refine Rn.iload_n dX11_leastHigh_47 rfl ?_
            refine Rn.icmp_ge dX11_leastHigh_48 (fun hl => ?_) (fun hl => ?_)
            · skip
              exact absurd hl (by decide)
            · skip
              refine Rn.aload_n dX11_leastHigh_51 rfl ?_
              refine Rn.getR dX11_leastHigh_52 fX11_43 rfl (xc0 hXN3) (show N3.2.2 0 6 = some 92 from (xp0_6 hXN3)) ?_
              refine Rn.aload_n dX11_leastHigh_55 rfl ?_
              refine Rn.getR dX11_leastHigh_56 fX11_84 rfl (xc0 hXN3) (show N3.2.2 0 15 = some 147 from (xp0_15 hXN3)) ?_
              refine Rn.iload dX11_leastHigh_59 rfl ?_
              refine Rn.iald dX11_leastHigh_61 (xc147 hXN3) (by unfold vp_in; decide) ?_
              refine Rn.topI (y := N3.1 147 1) (rfl) ?_
              refine Rn.topI (y := nI a.2.1) ((congrFun (hV3.1 147 (by omega)) 1).trans (hr 1 (by decide))) ?_
              refine Rn.iload_n dX11_leastHigh_62 rfl ?_
              refine Rn.callV2 dX11_leastHigh_63 vX11_262 (xc92 hXN3) (by decide) rfl (trFat (Q := fun v0 ly0 M0 => v0 = none ∧ ly0 = ly ∧ Tr ly M M0 pl n (pl + 7) nw (fun k => M.1 (pl + 7 + k)) (pl + 18) nu (pl + 21) nv (M.1 75 4) 0 1 (caK (M.1 pl 3) (M.1 90) (M.1 88) (M.1 89) nf y a 2) (nf + 2) (fcK (M.1 88) nf a 2) (fkK (M.1 89) nf y 2) (vS M.1 75) ∧ quT N3 M0) (nf := nf + 1) (fc := fcK (M.1 88) nf a 1) (fk := fkK (M.1 89) nf y 1) (ca := caK (M.1 pl 3) (M.1 90) (M.1 88) (M.1 89) nf y a 1) hXS0.ok hT3 (by omega) (fcK_in hn12 hF.2.2 ha 1) (vp_in_nI (gt3_lt hn12 ha 1) (by decide)) (fun K h u => ⟨rfl, rfl, h, u⟩)) (by decide) ⟨(Nat.le_of_ble_eq_true rfl), (Nat.le_of_ble_eq_true rfl), (Nat.le_of_ble_eq_true rfl)⟩ (fun h => by cases h) (fun v1 ly1 N4 ⟨q1, q2, hT4, hU4⟩ => ?_)
              rw [q1, q2]
              have hXN4 := (hT4.1).xw hX
              have hplN4 : N4.2.2 0 3 = some pl := ((hT4.1).2.2 0 3 (by decide)).trans hpl
              have hnN4 : N4.1 pl 0 = nI n := (congrFun ((hT4.1).p0 hp7) 0).trans hn
              have hw1N4 : N4.1 (pl + 1) 0 = nI nw := (congrFun ((hT4.1).pk hp7 (k := 1) (by decide)) 0).trans hw1
              have hV4 := hV3.tr hU4
              refine Rn.iincv (j' := 1) (lv' := [some (.ref 0), some (.int (nI N)), some (.int 3), some (.int y), some (.int bd), some (.int p.1), some (.int 1728), some (.int 1), some (.int (nI i)), some (.int (1 + 1))]) dX11_leastHigh_66 rfl rfl (by decide) rfl ?_
              refine Rn.goto dX11_leastHigh_69 ?_
              show Rn G l mX11_leastHigh (7, 0, 0, false) 45 [some (.ref 0), some (.int (nI N)), some (.int 3), some (.int y), some (.int bd), some (.int p.1), some (.int 1728), some (.int 1), some (.int (nI i)), some (.int 2)] [] ly N4 Q
              refine Rn.iload dX11_leastHigh_45 rfl ?_
              refine Rn.iload_n dX11_leastHigh_47 rfl ?_
              refine Rn.icmp_ge dX11_leastHigh_48 (fun hl => ?_) (fun hl => ?_)
              · skip
                exact absurd hl (by decide)
              · skip
                refine Rn.aload_n dX11_leastHigh_51 rfl ?_
                refine Rn.getR dX11_leastHigh_52 fX11_43 rfl (xc0 hXN4) (show N4.2.2 0 6 = some 92 from (xp0_6 hXN4)) ?_
                refine Rn.aload_n dX11_leastHigh_55 rfl ?_
                refine Rn.getR dX11_leastHigh_56 fX11_84 rfl (xc0 hXN4) (show N4.2.2 0 15 = some 147 from (xp0_15 hXN4)) ?_
                refine Rn.iload dX11_leastHigh_59 rfl ?_
                refine Rn.iald dX11_leastHigh_61 (xc147 hXN4) (by unfold vp_in; decide) ?_
                refine Rn.topI (y := N4.1 147 2) (rfl) ?_
                refine Rn.topI (y := nI a.2.2) ((congrFun (hV4.1 147 (by omega)) 2).trans (hr 2 (by decide))) ?_
                refine Rn.iload_n dX11_leastHigh_62 rfl ?_
                refine Rn.callV2 dX11_leastHigh_63 vX11_262 (xc92 hXN4) (by decide) rfl (trFat (Q := fun v0 ly0 M0 => v0 = none ∧ ly0 = ly ∧ Tr ly M M0 pl n (pl + 7) nw (fun k => M.1 (pl + 7 + k)) (pl + 18) nu (pl + 21) nv (M.1 75 4) 0 1 (caK (M.1 pl 3) (M.1 90) (M.1 88) (M.1 89) nf y a 3) (nf + 3) (fcK (M.1 88) nf a 3) (fkK (M.1 89) nf y 3) (vS M.1 75) ∧ quT N4 M0) (nf := nf + 2) (fc := fcK (M.1 88) nf a 2) (fk := fkK (M.1 89) nf y 2) (ca := caK (M.1 pl 3) (M.1 90) (M.1 88) (M.1 89) nf y a 2) hXS0.ok hT4 (by omega) (fcK_in hn12 hF.2.2 ha 2) (vp_in_nI (gt3_lt hn12 ha 2) (by decide)) (fun K h u => ⟨rfl, rfl, h, u⟩)) (by decide) ⟨(Nat.le_of_ble_eq_true rfl), (Nat.le_of_ble_eq_true rfl), (Nat.le_of_ble_eq_true rfl)⟩ (fun h => by cases h) (fun v1 ly1 N5 ⟨q1, q2, hT5, hU5⟩ => ?_)
                rw [q1, q2]
                have hXN5 := (hT5.1).xw hX
                have hplN5 : N5.2.2 0 3 = some pl := ((hT5.1).2.2 0 3 (by decide)).trans hpl
                have hnN5 : N5.1 pl 0 = nI n := (congrFun ((hT5.1).p0 hp7) 0).trans hn
                have hw1N5 : N5.1 (pl + 1) 0 = nI nw := (congrFun ((hT5.1).pk hp7 (k := 1) (by decide)) 0).trans hw1
                have hV5 := hV4.tr hU5
                refine Rn.iincv (j' := 1) (lv' := [some (.ref 0), some (.int (nI N)), some (.int 3), some (.int y), some (.int bd), some (.int p.1), some (.int 1728), some (.int 1), some (.int (nI i)), some (.int (2 + 1))]) dX11_leastHigh_66 rfl rfl (by decide) rfl ?_
                refine Rn.goto dX11_leastHigh_69 ?_
                show Rn G l mX11_leastHigh (7, 0, 0, false) 45 [some (.ref 0), some (.int (nI N)), some (.int 3), some (.int y), some (.int bd), some (.int p.1), some (.int 1728), some (.int 1), some (.int (nI i)), some (.int 3)] [] ly N5 Q
                refine Rn.iload dX11_leastHigh_45 rfl ?_
                refine Rn.iload_n dX11_leastHigh_47 rfl ?_
                refine Rn.icmp_ge dX11_leastHigh_48 (fun hl => ?_) (fun hl => ?_)
                · skip
                  refine Rn.aload_n dX11_leastHigh_72 rfl ?_
                  refine Rn.getR dX11_leastHigh_73 fX11_43 rfl (xc0 hXN5) (show N5.2.2 0 6 = some 92 from (xp0_6 hXN5)) ?_
                  refine Rn.iload_n dX11_leastHigh_76 rfl ?_
                  refine Rn.iload dX11_leastHigh_77 rfl ?_
                  refine Rn.iconstv (v := 1) dX11_leastHigh_79 ic_1 ?_
                  refine Rn.isub dX11_leastHigh_80 ?_
                  refine Rn.callV2 dX11_leastHigh_81 vX11_303 (xc92 hXN5) (by decide) rfl (trHigh (Q := fun v0 ly0 M0 => ly0 = ly ∧ ∃ k, k ≤ N ∧ v0 = some (.int (hgS (TG M.1 pl n nw (fun k => M.1 (pl + 7 + k)) (pl + 18) nu (pl + 21) nv (M.1 75 4) 0 1 (caK (M.1 pl 3) (M.1 90) (M.1 88) (M.1 89) nf y a 3)) (vS M.1 75) n k)) ∧ quX M M0 ∧ quT N5 M0 ∧ (k = N ∨ p.1 - 1 < hgS (TG M.1 pl n nw (fun k => M.1 (pl + 7 + k)) (pl + 18) nu (pl + 21) nv (M.1 75 4) 0 1 (caK (M.1 pl 3) (M.1 90) (M.1 88) (M.1 89) nf y a 3)) (vS M.1 75) n k)) hN hXS0.ok hT5 (fun K k h1 h2 h3 h4 h5 => ⟨rfl, k, h1, rfl, h2, h3, h4⟩)) (by decide) ⟨(Nat.le_of_ble_eq_true rfl), (Nat.le_of_ble_eq_true rfl), (Nat.le_of_ble_eq_true rfl)⟩ (fun h => by cases h) (fun v1 ly1 N9 ⟨q2, kk, hkk, q1, hq9, hU9, hor⟩ => ?_)
                  rw [q1, q2]
                  have hV9 := hV5.tr hU9
                  have hXN9 := (hq9).xw hX
                  have hplN9 : N9.2.2 0 3 = some pl := ((hq9).2.2 0 3 (by decide)).trans hpl
                  have hnN9 : N9.1 pl 0 = nI n := (congrFun ((hq9).p0 hp7) 0).trans hn
                  have hw1N9 : N9.1 (pl + 1) 0 = nI nw := (congrFun ((hq9).pk hp7 (k := 1) (by decide)) 0).trans hw1
                  have hr9 : row3 (N9.1 147) a := by intro j hj; rw [hV9.1 147 (by omega)]; exact hr j hj
                  have hb9 : bst p.2 (N9.1 148) := by rw [hV9.1 148 (by omega)]; exact hb
                  refine Rn.istore (lv' := [some (.ref 0), some (.int (nI N)), some (.int 3), some (.int y), some (.int bd), some (.int p.1), some (.int 1728), some (.int 1), some (.int (nI i)), some (.int (hgS (TG M.1 pl n nw (fun k => M.1 (pl + 7 + k)) (pl + 18) nu (pl + 21) nv (M.1 75 4) 0 1 (caK (M.1 pl 3) (M.1 90) (M.1 88) (M.1 89) nf y a 3)) (vS M.1 75) n kk))]) dX11_leastHigh_84 (by decide) rfl ?_
                  refine Rn.iload dX11_leastHigh_86 rfl ?_
                  refine Rn.iload dX11_leastHigh_88 rfl ?_
                  refine Rn.icmp_ge dX11_leastHigh_90 (fun hd => ?_) (fun hd => ?_)
                  · skip
                    have hno : ¬ hgS (TG M.1 pl n nw (fun k => M.1 (pl + 7 + k)) (pl + 18) nu (pl + 21) nv (M.1 75 4) 0 1 (caK (M.1 pl 3) (M.1 90) (M.1 88) (M.1 89) nf y a 3)) (vS M.1 75) n N < p.1 := fun h => Int32.not_le.mpr h (Int32.le_trans hd (hgS_mono N hkk))
                    have hpp : (if (fun a => hgS (TG M.1 pl n nw (fun k => M.1 (pl + 7 + k)) (pl + 18) nu (pl + 21) nv (M.1 75 4) 0 1 (caK (M.1 pl 3) (M.1 90) (M.1 88) (M.1 89) nf y a 3)) (vS M.1 75) n N) a < p.1 then ((fun a => hgS (TG M.1 pl n nw (fun k => M.1 (pl + 7 + k)) (pl + 18) nu (pl + 21) nv (M.1 75 4) 0 1 (caK (M.1 pl 3) (M.1 90) (M.1 88) (M.1 89) nf y a 3)) (vS M.1 75) n N) a, some a) else p) = p := if_neg hno
                    refine Rn.forget (lv' := [some (.ref 0), some (.int (nI N)), some (.int 3), some (.int y), some (.int bd), some (.int p.1), some (.int 1728), some (.int 1), some (.int (nI i)), none]) (⟨rfl, ⟨rfl, ⟨rfl, ⟨rfl, ⟨rfl, ⟨rfl, ⟨rfl, ⟨rfl, ⟨rfl, trivial⟩⟩⟩⟩⟩⟩⟩⟩⟩) ?_
                    refine Rn.aload_n dX11_leastHigh_115 rfl ?_
                    refine Rn.iload_n dX11_leastHigh_116 rfl ?_
                    refine Rn.callV1 dX11_leastHigh_117 vX11_325 (xc0 hXN9) (by decide) rfl (tX11_nextSpots3 (Q := fun v0 ly0 M0 => ly0 = ly ∧ ((nxS n 3 a = none ∧ v0 = some (.int 0) ∧ M0 = N9) ∨ (∃ b f, nxS n 3 a = some b ∧ row3 f b ∧ v0 = some (.int 1) ∧ M0 = sI N9 147 f))) (hq9.xs hXS0) hr9 ha ⟨fun h => ⟨rfl, Or.inl ⟨h, rfl, rfl⟩⟩, fun b f h1 h2 => ⟨rfl, Or.inr ⟨b, f, h1, h2, rfl, rfl⟩⟩⟩) (by decide) ⟨(Nat.le_of_ble_eq_true rfl), (Nat.le_of_ble_eq_true rfl), (Nat.le_of_ble_eq_true rfl)⟩ (fun h => by cases h) (fun v1 ly1 NN ⟨q2, hor⟩ => ?_)
                    rw [q2]
                    rcases hor with ⟨h1, q1, q3⟩ | ⟨b, g, h1, h2, q1, q3⟩
                    · skip
                      rw [q1, q3]
                      refine Rn.istore (lv' := [some (.ref 0), some (.int (nI N)), some (.int 3), some (.int y), some (.int bd), some (.int p.1), some (.int 1728), some (.int 0), some (.int (nI i)), none]) dX11_leastHigh_120 (by decide) rfl ?_
                      refine Rn.iincN (lv' := [some (.ref 0), some (.int (nI N)), some (.int 3), some (.int y), some (.int bd), some (.int p.1), some (.int 1728), some (.int 0), some (.int (nI (i + 1))), none]) dX11_leastHigh_122 rfl (by decide) rfl ?_
                      refine Rn.goto dX11_leastHigh_125 ?_
                      exact fin (i + 1) _ _ (by omega) (by have h := hR N9 hq9; rw [lsS_n h1, lhF, hpp] at h; exact h hb9)
                    · skip
                      rw [q1, q3]
                      refine Rn.istore (lv' := [some (.ref 0), some (.int (nI N)), some (.int 3), some (.int y), some (.int bd), some (.int p.1), some (.int 1728), some (.int 1), some (.int (nI i)), none]) dX11_leastHigh_120 (by decide) rfl ?_
                      refine Rn.iincN (lv' := [some (.ref 0), some (.int (nI N)), some (.int 3), some (.int y), some (.int bd), some (.int p.1), some (.int 1728), some (.int 1), some (.int (nI (i + 1))), none]) dX11_leastHigh_122 rfl (by decide) rfl ?_
                      refine Rn.goto dX11_leastHigh_125 ?_
                      exact ih (i + 1) b p _ (by omega) hp (hq9.tr2 ⟨fun k _ _ _ _ h _ => sI_ne h, fun j _ => rfl, fun _ _ _ => rfl⟩) h2 (nxS_lt ha h1) (hb9) (fun M' hq => by have h := hR M' hq; rw [lsS_s h1, lhF, hpp] at h; exact h)
                  · skip
                    have hkN : kk = N := hor.elim id (fun h => absurd ((m1_lt hp.1).mp h) hd)
                    subst hkN
                    have hpp : (if (fun a => hgS (TG M.1 pl n nw (fun k => M.1 (pl + 7 + k)) (pl + 18) nu (pl + 21) nv (M.1 75 4) 0 1 (caK (M.1 pl 3) (M.1 90) (M.1 88) (M.1 89) nf y a 3)) (vS M.1 75) n kk) a < p.1 then ((fun a => hgS (TG M.1 pl n nw (fun k => M.1 (pl + 7 + k)) (pl + 18) nu (pl + 21) nv (M.1 75 4) 0 1 (caK (M.1 pl 3) (M.1 90) (M.1 88) (M.1 89) nf y a 3)) (vS M.1 75) n kk) a, some a) else p) = ((fun a => hgS (TG M.1 pl n nw (fun k => M.1 (pl + 7 + k)) (pl + 18) nu (pl + 21) nv (M.1 75 4) 0 1 (caK (M.1 pl 3) (M.1 90) (M.1 88) (M.1 89) nf y a 3)) (vS M.1 75) n kk) a, some a) := if_pos (Int32.not_le.mp hd)
                    refine Rn.iload dX11_leastHigh_93 rfl ?_
                    refine Rn.istore (lv' := [some (.ref 0), some (.int (nI kk)), some (.int 3), some (.int y), some (.int bd), some (.int (hgS (TG M.1 pl n nw (fun k => M.1 (pl + 7 + k)) (pl + 18) nu (pl + 21) nv (M.1 75 4) 0 1 (caK (M.1 pl 3) (M.1 90) (M.1 88) (M.1 89) nf y a 3)) (vS M.1 75) n kk)), some (.int 1728), some (.int 1), some (.int (nI i)), some (.int (hgS (TG M.1 pl n nw (fun k => M.1 (pl + 7 + k)) (pl + 18) nu (pl + 21) nv (M.1 75 4) 0 1 (caK (M.1 pl 3) (M.1 90) (M.1 88) (M.1 89) nf y a 3)) (vS M.1 75) n kk))]) dX11_leastHigh_95 (by decide) rfl ?_
                    refine Rn.aload_n dX11_leastHigh_97 rfl ?_
                    refine Rn.getR dX11_leastHigh_98 fX11_84 rfl (xc0 hXN9) (show N9.2.2 0 15 = some 147 from (xp0_15 hXN9)) ?_
                    refine Rn.iconstv (v := 0) dX11_leastHigh_101 ic_0 ?_
                    refine Rn.aload_n dX11_leastHigh_102 rfl ?_
                    refine Rn.getR dX11_leastHigh_103 fX11_87 rfl (xc0 hXN9) (show N9.2.2 0 16 = some 148 from (xp0_16 hXN9)) ?_
                    refine Rn.iconstv (v := 0) dX11_leastHigh_106 ic_0 ?_
                    refine Rn.aload_n dX11_leastHigh_107 rfl ?_
                    refine Rn.getR dX11_leastHigh_108 fX11_84 rfl (xc0 hXN9) (show N9.2.2 0 15 = some 147 from (xp0_15 hXN9)) ?_
                    refine Rn.alen dX11_leastHigh_111 (xc147 hXN9) (by decide) ?_
                    show Rn G l mX11_leastHigh (7, 0, 0, false) 112 [some (.ref 0), some (.int (nI kk)), some (.int 3), some (.int y), some (.int bd), some (.int (hgS (TG M.1 pl n nw (fun k => M.1 (pl + 7 + k)) (pl + 18) nu (pl + 21) nv (M.1 75 4) 0 1 (caK (M.1 pl 3) (M.1 90) (M.1 88) (M.1 89) nf y a 3)) (vS M.1 75) n kk)), some (.int 1728), some (.int 1), some (.int (nI i)), some (.int (hgS (TG M.1 pl n nw (fun k => M.1 (pl + 7 + k)) (pl + 18) nu (pl + 21) nv (M.1 75 4) 0 1 (caK (M.1 pl 3) (M.1 90) (M.1 88) (M.1 89) nf y a 3)) (vS M.1 75) n kk))] [.int 3, .int 0, .ref 148, .int 0, .ref 147] ly N9 Q
                    refine Rn.copy dX11_leastHigh_112 jX11_289 jw_copy (xc147 hXN9) (xc148 hXN9) (by decide) (by decide) (by decide) (by decide) (by decide) ⟨(Nat.le_of_ble_eq_true rfl), (Nat.le_of_ble_eq_true rfl)⟩ ?_
                    refine Rn.meq (M2 := sI N9 148 (pre 3 (N9.1 147) (N9.1 148))) (congrArg (fun r9 => sI N9 148 r9) ((congr (congrArg (fun u v => va_cpy u v 0 0 3) (rfl)) (rfl)).trans (cpy_pre 3 (N9.1 147) (N9.1 148)))) ?_
                    have hqA : quX M (sI N9 148 (pre 3 (N9.1 147) (N9.1 148))) := hq9.tr2 ⟨fun k _ _ _ _ _ h => sI_ne h, fun j _ => rfl, fun _ _ _ => rfl⟩
                    have hrA : row3 ((sI N9 148 (pre 3 (N9.1 147) (N9.1 148))).1 147) a := hr9
                    have hbA : row3 ((sI N9 148 (pre 3 (N9.1 147) (N9.1 148))).1 148) a := fun j hj => (pre_lt hj).trans (hr9 j hj)
                    generalize (sI N9 148 (pre 3 (N9.1 147) (N9.1 148))) = NA at hqA hrA hbA ⊢
                    have hXNA := (hqA).xw hX
                    have hplNA : NA.2.2 0 3 = some pl := ((hqA).2.2 0 3 (by decide)).trans hpl
                    have hnNA : NA.1 pl 0 = nI n := (congrFun ((hqA).p0 hp7) 0).trans hn
                    have hw1NA : NA.1 (pl + 1) 0 = nI nw := (congrFun ((hqA).pk hp7 (k := 1) (by decide)) 0).trans hw1
                    refine Rn.forget (lv' := [some (.ref 0), some (.int (nI kk)), some (.int 3), some (.int y), some (.int bd), some (.int (hgS (TG M.1 pl n nw (fun k => M.1 (pl + 7 + k)) (pl + 18) nu (pl + 21) nv (M.1 75 4) 0 1 (caK (M.1 pl 3) (M.1 90) (M.1 88) (M.1 89) nf y a 3)) (vS M.1 75) n kk)), some (.int 1728), some (.int 1), some (.int (nI i)), none]) (⟨rfl, ⟨rfl, ⟨rfl, ⟨rfl, ⟨rfl, ⟨rfl, ⟨rfl, ⟨rfl, ⟨rfl, trivial⟩⟩⟩⟩⟩⟩⟩⟩⟩) ?_
                    refine Rn.aload_n dX11_leastHigh_115 rfl ?_
                    refine Rn.iload_n dX11_leastHigh_116 rfl ?_
                    refine Rn.callV1 dX11_leastHigh_117 vX11_325 (xc0 hXNA) (by decide) rfl (tX11_nextSpots3 (Q := fun v0 ly0 M0 => ly0 = ly ∧ ((nxS n 3 a = none ∧ v0 = some (.int 0) ∧ M0 = NA) ∨ (∃ b f, nxS n 3 a = some b ∧ row3 f b ∧ v0 = some (.int 1) ∧ M0 = sI NA 147 f))) (hqA.xs hXS0) hrA ha ⟨fun h => ⟨rfl, Or.inl ⟨h, rfl, rfl⟩⟩, fun b f h1 h2 => ⟨rfl, Or.inr ⟨b, f, h1, h2, rfl, rfl⟩⟩⟩) (by decide) ⟨(Nat.le_of_ble_eq_true rfl), (Nat.le_of_ble_eq_true rfl), (Nat.le_of_ble_eq_true rfl)⟩ (fun h => by cases h) (fun v1 ly1 NN ⟨q2, hor⟩ => ?_)
                    rw [q2]
                    rcases hor with ⟨h1, q1, q3⟩ | ⟨b, g, h1, h2, q1, q3⟩
                    · skip
                      rw [q1, q3]
                      refine Rn.istore (lv' := [some (.ref 0), some (.int (nI kk)), some (.int 3), some (.int y), some (.int bd), some (.int (hgS (TG M.1 pl n nw (fun k => M.1 (pl + 7 + k)) (pl + 18) nu (pl + 21) nv (M.1 75 4) 0 1 (caK (M.1 pl 3) (M.1 90) (M.1 88) (M.1 89) nf y a 3)) (vS M.1 75) n kk)), some (.int 1728), some (.int 0), some (.int (nI i)), none]) dX11_leastHigh_120 (by decide) rfl ?_
                      refine Rn.iincN (lv' := [some (.ref 0), some (.int (nI kk)), some (.int 3), some (.int y), some (.int bd), some (.int (hgS (TG M.1 pl n nw (fun k => M.1 (pl + 7 + k)) (pl + 18) nu (pl + 21) nv (M.1 75 4) 0 1 (caK (M.1 pl 3) (M.1 90) (M.1 88) (M.1 89) nf y a 3)) (vS M.1 75) n kk)), some (.int 1728), some (.int 0), some (.int (nI (i + 1))), none]) dX11_leastHigh_122 rfl (by decide) rfl ?_
                      refine Rn.goto dX11_leastHigh_125 ?_
                      exact fin (i + 1) _ _ (by omega) (by have h := hR NA hqA; rw [lsS_n h1, lhF, hpp] at h; exact h hbA)
                    · skip
                      rw [q1, q3]
                      refine Rn.istore (lv' := [some (.ref 0), some (.int (nI kk)), some (.int 3), some (.int y), some (.int bd), some (.int (hgS (TG M.1 pl n nw (fun k => M.1 (pl + 7 + k)) (pl + 18) nu (pl + 21) nv (M.1 75 4) 0 1 (caK (M.1 pl 3) (M.1 90) (M.1 88) (M.1 89) nf y a 3)) (vS M.1 75) n kk)), some (.int 1728), some (.int 1), some (.int (nI i)), none]) dX11_leastHigh_120 (by decide) rfl ?_
                      refine Rn.iincN (lv' := [some (.ref 0), some (.int (nI kk)), some (.int 3), some (.int y), some (.int bd), some (.int (hgS (TG M.1 pl n nw (fun k => M.1 (pl + 7 + k)) (pl + 18) nu (pl + 21) nv (M.1 75 4) 0 1 (caK (M.1 pl 3) (M.1 90) (M.1 88) (M.1 89) nf y a 3)) (vS M.1 75) n kk)), some (.int 1728), some (.int 1), some (.int (nI (i + 1))), none]) dX11_leastHigh_122 rfl (by decide) rfl ?_
                      refine Rn.goto dX11_leastHigh_125 ?_
                      exact ih (i + 1) b ((fun a => hgS (TG M.1 pl n nw (fun k => M.1 (pl + 7 + k)) (pl + 18) nu (pl + 21) nv (M.1 75 4) 0 1 (caK (M.1 pl 3) (M.1 90) (M.1 88) (M.1 89) nf y a 3)) (vS M.1 75) n kk) a, some a) _ (by omega) ⟨Int32.le_trans (show (0 : Int32) ≤ 0 by decide) (hgS_mono (k := 0) kk (by omega)), Int32.le_trans (hgS_le (fun s => gr_pas) kk) (by decide)⟩ (hqA.tr2 ⟨fun k _ _ _ _ h _ => sI_ne h, fun j _ => rfl, fun _ _ _ => rfl⟩) h2 (nxS_lt ha h1) (hbA) (fun M' hq => by have h := hR M' hq; rw [lsS_s h1, lhF, hpp] at h; exact h)
                · skip
                  exact absurd (by decide) hl
  exact loop 1728 0 (0, 0, 0) (bd + 1, none) N1 (by omega) (bd_1 hbd) hq1 hr1 (by simp only []; omega) trivial hQ
