theorem tX11_change0 {G : Gx} {l : Launch} {ly : Ly} {M : Mm} {pl n nw nu nv nf w : Nat} {y z : Int32} {N0 : Mm} (hXS : XS ly M pl n nw nu nv) (hF : M.1 87 0 = nI nf ∧ nf ≤ 8 ∧ ∀ i, i < nf → vp_in (M.1 88 i) 12) (hT0 : Tr ly M N0 pl n (pl + 7) nw (fun k => M.1 (pl + 7 + k)) (pl + 18) nu (pl + 21) nv (M.1 75 4) 0 z (M.1 90) nf (M.1 88) (M.1 89) (vS M.1 75)) {Q : Qt} (hQ : ∀ K : Mm, Tr ly M K pl n (pl + 7) nw (fun k => M.1 (pl + 7 + k)) (pl + 18) nu (pl + 21) nv 0 0 z (M.1 90) nf (M.1 88) (M.1 89) (vS M.1 75) → Q none ly K) : Mt G l mX11_changeTrial (4, 0, 0, false) [.ref 0, .int 0, .int y] ly N0 Q := by
  have hXS0 := hXS
  obtain ⟨hX, hpl, hp7, ⟨n0, n1, n2, n3⟩, ⟨hn, hn2, hn12⟩, ⟨hw1, hw2, hw6⟩, ⟨hu1, hu2, hv1, hv2⟩, hgl, hbb⟩ := hXS
  refine Mt.of (lv := [some (.ref 0), some (.int 0), some (.int y)]) rfl ?_
  have hXN0 := (hT0.1).xw hX
  have hplN0 : N0.2.2 0 3 = some pl := ((hT0.1).2.2 0 3 (by decide)).trans hpl
  have hnN0 : N0.1 pl 0 = nI n := (congrFun ((hT0.1).p0 hp7) 0).trans hn
  have hw1N0 : N0.1 (pl + 1) 0 = nI nw := (congrFun ((hT0.1).pk hp7 (k := 1) (by decide)) 0).trans hw1
  refine Rn.iload_n dX11_changeTrial_0 rfl ?_
  refine Rn.tableIn (off := 35) (tgt := 36) dX11_changeTrial_1 (by decide) (by decide) (by decide) (by decide) ?_
  refine Rn.aload_n dX11_changeTrial_36 rfl ?_
  refine Rn.getR dX11_changeTrial_37 fX11_43 rfl (xc0 hXN0) (show N0.2.2 0 6 = some 92 from (xp0_6 hXN0)) ?_
  refine Rn.iconstv (v := 0) dX11_changeTrial_40 ic_0 ?_
  refine Rn.putI dX11_changeTrial_41 fX11_400 rfl rfl rfl (xc92 hXN0) ?_
  refine Rn.goto dX11_changeTrial_44 ?_
  have hT1m : Tr ly M (sI N0 92 (upd (N0.1 92) 4 0)) pl n (pl + 7) nw (fun k => M.1 (pl + 7 + k)) (pl + 18) nu (pl + 21) nv 0 0 z (M.1 90) nf (M.1 88) (M.1 89) (vS M.1 75) := Tr.s_het hXS0.ok hT0 0
  revert hT1m
  generalize (sI N0 92 (upd (N0.1 92) 4 0)) = N1
  intro hT1m
  have hT1 : Tr ly M N1 pl n (pl + 7) nw (fun k => M.1 (pl + 7 + k)) (pl + 18) nu (pl + 21) nv 0 0 z (M.1 90) nf (M.1 88) (M.1 89) (vS M.1 75) := hT1m
  have hXN1 := (hT1.1).xw hX
  have hplN1 : N1.2.2 0 3 = some pl := ((hT1.1).2.2 0 3 (by decide)).trans hpl
  have hnN1 : N1.1 pl 0 = nI n := (congrFun ((hT1.1).p0 hp7) 0).trans hn
  have hw1N1 : N1.1 (pl + 1) 0 = nI nw := (congrFun ((hT1.1).pk hp7 (k := 1) (by decide)) 0).trans hw1
  exact Rn.vret dX11_changeTrial_103 rfl (hQ N1 hT1)
theorem tX11_change1 {G : Gx} {l : Launch} {ly : Ly} {M : Mm} {pl n nw nu nv nf w : Nat} {y z : Int32} {N0 : Mm} (hXS : XS ly M pl n nw nu nv) (hF : M.1 87 0 = nI nf ∧ nf ≤ 8 ∧ ∀ i, i < nf → vp_in (M.1 88 i) 12) (hT0 : Tr ly M N0 pl n (pl + 7) nw (fun k => M.1 (pl + 7 + k)) (pl + 18) nu (pl + 21) nv (M.1 75 4) 0 z (M.1 90) nf (M.1 88) (M.1 89) (vS M.1 75)) {Q : Qt} (hQ : ∀ K : Mm, Tr ly M K pl n (pl + 7) nw (fun k => M.1 (pl + 7 + k)) (pl + 18) nu (pl + 21) nv (M.1 75 4) 0 z (fun _ => M.1 pl 3) 0 (M.1 88) (M.1 89) (vS M.1 75) → Q none ly K) : Mt G l mX11_changeTrial (4, 0, 0, false) [.ref 0, .int 1, .int y] ly N0 Q := by
  have hXS0 := hXS
  obtain ⟨hX, hpl, hp7, ⟨n0, n1, n2, n3⟩, ⟨hn, hn2, hn12⟩, ⟨hw1, hw2, hw6⟩, ⟨hu1, hu2, hv1, hv2⟩, hgl, hbb⟩ := hXS
  refine Mt.of (lv := [some (.ref 0), some (.int 1), some (.int y)]) rfl ?_
  have hXN0 := (hT0.1).xw hX
  have hplN0 : N0.2.2 0 3 = some pl := ((hT0.1).2.2 0 3 (by decide)).trans hpl
  have hnN0 : N0.1 pl 0 = nI n := (congrFun ((hT0.1).p0 hp7) 0).trans hn
  have hw1N0 : N0.1 (pl + 1) 0 = nI nw := (congrFun ((hT0.1).pk hp7 (k := 1) (by decide)) 0).trans hw1
  refine Rn.iload_n dX11_changeTrial_0 rfl ?_
  refine Rn.tableIn (off := 46) (tgt := 47) dX11_changeTrial_1 (by decide) (by decide) (by decide) (by decide) ?_
  refine Rn.aload_n dX11_changeTrial_47 rfl ?_
  refine Rn.getR dX11_changeTrial_48 fX11_43 rfl (xc0 hXN0) (show N0.2.2 0 6 = some 92 from (xp0_6 hXN0)) ?_
  refine Rn.callV0 dX11_changeTrial_51 vX11_403 (xc92 hXN0) (by decide) rfl (trDrop (Q := fun v0 ly0 M0 => v0 = none ∧ ly0 = ly ∧ Tr ly M M0 pl n (pl + 7) nw (fun k => M.1 (pl + 7 + k)) (pl + 18) nu (pl + 21) nv (M.1 75 4) 0 z (fun _ => M.1 pl 3) 0 (M.1 88) (M.1 89) (vS M.1 75) ∧ quT N0 M0) hF.2.1 hF.2.2 hXS0.ok hT0 (fun K h u => ⟨rfl, rfl, h, u⟩)) (by decide) ⟨(Nat.le_of_ble_eq_true rfl), (Nat.le_of_ble_eq_true rfl), (Nat.le_of_ble_eq_true rfl)⟩ (fun h => by cases h) (fun v1 ly1 N1 ⟨q1, q2, hT1, hU1⟩ => ?_)
  rw [q1, q2]
  have hXN1 := (hT1.1).xw hX
  have hplN1 : N1.2.2 0 3 = some pl := ((hT1.1).2.2 0 3 (by decide)).trans hpl
  have hnN1 : N1.1 pl 0 = nI n := (congrFun ((hT1.1).p0 hp7) 0).trans hn
  have hw1N1 : N1.1 (pl + 1) 0 = nI nw := (congrFun ((hT1.1).pk hp7 (k := 1) (by decide)) 0).trans hw1
  refine Rn.goto dX11_changeTrial_54 ?_
  exact Rn.vret dX11_changeTrial_103 rfl (hQ N1 hT1)
theorem tX11_change2 {G : Gx} {l : Launch} {ly : Ly} {M : Mm} {pl n nw nu nv nf w : Nat} {y z : Int32} {N0 : Mm} (hXS : XS ly M pl n nw nu nv) (hF : M.1 87 0 = nI nf ∧ nf ≤ 8 ∧ ∀ i, i < nf → vp_in (M.1 88 i) 12) (hT0 : Tr ly M N0 pl n (pl + 7) nw (fun k => M.1 (pl + 7 + k)) (pl + 18) nu (pl + 21) nv (M.1 75 4) 0 z (M.1 90) nf (M.1 88) (M.1 89) (vS M.1 75)) {Q : Qt} (hQ : ∀ K : Mm, Tr ly M K pl n (pl + 7) nw (fun k => M.1 (pl + 7 + k)) (pl + 18) nu (pl + 21) nv (M.1 75 4) 0 z (M.1 90) nf (M.1 88) (M.1 89) (stgS (vS M.1 75) (lvO 0 (M.1 86) 6)) → Q none ly K) : Mt G l mX11_changeTrial (4, 0, 0, false) [.ref 0, .int 2, .int y] ly N0 Q := by
  have hXS0 := hXS
  obtain ⟨hX, hpl, hp7, ⟨n0, n1, n2, n3⟩, ⟨hn, hn2, hn12⟩, ⟨hw1, hw2, hw6⟩, ⟨hu1, hu2, hv1, hv2⟩, hgl, hbb⟩ := hXS
  refine Mt.of (lv := [some (.ref 0), some (.int 2), some (.int y)]) rfl ?_
  have hXN0 := (hT0.1).xw hX
  have hplN0 : N0.2.2 0 3 = some pl := ((hT0.1).2.2 0 3 (by decide)).trans hpl
  have hnN0 : N0.1 pl 0 = nI n := (congrFun ((hT0.1).p0 hp7) 0).trans hn
  have hw1N0 : N0.1 (pl + 1) 0 = nI nw := (congrFun ((hT0.1).pk hp7 (k := 1) (by decide)) 0).trans hw1
  refine Rn.iload_n dX11_changeTrial_0 rfl ?_
  refine Rn.tableIn (off := 56) (tgt := 57) dX11_changeTrial_1 (by decide) (by decide) (by decide) (by decide) ?_
  refine Rn.aload_n dX11_changeTrial_57 rfl ?_
  refine Rn.getR dX11_changeTrial_58 fX11_43 rfl (xc0 hXN0) (show N0.2.2 0 6 = some 92 from (xp0_6 hXN0)) ?_
  refine Rn.iconstv (v := 0) dX11_changeTrial_61 ic_0 ?_
  refine Rn.callV1 dX11_changeTrial_62 vX11_339 (xc92 hXN0) (by decide) rfl (trLeave (Q := fun v0 ly0 M0 => v0 = none ∧ ly0 = ly ∧ Tr ly M M0 pl n (pl + 7) nw (fun k => M.1 (pl + 7 + k)) (pl + 18) nu (pl + 21) nv (M.1 75 4) 0 z (M.1 90) nf (M.1 88) (M.1 89) (stgS (vS M.1 75) (lvO 0 (M.1 86) 6)) ∧ quT N0 M0) hXS0.ok hT0 (fun K h u => ⟨rfl, rfl, h, u⟩)) (by decide) ⟨(Nat.le_of_ble_eq_true rfl), (Nat.le_of_ble_eq_true rfl), (Nat.le_of_ble_eq_true rfl)⟩ (fun h => by cases h) (fun v1 ly1 N1 ⟨q1, q2, hT1, hU1⟩ => ?_)
  rw [q1, q2]
  have hXN1 := (hT1.1).xw hX
  have hplN1 : N1.2.2 0 3 = some pl := ((hT1.1).2.2 0 3 (by decide)).trans hpl
  have hnN1 : N1.1 pl 0 = nI n := (congrFun ((hT1.1).p0 hp7) 0).trans hn
  have hw1N1 : N1.1 (pl + 1) 0 = nI nw := (congrFun ((hT1.1).pk hp7 (k := 1) (by decide)) 0).trans hw1
  refine Rn.goto dX11_changeTrial_65 ?_
  exact Rn.vret dX11_changeTrial_103 rfl (hQ N1 hT1)
theorem tX11_change3 {G : Gx} {l : Launch} {ly : Ly} {M : Mm} {pl n nw nu nv nf w : Nat} {y z : Int32} {N0 : Mm} (hw : w < 6) (hXS : XS ly M pl n nw nu nv) (hF : M.1 87 0 = nI nf ∧ nf ≤ 8 ∧ ∀ i, i < nf → vp_in (M.1 88 i) 12) (hT0 : Tr ly M N0 pl n (pl + 7) nw (fun k => M.1 (pl + 7 + k)) (pl + 18) nu (pl + 21) nv (M.1 75 4) 0 z (M.1 90) nf (M.1 88) (M.1 89) (vS M.1 75)) {Q : Qt} (hQ : ∀ K : Mm, Tr ly M K pl n (pl + 7) nw (fun k => M.1 (pl + 7 + k)) (pl + 18) nu (pl + 21) nv (M.1 75 4) 0 z (M.1 90) nf (M.1 88) (M.1 89) (stgS (vS M.1 75) (upd (M.1 86) w 2)) → Q none ly K) : Mt G l mX11_changeTrial (4, 0, 0, false) [.ref 0, .int 3, .int (nI w)] ly N0 Q := by
  have hXS0 := hXS
  obtain ⟨hX, hpl, hp7, ⟨n0, n1, n2, n3⟩, ⟨hn, hn2, hn12⟩, ⟨hw1, hw2, hw6⟩, ⟨hu1, hu2, hv1, hv2⟩, hgl, hbb⟩ := hXS
  refine Mt.of (lv := [some (.ref 0), some (.int 3), some (.int (nI w))]) rfl ?_
  have hXN0 := (hT0.1).xw hX
  have hplN0 : N0.2.2 0 3 = some pl := ((hT0.1).2.2 0 3 (by decide)).trans hpl
  have hnN0 : N0.1 pl 0 = nI n := (congrFun ((hT0.1).p0 hp7) 0).trans hn
  have hw1N0 : N0.1 (pl + 1) 0 = nI nw := (congrFun ((hT0.1).pk hp7 (k := 1) (by decide)) 0).trans hw1
  refine Rn.iload_n dX11_changeTrial_0 rfl ?_
  refine Rn.tableIn (off := 67) (tgt := 68) dX11_changeTrial_1 (by decide) (by decide) (by decide) (by decide) ?_
  refine Rn.aload_n dX11_changeTrial_68 rfl ?_
  refine Rn.getR dX11_changeTrial_69 fX11_43 rfl (xc0 hXN0) (show N0.2.2 0 6 = some 92 from (xp0_6 hXN0)) ?_
  refine Rn.getR dX11_changeTrial_72 fX11_136 rfl (xc92 hXN0) (show N0.2.2 92 10 = some 103 from (xp92_10 hXN0)) ?_
  refine Rn.iload_n dX11_changeTrial_75 rfl ?_
  refine Rn.iconstv (v := 2) dX11_changeTrial_76 ic_2 ?_
  refine Rn.iastN (k0 := w) dX11_changeTrial_77 (xc103 hXN0) (by omega) (by decide) ?_
  refine Rn.goto dX11_changeTrial_78 ?_
  have hT1m : Tr ly M (sI N0 103 (upd (N0.1 103) w 2)) pl n (pl + 7) nw (fun k => M.1 (pl + 7 + k)) (pl + 18) nu (pl + 21) nv (M.1 75 4) 0 z (M.1 90) nf (M.1 88) (M.1 89) (stgS (vS M.1 75) (upd (M.1 86) w 2)) := Tr.s_sg hXS0.ok hT0 (upd (N0.1 103) w 2) (hT0.2.2.2.2.2.2.2.2.2.2.1.2.2.1.up (k := w) (x := 2) (y := 2) rfl)
  revert hT1m
  generalize (sI N0 103 (upd (N0.1 103) w 2)) = N1
  intro hT1m
  have hT1 : Tr ly M N1 pl n (pl + 7) nw (fun k => M.1 (pl + 7 + k)) (pl + 18) nu (pl + 21) nv (M.1 75 4) 0 z (M.1 90) nf (M.1 88) (M.1 89) (stgS (vS M.1 75) (upd (M.1 86) w 2)) := hT1m
  have hXN1 := (hT1.1).xw hX
  have hplN1 : N1.2.2 0 3 = some pl := ((hT1.1).2.2 0 3 (by decide)).trans hpl
  have hnN1 : N1.1 pl 0 = nI n := (congrFun ((hT1.1).p0 hp7) 0).trans hn
  have hw1N1 : N1.1 (pl + 1) 0 = nI nw := (congrFun ((hT1.1).pk hp7 (k := 1) (by decide)) 0).trans hw1
  exact Rn.vret dX11_changeTrial_103 rfl (hQ N1 hT1)
theorem tX11_change4 {G : Gx} {l : Launch} {ly : Ly} {M : Mm} {pl n nw nu nv nf w : Nat} {y z : Int32} {N0 : Mm} (hXS : XS ly M pl n nw nu nv) (hF : M.1 87 0 = nI nf ∧ nf ≤ 8 ∧ ∀ i, i < nf → vp_in (M.1 88 i) 12) (hT0 : Tr ly M N0 pl n (pl + 7) nw (fun k => M.1 (pl + 7 + k)) (pl + 18) nu (pl + 21) nv (M.1 75 4) 0 z (M.1 90) nf (M.1 88) (M.1 89) (vS M.1 75)) {Q : Qt} (hQ : ∀ K : Mm, Tr ly M K pl n (pl + 7) nw (fun k => M.1 (pl + 7 + k)) (pl + 18) nu (pl + 21) nv (M.1 75 4) 1 z (M.1 90) nf (M.1 88) (M.1 89) (vS M.1 75) → Q none ly K) : Mt G l mX11_changeTrial (4, 0, 0, false) [.ref 0, .int 4, .int y] ly N0 Q := by
  have hXS0 := hXS
  obtain ⟨hX, hpl, hp7, ⟨n0, n1, n2, n3⟩, ⟨hn, hn2, hn12⟩, ⟨hw1, hw2, hw6⟩, ⟨hu1, hu2, hv1, hv2⟩, hgl, hbb⟩ := hXS
  refine Mt.of (lv := [some (.ref 0), some (.int 4), some (.int y)]) rfl ?_
  have hXN0 := (hT0.1).xw hX
  have hplN0 : N0.2.2 0 3 = some pl := ((hT0.1).2.2 0 3 (by decide)).trans hpl
  have hnN0 : N0.1 pl 0 = nI n := (congrFun ((hT0.1).p0 hp7) 0).trans hn
  have hw1N0 : N0.1 (pl + 1) 0 = nI nw := (congrFun ((hT0.1).pk hp7 (k := 1) (by decide)) 0).trans hw1
  refine Rn.iload_n dX11_changeTrial_0 rfl ?_
  refine Rn.tableIn (off := 80) (tgt := 81) dX11_changeTrial_1 (by decide) (by decide) (by decide) (by decide) ?_
  refine Rn.aload_n dX11_changeTrial_81 rfl ?_
  refine Rn.getR dX11_changeTrial_82 fX11_43 rfl (xc0 hXN0) (show N0.2.2 0 6 = some 92 from (xp0_6 hXN0)) ?_
  refine Rn.iconstv (v := 1) dX11_changeTrial_85 ic_1 ?_
  refine Rn.putZ dX11_changeTrial_86 fX11_242 rfl rfl rfl (by decide) (xc92 hXN0) ?_
  refine Rn.goto dX11_changeTrial_89 ?_
  have hT1m : Tr ly M (sI N0 92 (upd (N0.1 92) 16 1)) pl n (pl + 7) nw (fun k => M.1 (pl + 7 + k)) (pl + 18) nu (pl + 21) nv (M.1 75 4) 1 z (M.1 90) nf (M.1 88) (M.1 89) (vS M.1 75) := Tr.s_bl hXS0.ok hT0 1
  revert hT1m
  generalize (sI N0 92 (upd (N0.1 92) 16 1)) = N1
  intro hT1m
  have hT1 : Tr ly M N1 pl n (pl + 7) nw (fun k => M.1 (pl + 7 + k)) (pl + 18) nu (pl + 21) nv (M.1 75 4) 1 z (M.1 90) nf (M.1 88) (M.1 89) (vS M.1 75) := hT1m
  have hXN1 := (hT1.1).xw hX
  have hplN1 : N1.2.2 0 3 = some pl := ((hT1.1).2.2 0 3 (by decide)).trans hpl
  have hnN1 : N1.1 pl 0 = nI n := (congrFun ((hT1.1).p0 hp7) 0).trans hn
  have hw1N1 : N1.1 (pl + 1) 0 = nI nw := (congrFun ((hT1.1).pk hp7 (k := 1) (by decide)) 0).trans hw1
  exact Rn.vret dX11_changeTrial_103 rfl (hQ N1 hT1)
theorem tX11_change5 {G : Gx} {l : Launch} {ly : Ly} {M : Mm} {pl n nw nu nv nf w : Nat} {y z : Int32} {N0 : Mm} (hXS : XS ly M pl n nw nu nv) (hF : M.1 87 0 = nI nf ∧ nf ≤ 8 ∧ ∀ i, i < nf → vp_in (M.1 88 i) 12) (hT0 : Tr ly M N0 pl n (pl + 7) nw (fun k => M.1 (pl + 7 + k)) (pl + 18) nu (pl + 21) nv (M.1 75 4) 0 z (M.1 90) nf (M.1 88) (M.1 89) (vS M.1 75)) {Q : Qt} (hQ : ∀ K : Mm, Tr ly M K pl n (pl + 7) nw (fun k => M.1 (pl + 7 + k)) (pl + 18) nu 144 0 (M.1 75 4) 0 z (M.1 90) nf (M.1 88) (M.1 89) (vS M.1 75) → Q none ly K) : Mt G l mX11_changeTrial (4, 0, 0, false) [.ref 0, .int 5, .int y] ly N0 Q := by
  have hXS0 := hXS
  obtain ⟨hX, hpl, hp7, ⟨n0, n1, n2, n3⟩, ⟨hn, hn2, hn12⟩, ⟨hw1, hw2, hw6⟩, ⟨hu1, hu2, hv1, hv2⟩, hgl, hbb⟩ := hXS
  refine Mt.of (lv := [some (.ref 0), some (.int 5), some (.int y)]) rfl ?_
  have hXN0 := (hT0.1).xw hX
  have hplN0 : N0.2.2 0 3 = some pl := ((hT0.1).2.2 0 3 (by decide)).trans hpl
  have hnN0 : N0.1 pl 0 = nI n := (congrFun ((hT0.1).p0 hp7) 0).trans hn
  have hw1N0 : N0.1 (pl + 1) 0 = nI nw := (congrFun ((hT0.1).pk hp7 (k := 1) (by decide)) 0).trans hw1
  refine Rn.iload_n dX11_changeTrial_0 rfl ?_
  refine Rn.tableOut (tgt := 92) dX11_changeTrial_1 (by decide) (by decide) ?_
  refine Rn.aload_n dX11_changeTrial_92 rfl ?_
  refine Rn.getR dX11_changeTrial_93 fX11_43 rfl (xc0 hXN0) (show N0.2.2 0 6 = some 92 from (xp0_6 hXN0)) ?_
  refine Rn.aload_n dX11_changeTrial_96 rfl ?_
  refine Rn.getR dX11_changeTrial_97 fX11_80 rfl (xc0 hXN0) (show N0.2.2 0 14 = some 144 from (xp0_14 hXN0)) ?_
  refine Rn.putR dX11_changeTrial_100 fX11_406 rfl rfl (by decide +kernel) (xc92 hXN0) ?_
  have hT1m : Tr ly M (sR N0 92 (va_up (N0.2.2 92) 3 (some 144))) pl n (pl + 7) nw (fun k => M.1 (pl + 7 + k)) (pl + 18) nu 144 0 (M.1 75 4) 0 z (M.1 90) nf (M.1 88) (M.1 89) (vS M.1 75) := Tr.s_n (nu' := nu) (nv' := 0) (Tr.s_v hXS0.ok hT0 144)
  revert hT1m
  generalize (sR N0 92 (va_up (N0.2.2 92) 3 (some 144))) = N1
  intro hT1m
  have hT1 : Tr ly M N1 pl n (pl + 7) nw (fun k => M.1 (pl + 7 + k)) (pl + 18) nu 144 0 (M.1 75 4) 0 z (M.1 90) nf (M.1 88) (M.1 89) (vS M.1 75) := hT1m
  have hXN1 := (hT1.1).xw hX
  have hplN1 : N1.2.2 0 3 = some pl := ((hT1.1).2.2 0 3 (by decide)).trans hpl
  have hnN1 : N1.1 pl 0 = nI n := (congrFun ((hT1.1).p0 hp7) 0).trans hn
  have hw1N1 : N1.1 (pl + 1) 0 = nI nw := (congrFun ((hT1.1).pk hp7 (k := 1) (by decide)) 0).trans hw1
  exact Rn.vret dX11_changeTrial_103 rfl (hQ N1 hT1)
/-- the scene N times on, tried otherwise -/
def triS (M : Mm) (pl n nw nu nv : Nat) (z : Int32) (w N : Nat) : Nat → Sc
  | 0 => itF (fun _ => TG M.1 pl n nw (fun k => M.1 (pl + 7 + k)) (pl + 18) nu (pl + 21) nv 0 0 z (M.1 90)) N (vS M.1 75)
  | 1 => itF (fun _ => TG M.1 pl n nw (fun k => M.1 (pl + 7 + k)) (pl + 18) nu (pl + 21) nv (M.1 75 4) 0 z (fun _ => M.1 pl 3)) N (vS M.1 75)
  | 2 => itF (fun _ => TG M.1 pl n nw (fun k => M.1 (pl + 7 + k)) (pl + 18) nu (pl + 21) nv (M.1 75 4) 0 z (M.1 90)) N (stgS (vS M.1 75) (lvO 0 (M.1 86) 6))
  | 3 => itF (fun _ => TG M.1 pl n nw (fun k => M.1 (pl + 7 + k)) (pl + 18) nu (pl + 21) nv (M.1 75 4) 0 z (M.1 90)) N (stgS (vS M.1 75) (upd (M.1 86) w 2))
  | 4 => itF (fun _ => TG M.1 pl n nw (fun k => M.1 (pl + 7 + k)) (pl + 18) nu (pl + 21) nv (M.1 75 4) 1 z (M.1 90)) N (vS M.1 75)
  | _ => itF (fun _ => TG M.1 pl n nw (fun k => M.1 (pl + 7 + k)) (pl + 18) nu 144 0 (M.1 75 4) 0 z (M.1 90)) N (vS M.1 75)
theorem x12 {k : Nat} (h : k ≤ 11) : k = 0 ∨ k = 1 ∨ k = 2 ∨ k = 3 ∨ k = 4 ∨ k = 5 ∨ k = 6 ∨ k = 7 ∨ k = 8 ∨ k = 9 ∨ k = 10 ∨ k = 11 := by omega
theorem tX11_tried {G : Gx} {l : Launch} {ly : Ly} {M : Mm} {pl n nw nu nv nf : Nat} {x y z : Int32} (hno : M.1 144 0 = nI 0) (hXS : XS ly M pl n nw nu nv) (hF : M.1 87 0 = nI nf ∧ nf ≤ 8 ∧ ∀ i, i < nf → vp_in (M.1 88 i) 12) {Q : Qt} (hQ : (¬ ((0 ≤ x ∧ x ≤ 11) ∧ (0 ≤ z ∧ z ≤ 64) ∧ (if x = 3 ∨ x = 9 then (∃ j : Nat, j < nw ∧ y = nI j) else y = 0)) → Q (some (.int (-1))) ly M) ∧ (∀ ch w N : Nat, ch < 6 → (if ch = 3 then w < nw ∧ y = nI w else y = 0) → N ≤ 64 → z = nI N → ∀ M' : Mm, quX M M' → (x = nI ch → Q (some (.int (gr (triS M pl n nw nu nv 1 w N ch).1 n))) ly M') ∧ (x = nI (6 + ch) → Q (some (.int (gr (triS M pl n nw nu nv 0 w N ch).2.2.1 n))) ly M'))) : Mt G l mX11_tried (6, 0, 0, false) [.ref 0, .int x, .int y, .int z] ly M Q := by
  have hXS0 := hXS
  obtain ⟨hX, hpl, hp7, ⟨n0, n1, n2, n3⟩, ⟨hn, hn2, hn12⟩, ⟨hw1, hw2, hw6⟩, ⟨hu1, hu2, hv1, hv2⟩, hgl, hbb⟩ := hXS
  refine Mt.of (lv := [some (.ref 0), some (.int x), some (.int y), some (.int z), none, none, none]) rfl ?_
  refine Rn.iload_n dX11_tried_0 rfl ?_
  refine Rn.iconstv (v := 0) dX11_tried_1 ic_0 ?_
  refine Rn.bipushv (v := 11) dX11_tried_2 bp_11 ?_
  refine Rn.callS3 dX11_tried_4 vX11_295 (tX11_isIn) (by decide) ⟨(Nat.le_of_ble_eq_true rfl), (Nat.le_of_ble_eq_true rfl), (Nat.le_of_ble_eq_true rfl)⟩ (fun h => by cases h) (fun v1 ly1 M1 ⟨q1, q2, q3⟩ => ?_)
  rw [q1, q2, q3]
  refine Rn.if_eq dX11_tried_7 (fun g1 => ?_) (fun g1 => ?_)
  · skip
    refine Rn.iconstv (v := -1) dX11_tried_20 ic_m1 ?_
    exact Rn.iret (ty := .int) dX11_tried_21 rfl rfl (hQ.1 (fun h => inR_1.elim (fun k => k.2 h.1) (fun k => absurd (k.1.symm.trans g1) (by decide))))
  · skip
    obtain ⟨X0, hX02, rfl⟩ : ∃ j : Nat, j ≤ 11 ∧ x = nI j := (inR_1 (x := x) (lo := 0) (hi := 11)).elim (fun k => absurd k.1 g1) (fun k => nat_of0 (b := 11) (k := 11) rfl (by decide) k.2.1 k.2.2)
    refine Rn.iload_n dX11_tried_10 rfl ?_
    refine Rn.iconstv (v := 0) dX11_tried_11 ic_0 ?_
    refine Rn.bipushv (v := 64) dX11_tried_12 bp_64 ?_
    refine Rn.callS3 dX11_tried_14 vX11_295 (tX11_isIn) (by decide) ⟨(Nat.le_of_ble_eq_true rfl), (Nat.le_of_ble_eq_true rfl), (Nat.le_of_ble_eq_true rfl)⟩ (fun h => by cases h) (fun v1 ly1 M1 ⟨q1, q2, q3⟩ => ?_)
    rw [q1, q2, q3]
    refine Rn.if_ne dX11_tried_17 (fun g2 => ?_) (fun g2 => ?_)
    · skip
      obtain ⟨N, hN2, rfl⟩ : ∃ j : Nat, j ≤ 64 ∧ z = nI j := (inR_1 (x := z) (lo := 0) (hi := 64)).elim (fun k => absurd k.1 g2) (fun k => nat_of0 (b := 64) (k := 64) rfl (by decide) k.2.1 k.2.2)
      rcases x12 hX02 with rfl | rfl | rfl | rfl | rfl | rfl | rfl | rfl | rfl | rfl | rfl | rfl
      · skip
        show Rn G l mX11_tried (6, 0, 0, false) 22 [some (.ref 0), some (.int 0), some (.int y), some (.int (nI N)), none, none, none] [] ly M Q
        refine Rn.iload_n dX11_tried_22 rfl ?_
        refine Rn.bipushv (v := 6) dX11_tried_23 bp_6 ?_
        refine Rn.icmp_ge dX11_tried_25 (fun e1 => ?_) (fun e1 => ?_)
        · skip
          exact absurd e1 (by decide)
        · skip
          refine Rn.iconstv (v := 1) dX11_tried_28 ic_1 ?_
          refine Rn.goto dX11_tried_29 ?_
          refine Rn.istore (lv' := [some (.ref 0), some (.int 0), some (.int y), some (.int (nI N)), some (.int 1), none, none]) dX11_tried_33 (by decide) rfl ?_
          refine Rn.iload dX11_tried_35 rfl ?_
          refine Rn.if_eq dX11_tried_37 (fun e2 => ?_) (fun e2 => ?_)
          · skip
            exact absurd e2 (by decide)
          · skip
            refine Rn.iload_n dX11_tried_40 rfl ?_
            refine Rn.goto dX11_tried_41 ?_
            refine Rn.istore (lv' := [some (.ref 0), some (.int 0), some (.int y), some (.int (nI N)), some (.int 1), some (.int 0), none]) dX11_tried_48 (by decide) rfl ?_
            refine Rn.iload dX11_tried_50 rfl ?_
            refine Rn.iconstv (v := 3) dX11_tried_52 ic_3 ?_
            refine Rn.icmp_ne dX11_tried_53 (fun e3 => ?_) (fun e3 => ?_)
            · skip
              refine Rn.iload_n dX11_tried_67 rfl ?_
              refine Rn.if_eq dX11_tried_68 (fun e4 => ?_) (fun e4 => ?_)
              · skip
                subst e4
                refine Rn.aload_n dX11_tried_73 rfl ?_
                refine Rn.iload dX11_tried_74 rfl ?_
                refine Rn.callV1 dX11_tried_76 vX11_299 (xc0 hX) (by decide) rfl (trNow (Q := fun v0 ly0 M0 => v0 = none ∧ ly0 = ly ∧ Tr ly M M0 pl n (pl + 7) nw (fun k => M.1 (pl + 7 + k)) (pl + 18) nu (pl + 21) nv (M.1 75 4) 0 1 (M.1 90) nf (M.1 88) (M.1 89) (vS M.1 75) ∧ quT M M0) (Or.inr rfl) hXS0 hF.1 quX.rf (fun K h u => ⟨rfl, rfl, h, u⟩)) (by decide) ⟨(Nat.le_of_ble_eq_true rfl), (Nat.le_of_ble_eq_true rfl), (Nat.le_of_ble_eq_true rfl)⟩ (fun h => by cases h) (fun v1 ly1 N1 ⟨q1, q2, hT1, hU1⟩ => ?_)
                rw [q1, q2]
                have hXN1 := (hT1.1).xw hX
                have hplN1 : N1.2.2 0 3 = some pl := ((hT1.1).2.2 0 3 (by decide)).trans hpl
                have hnN1 : N1.1 pl 0 = nI n := (congrFun ((hT1.1).p0 hp7) 0).trans hn
                have hw1N1 : N1.1 (pl + 1) 0 = nI nw := (congrFun ((hT1.1).pk hp7 (k := 1) (by decide)) 0).trans hw1
                refine Rn.aload_n dX11_tried_79 rfl ?_
                refine Rn.iload dX11_tried_80 rfl ?_
                refine Rn.iload_n dX11_tried_82 rfl ?_
                refine Rn.callV2 dX11_tried_83 vX11_397 (xc0 hXN1) (by decide) rfl (tX11_change0 (Q := fun v0 ly0 M0 => v0 = none ∧ ly0 = ly ∧ Tr ly M M0 pl n (pl + 7) nw (fun k => M.1 (pl + 7 + k)) (pl + 18) nu (pl + 21) nv 0 0 1 (M.1 90) nf (M.1 88) (M.1 89) (vS M.1 75)) (w := 0) hXS0 hF hT1 (fun K h => ⟨rfl, rfl, h⟩)) (by decide) ⟨(Nat.le_of_ble_eq_true rfl), (Nat.le_of_ble_eq_true rfl), (Nat.le_of_ble_eq_true rfl)⟩ (fun h => by cases h) (fun v1 ly1 N2 ⟨q1, q2, hT2⟩ => ?_)
                rw [q1, q2]
                have hXN2 := (hT2.1).xw hX
                have hplN2 : N2.2.2 0 3 = some pl := ((hT2.1).2.2 0 3 (by decide)).trans hpl
                have hnN2 : N2.1 pl 0 = nI n := (congrFun ((hT2.1).p0 hp7) 0).trans hn
                have hw1N2 : N2.1 (pl + 1) 0 = nI nw := (congrFun ((hT2.1).pk hp7 (k := 1) (by decide)) 0).trans hw1
                have hQ2 := fun M' hq => (hQ.2 0 0 N (by decide) (by rw [if_neg (by decide)]) hN2 rfl M' hq).1 rfl
                refine Rn.iconstv (v := 0) dX11_tried_86 ic_0 ?_
                refine Rn.istore (lv' := [some (.ref 0), some (.int 0), some (.int 0), some (.int (nI N)), some (.int 1), some (.int 0), some (.int 0)]) dX11_tried_87 (by decide) rfl ?_
                have loop : ∀ (k i : Nat) (N3 : Mm), i + k = N → Tr ly M N3 pl n (pl + 7) nw (fun k => M.1 (pl + 7 + k)) (pl + 18) nu (pl + 21) nv 0 0 1 (M.1 90) nf (M.1 88) (M.1 89) (itF (fun _ => TG M.1 pl n nw (fun k => M.1 (pl + 7 + k)) (pl + 18) nu (pl + 21) nv 0 0 1 (M.1 90)) i (vS M.1 75)) → Rn G l mX11_tried (6, 0, 0, false) 89 [some (.ref 0), some (.int 0), some (.int 0), some (.int (nI N)), some (.int 1), some (.int 0), some (.int (nI i))] [] ly N3 Q := by
                  intro k
                  induction k with
                  | zero =>
                    intro i N3 hi hT3
                    refine Rn.iload dX11_tried_89 rfl ?_
                    refine Rn.iload_n dX11_tried_91 rfl ?_
                    refine Rn.icmp_ge dX11_tried_92 (fun hc => ?_) (fun hc => ?_)
                    · skip
                      obtain rfl : i = N := by omega
                      have hXN3 := (hT3.1).xw hX
                      have hplN3 : N3.2.2 0 3 = some pl := ((hT3.1).2.2 0 3 (by decide)).trans hpl
                      have hnN3 : N3.1 pl 0 = nI n := (congrFun ((hT3.1).p0 hp7) 0).trans hn
                      have hw1N3 : N3.1 (pl + 1) 0 = nI nw := (congrFun ((hT3.1).pk hp7 (k := 1) (by decide)) 0).trans hw1
                      refine Rn.iload dX11_tried_108 rfl ?_
                      refine Rn.if_eq dX11_tried_110 (fun e7 => ?_) (fun e7 => ?_)
                      · skip
                        exact absurd e7 (by decide)
                      · skip
                        refine Rn.aload_n dX11_tried_113 rfl ?_
                        refine Rn.getR dX11_tried_114 fX11_43 rfl (xc0 hXN3) (show N3.2.2 0 6 = some 92 from (xp0_6 hXN3)) ?_
                        refine Rn.getR dX11_tried_117 fX11_165 rfl (xc92 hXN3) (show N3.2.2 92 5 = some 93 from (xp92_5 hXN3)) ?_
                        refine Rn.aload_n dX11_tried_120 rfl ?_
                        refine Rn.getR dX11_tried_121 fX11_27 rfl (xc0 hXN3) (show N3.2.2 0 3 = some pl from hplN3) ?_
                        refine Rn.getI dX11_tried_124 fX11_209 rfl (pc0 hXN3 hp7) ?_
                        refine Rn.topI (y := nI n) (hnN3) ?_
                        refine Rn.callV1 dX11_tried_127 vX11_245 (xc93 hXN3) (by decide) rfl (trGr hXS0.ok hT3) (by decide) ⟨(Nat.le_of_ble_eq_true rfl), (Nat.le_of_ble_eq_true rfl), (Nat.le_of_ble_eq_true rfl)⟩ (fun h => by cases h) (fun v1 ly1 M1 ⟨q1, q2, q3⟩ => ?_)
                        rw [q1, q2, q3]
                        refine Rn.goto dX11_tried_130 ?_
                        exact Rn.iret (ty := .int) dX11_tried_150 rfl rfl (hQ2 N3 hT3.1)
                    · exact absurd (nI_le (a := N) (b := i) (by omega) (by omega)) hc
                  | succ k ih =>
                    intro i N3 hi hT3
                    refine Rn.iload dX11_tried_89 rfl ?_
                    refine Rn.iload_n dX11_tried_91 rfl ?_
                    refine Rn.icmp_ge dX11_tried_92 (fun hc => ?_) (fun hc => ?_)
                    · exact absurd hc (nI_ge (a := i) (b := N) (by omega) (by omega))
                    · skip
                      have hXN3 := (hT3.1).xw hX
                      have hplN3 : N3.2.2 0 3 = some pl := ((hT3.1).2.2 0 3 (by decide)).trans hpl
                      have hnN3 : N3.1 pl 0 = nI n := (congrFun ((hT3.1).p0 hp7) 0).trans hn
                      have hw1N3 : N3.1 (pl + 1) 0 = nI nw := (congrFun ((hT3.1).pk hp7 (k := 1) (by decide)) 0).trans hw1
                      refine Rn.aload_n dX11_tried_95 rfl ?_
                      refine Rn.getR dX11_tried_96 fX11_43 rfl (xc0 hXN3) (show N3.2.2 0 6 = some 92 from (xp0_6 hXN3)) ?_
                      refine Rn.callV0 dX11_tried_99 vX11_251 (xc92 hXN3) (by decide) rfl (trPass (Q := fun v0 ly0 M0 => v0 = none ∧ ly0 = ly ∧ Tr ly M M0 pl n (pl + 7) nw (fun k => M.1 (pl + 7 + k)) (pl + 18) nu (pl + 21) nv 0 0 1 (M.1 90) nf (M.1 88) (M.1 89) (itF (fun _ => TG M.1 pl n nw (fun k => M.1 (pl + 7 + k)) (pl + 18) nu (pl + 21) nv 0 0 1 (M.1 90)) (i + 1) (vS M.1 75)) ∧ quT N3 M0) hXS0.ok hT3 (fun K h u => ⟨rfl, rfl, h, u⟩)) (by decide) ⟨(Nat.le_of_ble_eq_true rfl), (Nat.le_of_ble_eq_true rfl), (Nat.le_of_ble_eq_true rfl)⟩ (fun h => by cases h) (fun v1 ly1 N4 ⟨q1, q2, hT4, hU4⟩ => ?_)
                      rw [q1, q2]
                      have hXN4 := (hT4.1).xw hX
                      have hplN4 : N4.2.2 0 3 = some pl := ((hT4.1).2.2 0 3 (by decide)).trans hpl
                      have hnN4 : N4.1 pl 0 = nI n := (congrFun ((hT4.1).p0 hp7) 0).trans hn
                      have hw1N4 : N4.1 (pl + 1) 0 = nI nw := (congrFun ((hT4.1).pk hp7 (k := 1) (by decide)) 0).trans hw1
                      refine Rn.iincN (lv' := [some (.ref 0), some (.int 0), some (.int 0), some (.int (nI N)), some (.int 1), some (.int 0), some (.int (nI (i + 1)))]) dX11_tried_102 rfl (by decide) rfl ?_
                      refine Rn.goto dX11_tried_105 ?_
                      exact ih (i + 1) N4 (by omega) hT4
                exact loop N 0 N2 (by omega) hT2
              · skip
                refine Rn.iconstv (v := -1) dX11_tried_71 ic_m1 ?_
                exact Rn.iret (ty := .int) dX11_tried_72 rfl rfl (hQ.1 (fun h => e4 (by have h2 := h.2.2; rw [if_neg (by decide)] at h2; exact h2)))
            · skip
              exact absurd e3 (by decide)
      · skip
        show Rn G l mX11_tried (6, 0, 0, false) 22 [some (.ref 0), some (.int 1), some (.int y), some (.int (nI N)), none, none, none] [] ly M Q
        refine Rn.iload_n dX11_tried_22 rfl ?_
        refine Rn.bipushv (v := 6) dX11_tried_23 bp_6 ?_
        refine Rn.icmp_ge dX11_tried_25 (fun e1 => ?_) (fun e1 => ?_)
        · skip
          exact absurd e1 (by decide)
        · skip
          refine Rn.iconstv (v := 1) dX11_tried_28 ic_1 ?_
          refine Rn.goto dX11_tried_29 ?_
          refine Rn.istore (lv' := [some (.ref 0), some (.int 1), some (.int y), some (.int (nI N)), some (.int 1), none, none]) dX11_tried_33 (by decide) rfl ?_
          refine Rn.iload dX11_tried_35 rfl ?_
          refine Rn.if_eq dX11_tried_37 (fun e2 => ?_) (fun e2 => ?_)
          · skip
            exact absurd e2 (by decide)
          · skip
            refine Rn.iload_n dX11_tried_40 rfl ?_
            refine Rn.goto dX11_tried_41 ?_
            refine Rn.istore (lv' := [some (.ref 0), some (.int 1), some (.int y), some (.int (nI N)), some (.int 1), some (.int 1), none]) dX11_tried_48 (by decide) rfl ?_
            refine Rn.iload dX11_tried_50 rfl ?_
            refine Rn.iconstv (v := 3) dX11_tried_52 ic_3 ?_
            refine Rn.icmp_ne dX11_tried_53 (fun e3 => ?_) (fun e3 => ?_)
            · skip
              refine Rn.iload_n dX11_tried_67 rfl ?_
              refine Rn.if_eq dX11_tried_68 (fun e4 => ?_) (fun e4 => ?_)
              · skip
                subst e4
                refine Rn.aload_n dX11_tried_73 rfl ?_
                refine Rn.iload dX11_tried_74 rfl ?_
                refine Rn.callV1 dX11_tried_76 vX11_299 (xc0 hX) (by decide) rfl (trNow (Q := fun v0 ly0 M0 => v0 = none ∧ ly0 = ly ∧ Tr ly M M0 pl n (pl + 7) nw (fun k => M.1 (pl + 7 + k)) (pl + 18) nu (pl + 21) nv (M.1 75 4) 0 1 (M.1 90) nf (M.1 88) (M.1 89) (vS M.1 75) ∧ quT M M0) (Or.inr rfl) hXS0 hF.1 quX.rf (fun K h u => ⟨rfl, rfl, h, u⟩)) (by decide) ⟨(Nat.le_of_ble_eq_true rfl), (Nat.le_of_ble_eq_true rfl), (Nat.le_of_ble_eq_true rfl)⟩ (fun h => by cases h) (fun v1 ly1 N1 ⟨q1, q2, hT1, hU1⟩ => ?_)
                rw [q1, q2]
                have hXN1 := (hT1.1).xw hX
                have hplN1 : N1.2.2 0 3 = some pl := ((hT1.1).2.2 0 3 (by decide)).trans hpl
                have hnN1 : N1.1 pl 0 = nI n := (congrFun ((hT1.1).p0 hp7) 0).trans hn
                have hw1N1 : N1.1 (pl + 1) 0 = nI nw := (congrFun ((hT1.1).pk hp7 (k := 1) (by decide)) 0).trans hw1
                refine Rn.aload_n dX11_tried_79 rfl ?_
                refine Rn.iload dX11_tried_80 rfl ?_
                refine Rn.iload_n dX11_tried_82 rfl ?_
                refine Rn.callV2 dX11_tried_83 vX11_397 (xc0 hXN1) (by decide) rfl (tX11_change1 (Q := fun v0 ly0 M0 => v0 = none ∧ ly0 = ly ∧ Tr ly M M0 pl n (pl + 7) nw (fun k => M.1 (pl + 7 + k)) (pl + 18) nu (pl + 21) nv (M.1 75 4) 0 1 (fun _ => M.1 pl 3) 0 (M.1 88) (M.1 89) (vS M.1 75)) (w := 0) hXS0 hF hT1 (fun K h => ⟨rfl, rfl, h⟩)) (by decide) ⟨(Nat.le_of_ble_eq_true rfl), (Nat.le_of_ble_eq_true rfl), (Nat.le_of_ble_eq_true rfl)⟩ (fun h => by cases h) (fun v1 ly1 N2 ⟨q1, q2, hT2⟩ => ?_)
                rw [q1, q2]
                have hXN2 := (hT2.1).xw hX
                have hplN2 : N2.2.2 0 3 = some pl := ((hT2.1).2.2 0 3 (by decide)).trans hpl
                have hnN2 : N2.1 pl 0 = nI n := (congrFun ((hT2.1).p0 hp7) 0).trans hn
                have hw1N2 : N2.1 (pl + 1) 0 = nI nw := (congrFun ((hT2.1).pk hp7 (k := 1) (by decide)) 0).trans hw1
                have hQ2 := fun M' hq => (hQ.2 1 0 N (by decide) (by rw [if_neg (by decide)]) hN2 rfl M' hq).1 rfl
                refine Rn.iconstv (v := 0) dX11_tried_86 ic_0 ?_
                refine Rn.istore (lv' := [some (.ref 0), some (.int 1), some (.int 0), some (.int (nI N)), some (.int 1), some (.int 1), some (.int 0)]) dX11_tried_87 (by decide) rfl ?_
                have loop : ∀ (k i : Nat) (N3 : Mm), i + k = N → Tr ly M N3 pl n (pl + 7) nw (fun k => M.1 (pl + 7 + k)) (pl + 18) nu (pl + 21) nv (M.1 75 4) 0 1 (fun _ => M.1 pl 3) 0 (M.1 88) (M.1 89) (itF (fun _ => TG M.1 pl n nw (fun k => M.1 (pl + 7 + k)) (pl + 18) nu (pl + 21) nv (M.1 75 4) 0 1 (fun _ => M.1 pl 3)) i (vS M.1 75)) → Rn G l mX11_tried (6, 0, 0, false) 89 [some (.ref 0), some (.int 1), some (.int 0), some (.int (nI N)), some (.int 1), some (.int 1), some (.int (nI i))] [] ly N3 Q := by
                  intro k
                  induction k with
                  | zero =>
                    intro i N3 hi hT3
                    refine Rn.iload dX11_tried_89 rfl ?_
                    refine Rn.iload_n dX11_tried_91 rfl ?_
                    refine Rn.icmp_ge dX11_tried_92 (fun hc => ?_) (fun hc => ?_)
                    · skip
                      obtain rfl : i = N := by omega
                      have hXN3 := (hT3.1).xw hX
                      have hplN3 : N3.2.2 0 3 = some pl := ((hT3.1).2.2 0 3 (by decide)).trans hpl
                      have hnN3 : N3.1 pl 0 = nI n := (congrFun ((hT3.1).p0 hp7) 0).trans hn
                      have hw1N3 : N3.1 (pl + 1) 0 = nI nw := (congrFun ((hT3.1).pk hp7 (k := 1) (by decide)) 0).trans hw1
                      refine Rn.iload dX11_tried_108 rfl ?_
                      refine Rn.if_eq dX11_tried_110 (fun e7 => ?_) (fun e7 => ?_)
                      · skip
                        exact absurd e7 (by decide)
                      · skip
                        refine Rn.aload_n dX11_tried_113 rfl ?_
                        refine Rn.getR dX11_tried_114 fX11_43 rfl (xc0 hXN3) (show N3.2.2 0 6 = some 92 from (xp0_6 hXN3)) ?_
                        refine Rn.getR dX11_tried_117 fX11_165 rfl (xc92 hXN3) (show N3.2.2 92 5 = some 93 from (xp92_5 hXN3)) ?_
                        refine Rn.aload_n dX11_tried_120 rfl ?_
                        refine Rn.getR dX11_tried_121 fX11_27 rfl (xc0 hXN3) (show N3.2.2 0 3 = some pl from hplN3) ?_
                        refine Rn.getI dX11_tried_124 fX11_209 rfl (pc0 hXN3 hp7) ?_
                        refine Rn.topI (y := nI n) (hnN3) ?_
                        refine Rn.callV1 dX11_tried_127 vX11_245 (xc93 hXN3) (by decide) rfl (trGr hXS0.ok hT3) (by decide) ⟨(Nat.le_of_ble_eq_true rfl), (Nat.le_of_ble_eq_true rfl), (Nat.le_of_ble_eq_true rfl)⟩ (fun h => by cases h) (fun v1 ly1 M1 ⟨q1, q2, q3⟩ => ?_)
                        rw [q1, q2, q3]
                        refine Rn.goto dX11_tried_130 ?_
                        exact Rn.iret (ty := .int) dX11_tried_150 rfl rfl (hQ2 N3 hT3.1)
                    · exact absurd (nI_le (a := N) (b := i) (by omega) (by omega)) hc
                  | succ k ih =>
                    intro i N3 hi hT3
                    refine Rn.iload dX11_tried_89 rfl ?_
                    refine Rn.iload_n dX11_tried_91 rfl ?_
                    refine Rn.icmp_ge dX11_tried_92 (fun hc => ?_) (fun hc => ?_)
                    · exact absurd hc (nI_ge (a := i) (b := N) (by omega) (by omega))
                    · skip
                      have hXN3 := (hT3.1).xw hX
                      have hplN3 : N3.2.2 0 3 = some pl := ((hT3.1).2.2 0 3 (by decide)).trans hpl
                      have hnN3 : N3.1 pl 0 = nI n := (congrFun ((hT3.1).p0 hp7) 0).trans hn
                      have hw1N3 : N3.1 (pl + 1) 0 = nI nw := (congrFun ((hT3.1).pk hp7 (k := 1) (by decide)) 0).trans hw1
                      refine Rn.aload_n dX11_tried_95 rfl ?_
                      refine Rn.getR dX11_tried_96 fX11_43 rfl (xc0 hXN3) (show N3.2.2 0 6 = some 92 from (xp0_6 hXN3)) ?_
                      refine Rn.callV0 dX11_tried_99 vX11_251 (xc92 hXN3) (by decide) rfl (trPass (Q := fun v0 ly0 M0 => v0 = none ∧ ly0 = ly ∧ Tr ly M M0 pl n (pl + 7) nw (fun k => M.1 (pl + 7 + k)) (pl + 18) nu (pl + 21) nv (M.1 75 4) 0 1 (fun _ => M.1 pl 3) 0 (M.1 88) (M.1 89) (itF (fun _ => TG M.1 pl n nw (fun k => M.1 (pl + 7 + k)) (pl + 18) nu (pl + 21) nv (M.1 75 4) 0 1 (fun _ => M.1 pl 3)) (i + 1) (vS M.1 75)) ∧ quT N3 M0) hXS0.ok hT3 (fun K h u => ⟨rfl, rfl, h, u⟩)) (by decide) ⟨(Nat.le_of_ble_eq_true rfl), (Nat.le_of_ble_eq_true rfl), (Nat.le_of_ble_eq_true rfl)⟩ (fun h => by cases h) (fun v1 ly1 N4 ⟨q1, q2, hT4, hU4⟩ => ?_)
                      rw [q1, q2]
                      have hXN4 := (hT4.1).xw hX
                      have hplN4 : N4.2.2 0 3 = some pl := ((hT4.1).2.2 0 3 (by decide)).trans hpl
                      have hnN4 : N4.1 pl 0 = nI n := (congrFun ((hT4.1).p0 hp7) 0).trans hn
                      have hw1N4 : N4.1 (pl + 1) 0 = nI nw := (congrFun ((hT4.1).pk hp7 (k := 1) (by decide)) 0).trans hw1
                      refine Rn.iincN (lv' := [some (.ref 0), some (.int 1), some (.int 0), some (.int (nI N)), some (.int 1), some (.int 1), some (.int (nI (i + 1)))]) dX11_tried_102 rfl (by decide) rfl ?_
                      refine Rn.goto dX11_tried_105 ?_
                      exact ih (i + 1) N4 (by omega) hT4
                exact loop N 0 N2 (by omega) hT2
              · skip
                refine Rn.iconstv (v := -1) dX11_tried_71 ic_m1 ?_
                exact Rn.iret (ty := .int) dX11_tried_72 rfl rfl (hQ.1 (fun h => e4 (by have h2 := h.2.2; rw [if_neg (by decide)] at h2; exact h2)))
            · skip
              exact absurd e3 (by decide)
      · skip
        show Rn G l mX11_tried (6, 0, 0, false) 22 [some (.ref 0), some (.int 2), some (.int y), some (.int (nI N)), none, none, none] [] ly M Q
        refine Rn.iload_n dX11_tried_22 rfl ?_
        refine Rn.bipushv (v := 6) dX11_tried_23 bp_6 ?_
        refine Rn.icmp_ge dX11_tried_25 (fun e1 => ?_) (fun e1 => ?_)
        · skip
          exact absurd e1 (by decide)
        · skip
          refine Rn.iconstv (v := 1) dX11_tried_28 ic_1 ?_
          refine Rn.goto dX11_tried_29 ?_
          refine Rn.istore (lv' := [some (.ref 0), some (.int 2), some (.int y), some (.int (nI N)), some (.int 1), none, none]) dX11_tried_33 (by decide) rfl ?_
          refine Rn.iload dX11_tried_35 rfl ?_
          refine Rn.if_eq dX11_tried_37 (fun e2 => ?_) (fun e2 => ?_)
          · skip
            exact absurd e2 (by decide)
          · skip
            refine Rn.iload_n dX11_tried_40 rfl ?_
            refine Rn.goto dX11_tried_41 ?_
            refine Rn.istore (lv' := [some (.ref 0), some (.int 2), some (.int y), some (.int (nI N)), some (.int 1), some (.int 2), none]) dX11_tried_48 (by decide) rfl ?_
            refine Rn.iload dX11_tried_50 rfl ?_
            refine Rn.iconstv (v := 3) dX11_tried_52 ic_3 ?_
            refine Rn.icmp_ne dX11_tried_53 (fun e3 => ?_) (fun e3 => ?_)
            · skip
              refine Rn.iload_n dX11_tried_67 rfl ?_
              refine Rn.if_eq dX11_tried_68 (fun e4 => ?_) (fun e4 => ?_)
              · skip
                subst e4
                refine Rn.aload_n dX11_tried_73 rfl ?_
                refine Rn.iload dX11_tried_74 rfl ?_
                refine Rn.callV1 dX11_tried_76 vX11_299 (xc0 hX) (by decide) rfl (trNow (Q := fun v0 ly0 M0 => v0 = none ∧ ly0 = ly ∧ Tr ly M M0 pl n (pl + 7) nw (fun k => M.1 (pl + 7 + k)) (pl + 18) nu (pl + 21) nv (M.1 75 4) 0 1 (M.1 90) nf (M.1 88) (M.1 89) (vS M.1 75) ∧ quT M M0) (Or.inr rfl) hXS0 hF.1 quX.rf (fun K h u => ⟨rfl, rfl, h, u⟩)) (by decide) ⟨(Nat.le_of_ble_eq_true rfl), (Nat.le_of_ble_eq_true rfl), (Nat.le_of_ble_eq_true rfl)⟩ (fun h => by cases h) (fun v1 ly1 N1 ⟨q1, q2, hT1, hU1⟩ => ?_)
                rw [q1, q2]
                have hXN1 := (hT1.1).xw hX
                have hplN1 : N1.2.2 0 3 = some pl := ((hT1.1).2.2 0 3 (by decide)).trans hpl
                have hnN1 : N1.1 pl 0 = nI n := (congrFun ((hT1.1).p0 hp7) 0).trans hn
                have hw1N1 : N1.1 (pl + 1) 0 = nI nw := (congrFun ((hT1.1).pk hp7 (k := 1) (by decide)) 0).trans hw1
                refine Rn.aload_n dX11_tried_79 rfl ?_
                refine Rn.iload dX11_tried_80 rfl ?_
                refine Rn.iload_n dX11_tried_82 rfl ?_
                refine Rn.callV2 dX11_tried_83 vX11_397 (xc0 hXN1) (by decide) rfl (tX11_change2 (Q := fun v0 ly0 M0 => v0 = none ∧ ly0 = ly ∧ Tr ly M M0 pl n (pl + 7) nw (fun k => M.1 (pl + 7 + k)) (pl + 18) nu (pl + 21) nv (M.1 75 4) 0 1 (M.1 90) nf (M.1 88) (M.1 89) (stgS (vS M.1 75) (lvO 0 (M.1 86) 6))) (w := 0) hXS0 hF hT1 (fun K h => ⟨rfl, rfl, h⟩)) (by decide) ⟨(Nat.le_of_ble_eq_true rfl), (Nat.le_of_ble_eq_true rfl), (Nat.le_of_ble_eq_true rfl)⟩ (fun h => by cases h) (fun v1 ly1 N2 ⟨q1, q2, hT2⟩ => ?_)
                rw [q1, q2]
                have hXN2 := (hT2.1).xw hX
                have hplN2 : N2.2.2 0 3 = some pl := ((hT2.1).2.2 0 3 (by decide)).trans hpl
                have hnN2 : N2.1 pl 0 = nI n := (congrFun ((hT2.1).p0 hp7) 0).trans hn
                have hw1N2 : N2.1 (pl + 1) 0 = nI nw := (congrFun ((hT2.1).pk hp7 (k := 1) (by decide)) 0).trans hw1
                have hQ2 := fun M' hq => (hQ.2 2 0 N (by decide) (by rw [if_neg (by decide)]) hN2 rfl M' hq).1 rfl
                refine Rn.iconstv (v := 0) dX11_tried_86 ic_0 ?_
                refine Rn.istore (lv' := [some (.ref 0), some (.int 2), some (.int 0), some (.int (nI N)), some (.int 1), some (.int 2), some (.int 0)]) dX11_tried_87 (by decide) rfl ?_
                have loop : ∀ (k i : Nat) (N3 : Mm), i + k = N → Tr ly M N3 pl n (pl + 7) nw (fun k => M.1 (pl + 7 + k)) (pl + 18) nu (pl + 21) nv (M.1 75 4) 0 1 (M.1 90) nf (M.1 88) (M.1 89) (itF (fun _ => TG M.1 pl n nw (fun k => M.1 (pl + 7 + k)) (pl + 18) nu (pl + 21) nv (M.1 75 4) 0 1 (M.1 90)) i (stgS (vS M.1 75) (lvO 0 (M.1 86) 6))) → Rn G l mX11_tried (6, 0, 0, false) 89 [some (.ref 0), some (.int 2), some (.int 0), some (.int (nI N)), some (.int 1), some (.int 2), some (.int (nI i))] [] ly N3 Q := by
                  intro k
                  induction k with
                  | zero =>
                    intro i N3 hi hT3
                    refine Rn.iload dX11_tried_89 rfl ?_
                    refine Rn.iload_n dX11_tried_91 rfl ?_
                    refine Rn.icmp_ge dX11_tried_92 (fun hc => ?_) (fun hc => ?_)
                    · skip
                      obtain rfl : i = N := by omega
                      have hXN3 := (hT3.1).xw hX
                      have hplN3 : N3.2.2 0 3 = some pl := ((hT3.1).2.2 0 3 (by decide)).trans hpl
                      have hnN3 : N3.1 pl 0 = nI n := (congrFun ((hT3.1).p0 hp7) 0).trans hn
                      have hw1N3 : N3.1 (pl + 1) 0 = nI nw := (congrFun ((hT3.1).pk hp7 (k := 1) (by decide)) 0).trans hw1
                      refine Rn.iload dX11_tried_108 rfl ?_
                      refine Rn.if_eq dX11_tried_110 (fun e7 => ?_) (fun e7 => ?_)
                      · skip
                        exact absurd e7 (by decide)
                      · skip
                        refine Rn.aload_n dX11_tried_113 rfl ?_
                        refine Rn.getR dX11_tried_114 fX11_43 rfl (xc0 hXN3) (show N3.2.2 0 6 = some 92 from (xp0_6 hXN3)) ?_
                        refine Rn.getR dX11_tried_117 fX11_165 rfl (xc92 hXN3) (show N3.2.2 92 5 = some 93 from (xp92_5 hXN3)) ?_
                        refine Rn.aload_n dX11_tried_120 rfl ?_
                        refine Rn.getR dX11_tried_121 fX11_27 rfl (xc0 hXN3) (show N3.2.2 0 3 = some pl from hplN3) ?_
                        refine Rn.getI dX11_tried_124 fX11_209 rfl (pc0 hXN3 hp7) ?_
                        refine Rn.topI (y := nI n) (hnN3) ?_
                        refine Rn.callV1 dX11_tried_127 vX11_245 (xc93 hXN3) (by decide) rfl (trGr hXS0.ok hT3) (by decide) ⟨(Nat.le_of_ble_eq_true rfl), (Nat.le_of_ble_eq_true rfl), (Nat.le_of_ble_eq_true rfl)⟩ (fun h => by cases h) (fun v1 ly1 M1 ⟨q1, q2, q3⟩ => ?_)
                        rw [q1, q2, q3]
                        refine Rn.goto dX11_tried_130 ?_
                        exact Rn.iret (ty := .int) dX11_tried_150 rfl rfl (hQ2 N3 hT3.1)
                    · exact absurd (nI_le (a := N) (b := i) (by omega) (by omega)) hc
                  | succ k ih =>
                    intro i N3 hi hT3
                    refine Rn.iload dX11_tried_89 rfl ?_
                    refine Rn.iload_n dX11_tried_91 rfl ?_
                    refine Rn.icmp_ge dX11_tried_92 (fun hc => ?_) (fun hc => ?_)
                    · exact absurd hc (nI_ge (a := i) (b := N) (by omega) (by omega))
                    · skip
                      have hXN3 := (hT3.1).xw hX
                      have hplN3 : N3.2.2 0 3 = some pl := ((hT3.1).2.2 0 3 (by decide)).trans hpl
                      have hnN3 : N3.1 pl 0 = nI n := (congrFun ((hT3.1).p0 hp7) 0).trans hn
                      have hw1N3 : N3.1 (pl + 1) 0 = nI nw := (congrFun ((hT3.1).pk hp7 (k := 1) (by decide)) 0).trans hw1
                      refine Rn.aload_n dX11_tried_95 rfl ?_
                      refine Rn.getR dX11_tried_96 fX11_43 rfl (xc0 hXN3) (show N3.2.2 0 6 = some 92 from (xp0_6 hXN3)) ?_
                      refine Rn.callV0 dX11_tried_99 vX11_251 (xc92 hXN3) (by decide) rfl (trPass (Q := fun v0 ly0 M0 => v0 = none ∧ ly0 = ly ∧ Tr ly M M0 pl n (pl + 7) nw (fun k => M.1 (pl + 7 + k)) (pl + 18) nu (pl + 21) nv (M.1 75 4) 0 1 (M.1 90) nf (M.1 88) (M.1 89) (itF (fun _ => TG M.1 pl n nw (fun k => M.1 (pl + 7 + k)) (pl + 18) nu (pl + 21) nv (M.1 75 4) 0 1 (M.1 90)) (i + 1) (stgS (vS M.1 75) (lvO 0 (M.1 86) 6))) ∧ quT N3 M0) hXS0.ok hT3 (fun K h u => ⟨rfl, rfl, h, u⟩)) (by decide) ⟨(Nat.le_of_ble_eq_true rfl), (Nat.le_of_ble_eq_true rfl), (Nat.le_of_ble_eq_true rfl)⟩ (fun h => by cases h) (fun v1 ly1 N4 ⟨q1, q2, hT4, hU4⟩ => ?_)
                      rw [q1, q2]
                      have hXN4 := (hT4.1).xw hX
                      have hplN4 : N4.2.2 0 3 = some pl := ((hT4.1).2.2 0 3 (by decide)).trans hpl
                      have hnN4 : N4.1 pl 0 = nI n := (congrFun ((hT4.1).p0 hp7) 0).trans hn
                      have hw1N4 : N4.1 (pl + 1) 0 = nI nw := (congrFun ((hT4.1).pk hp7 (k := 1) (by decide)) 0).trans hw1
                      refine Rn.iincN (lv' := [some (.ref 0), some (.int 2), some (.int 0), some (.int (nI N)), some (.int 1), some (.int 2), some (.int (nI (i + 1)))]) dX11_tried_102 rfl (by decide) rfl ?_
                      refine Rn.goto dX11_tried_105 ?_
                      exact ih (i + 1) N4 (by omega) hT4
                exact loop N 0 N2 (by omega) hT2
              · skip
                refine Rn.iconstv (v := -1) dX11_tried_71 ic_m1 ?_
                exact Rn.iret (ty := .int) dX11_tried_72 rfl rfl (hQ.1 (fun h => e4 (by have h2 := h.2.2; rw [if_neg (by decide)] at h2; exact h2)))
            · skip
              exact absurd e3 (by decide)
      · skip
        show Rn G l mX11_tried (6, 0, 0, false) 22 [some (.ref 0), some (.int 3), some (.int y), some (.int (nI N)), none, none, none] [] ly M Q
        refine Rn.iload_n dX11_tried_22 rfl ?_
        refine Rn.bipushv (v := 6) dX11_tried_23 bp_6 ?_
        refine Rn.icmp_ge dX11_tried_25 (fun e1 => ?_) (fun e1 => ?_)
        · skip
          exact absurd e1 (by decide)
        · skip
          refine Rn.iconstv (v := 1) dX11_tried_28 ic_1 ?_
          refine Rn.goto dX11_tried_29 ?_
          refine Rn.istore (lv' := [some (.ref 0), some (.int 3), some (.int y), some (.int (nI N)), some (.int 1), none, none]) dX11_tried_33 (by decide) rfl ?_
          refine Rn.iload dX11_tried_35 rfl ?_
          refine Rn.if_eq dX11_tried_37 (fun e2 => ?_) (fun e2 => ?_)
          · skip
            exact absurd e2 (by decide)
          · skip
            refine Rn.iload_n dX11_tried_40 rfl ?_
            refine Rn.goto dX11_tried_41 ?_
            refine Rn.istore (lv' := [some (.ref 0), some (.int 3), some (.int y), some (.int (nI N)), some (.int 1), some (.int 3), none]) dX11_tried_48 (by decide) rfl ?_
            refine Rn.iload dX11_tried_50 rfl ?_
            refine Rn.iconstv (v := 3) dX11_tried_52 ic_3 ?_
            refine Rn.icmp_ne dX11_tried_53 (fun e3 => ?_) (fun e3 => ?_)
            · skip
              exact absurd rfl e3
            · skip
              refine Rn.aload_n dX11_tried_56 rfl ?_
              refine Rn.iload_n dX11_tried_57 rfl ?_
              refine Rn.callV1 dX11_tried_58 vX11_125 (xc0 hX) (by decide) rfl (tX11_isWalker hX hpl hp7) (by decide) ⟨(Nat.le_of_ble_eq_true rfl), (Nat.le_of_ble_eq_true rfl), (Nat.le_of_ble_eq_true rfl)⟩ (fun h => by cases h) (fun v1 ly1 M1 ⟨q1, q2, q3⟩ => ?_)
              rw [q1, q2, q3]
              refine Rn.topI (y := inN y (nI nw)) (by rw [hw1]) ?_
              refine Rn.if_ne dX11_tried_61 (fun e4 => ?_) (fun e4 => ?_)
              · skip
                obtain ⟨w, hw, rfl⟩ : ∃ j : Nat, j < nw ∧ y = nI j := (inN_1 (x := y) (k := nw) (lt31 hw6)).elim (fun k => absurd k.1 e4) (fun k => k.2)
                refine Rn.aload_n dX11_tried_73 rfl ?_
                refine Rn.iload dX11_tried_74 rfl ?_
                refine Rn.callV1 dX11_tried_76 vX11_299 (xc0 hX) (by decide) rfl (trNow (Q := fun v0 ly0 M0 => v0 = none ∧ ly0 = ly ∧ Tr ly M M0 pl n (pl + 7) nw (fun k => M.1 (pl + 7 + k)) (pl + 18) nu (pl + 21) nv (M.1 75 4) 0 1 (M.1 90) nf (M.1 88) (M.1 89) (vS M.1 75) ∧ quT M M0) (Or.inr rfl) hXS0 hF.1 quX.rf (fun K h u => ⟨rfl, rfl, h, u⟩)) (by decide) ⟨(Nat.le_of_ble_eq_true rfl), (Nat.le_of_ble_eq_true rfl), (Nat.le_of_ble_eq_true rfl)⟩ (fun h => by cases h) (fun v1 ly1 N1 ⟨q1, q2, hT1, hU1⟩ => ?_)
                rw [q1, q2]
                have hXN1 := (hT1.1).xw hX
                have hplN1 : N1.2.2 0 3 = some pl := ((hT1.1).2.2 0 3 (by decide)).trans hpl
                have hnN1 : N1.1 pl 0 = nI n := (congrFun ((hT1.1).p0 hp7) 0).trans hn
                have hw1N1 : N1.1 (pl + 1) 0 = nI nw := (congrFun ((hT1.1).pk hp7 (k := 1) (by decide)) 0).trans hw1
                refine Rn.aload_n dX11_tried_79 rfl ?_
                refine Rn.iload dX11_tried_80 rfl ?_
                refine Rn.iload_n dX11_tried_82 rfl ?_
                refine Rn.callV2 dX11_tried_83 vX11_397 (xc0 hXN1) (by decide) rfl (tX11_change3 (Q := fun v0 ly0 M0 => v0 = none ∧ ly0 = ly ∧ Tr ly M M0 pl n (pl + 7) nw (fun k => M.1 (pl + 7 + k)) (pl + 18) nu (pl + 21) nv (M.1 75 4) 0 1 (M.1 90) nf (M.1 88) (M.1 89) (stgS (vS M.1 75) (upd (M.1 86) w 2))) (w := w) (y := 0) (by omega) hXS0 hF hT1 (fun K h => ⟨rfl, rfl, h⟩)) (by decide) ⟨(Nat.le_of_ble_eq_true rfl), (Nat.le_of_ble_eq_true rfl), (Nat.le_of_ble_eq_true rfl)⟩ (fun h => by cases h) (fun v1 ly1 N2 ⟨q1, q2, hT2⟩ => ?_)
                rw [q1, q2]
                have hXN2 := (hT2.1).xw hX
                have hplN2 : N2.2.2 0 3 = some pl := ((hT2.1).2.2 0 3 (by decide)).trans hpl
                have hnN2 : N2.1 pl 0 = nI n := (congrFun ((hT2.1).p0 hp7) 0).trans hn
                have hw1N2 : N2.1 (pl + 1) 0 = nI nw := (congrFun ((hT2.1).pk hp7 (k := 1) (by decide)) 0).trans hw1
                have hQ2 := fun M' hq => (hQ.2 3 w N (by decide) (by rw [if_pos (by decide)]; exact ⟨hw, rfl⟩) hN2 rfl M' hq).1 rfl
                refine Rn.iconstv (v := 0) dX11_tried_86 ic_0 ?_
                refine Rn.istore (lv' := [some (.ref 0), some (.int 3), some (.int (nI w)), some (.int (nI N)), some (.int 1), some (.int 3), some (.int 0)]) dX11_tried_87 (by decide) rfl ?_
                have loop : ∀ (k i : Nat) (N3 : Mm), i + k = N → Tr ly M N3 pl n (pl + 7) nw (fun k => M.1 (pl + 7 + k)) (pl + 18) nu (pl + 21) nv (M.1 75 4) 0 1 (M.1 90) nf (M.1 88) (M.1 89) (itF (fun _ => TG M.1 pl n nw (fun k => M.1 (pl + 7 + k)) (pl + 18) nu (pl + 21) nv (M.1 75 4) 0 1 (M.1 90)) i (stgS (vS M.1 75) (upd (M.1 86) w 2))) → Rn G l mX11_tried (6, 0, 0, false) 89 [some (.ref 0), some (.int 3), some (.int (nI w)), some (.int (nI N)), some (.int 1), some (.int 3), some (.int (nI i))] [] ly N3 Q := by
                  intro k
                  induction k with
                  | zero =>
                    intro i N3 hi hT3
                    refine Rn.iload dX11_tried_89 rfl ?_
                    refine Rn.iload_n dX11_tried_91 rfl ?_
                    refine Rn.icmp_ge dX11_tried_92 (fun hc => ?_) (fun hc => ?_)
                    · skip
                      obtain rfl : i = N := by omega
                      have hXN3 := (hT3.1).xw hX
                      have hplN3 : N3.2.2 0 3 = some pl := ((hT3.1).2.2 0 3 (by decide)).trans hpl
                      have hnN3 : N3.1 pl 0 = nI n := (congrFun ((hT3.1).p0 hp7) 0).trans hn
                      have hw1N3 : N3.1 (pl + 1) 0 = nI nw := (congrFun ((hT3.1).pk hp7 (k := 1) (by decide)) 0).trans hw1
                      refine Rn.iload dX11_tried_108 rfl ?_
                      refine Rn.if_eq dX11_tried_110 (fun e7 => ?_) (fun e7 => ?_)
                      · skip
                        exact absurd e7 (by decide)
                      · skip
                        refine Rn.aload_n dX11_tried_113 rfl ?_
                        refine Rn.getR dX11_tried_114 fX11_43 rfl (xc0 hXN3) (show N3.2.2 0 6 = some 92 from (xp0_6 hXN3)) ?_
                        refine Rn.getR dX11_tried_117 fX11_165 rfl (xc92 hXN3) (show N3.2.2 92 5 = some 93 from (xp92_5 hXN3)) ?_
                        refine Rn.aload_n dX11_tried_120 rfl ?_
                        refine Rn.getR dX11_tried_121 fX11_27 rfl (xc0 hXN3) (show N3.2.2 0 3 = some pl from hplN3) ?_
                        refine Rn.getI dX11_tried_124 fX11_209 rfl (pc0 hXN3 hp7) ?_
                        refine Rn.topI (y := nI n) (hnN3) ?_
                        refine Rn.callV1 dX11_tried_127 vX11_245 (xc93 hXN3) (by decide) rfl (trGr hXS0.ok hT3) (by decide) ⟨(Nat.le_of_ble_eq_true rfl), (Nat.le_of_ble_eq_true rfl), (Nat.le_of_ble_eq_true rfl)⟩ (fun h => by cases h) (fun v1 ly1 M1 ⟨q1, q2, q3⟩ => ?_)
                        rw [q1, q2, q3]
                        refine Rn.goto dX11_tried_130 ?_
                        exact Rn.iret (ty := .int) dX11_tried_150 rfl rfl (hQ2 N3 hT3.1)
                    · exact absurd (nI_le (a := N) (b := i) (by omega) (by omega)) hc
                  | succ k ih =>
                    intro i N3 hi hT3
                    refine Rn.iload dX11_tried_89 rfl ?_
                    refine Rn.iload_n dX11_tried_91 rfl ?_
                    refine Rn.icmp_ge dX11_tried_92 (fun hc => ?_) (fun hc => ?_)
                    · exact absurd hc (nI_ge (a := i) (b := N) (by omega) (by omega))
                    · skip
                      have hXN3 := (hT3.1).xw hX
                      have hplN3 : N3.2.2 0 3 = some pl := ((hT3.1).2.2 0 3 (by decide)).trans hpl
                      have hnN3 : N3.1 pl 0 = nI n := (congrFun ((hT3.1).p0 hp7) 0).trans hn
                      have hw1N3 : N3.1 (pl + 1) 0 = nI nw := (congrFun ((hT3.1).pk hp7 (k := 1) (by decide)) 0).trans hw1
                      refine Rn.aload_n dX11_tried_95 rfl ?_
                      refine Rn.getR dX11_tried_96 fX11_43 rfl (xc0 hXN3) (show N3.2.2 0 6 = some 92 from (xp0_6 hXN3)) ?_
                      refine Rn.callV0 dX11_tried_99 vX11_251 (xc92 hXN3) (by decide) rfl (trPass (Q := fun v0 ly0 M0 => v0 = none ∧ ly0 = ly ∧ Tr ly M M0 pl n (pl + 7) nw (fun k => M.1 (pl + 7 + k)) (pl + 18) nu (pl + 21) nv (M.1 75 4) 0 1 (M.1 90) nf (M.1 88) (M.1 89) (itF (fun _ => TG M.1 pl n nw (fun k => M.1 (pl + 7 + k)) (pl + 18) nu (pl + 21) nv (M.1 75 4) 0 1 (M.1 90)) (i + 1) (stgS (vS M.1 75) (upd (M.1 86) w 2))) ∧ quT N3 M0) hXS0.ok hT3 (fun K h u => ⟨rfl, rfl, h, u⟩)) (by decide) ⟨(Nat.le_of_ble_eq_true rfl), (Nat.le_of_ble_eq_true rfl), (Nat.le_of_ble_eq_true rfl)⟩ (fun h => by cases h) (fun v1 ly1 N4 ⟨q1, q2, hT4, hU4⟩ => ?_)
                      rw [q1, q2]
                      have hXN4 := (hT4.1).xw hX
                      have hplN4 : N4.2.2 0 3 = some pl := ((hT4.1).2.2 0 3 (by decide)).trans hpl
                      have hnN4 : N4.1 pl 0 = nI n := (congrFun ((hT4.1).p0 hp7) 0).trans hn
                      have hw1N4 : N4.1 (pl + 1) 0 = nI nw := (congrFun ((hT4.1).pk hp7 (k := 1) (by decide)) 0).trans hw1
                      refine Rn.iincN (lv' := [some (.ref 0), some (.int 3), some (.int (nI w)), some (.int (nI N)), some (.int 1), some (.int 3), some (.int (nI (i + 1)))]) dX11_tried_102 rfl (by decide) rfl ?_
                      refine Rn.goto dX11_tried_105 ?_
                      exact ih (i + 1) N4 (by omega) hT4
                exact loop N 0 N2 (by omega) hT2
              · skip
                refine Rn.goto dX11_tried_64 ?_
                refine Rn.iconstv (v := -1) dX11_tried_71 ic_m1 ?_
                exact Rn.iret (ty := .int) dX11_tried_72 rfl rfl (hQ.1 (fun h => (inN_1 (x := y) (k := nw) (lt31 hw6)).elim (fun k => k.2 (by have h2 := h.2.2; rw [if_pos (by decide)] at h2; exact h2)) (fun k => absurd (k.1.symm.trans e4) (by decide))))
      · skip
        show Rn G l mX11_tried (6, 0, 0, false) 22 [some (.ref 0), some (.int 4), some (.int y), some (.int (nI N)), none, none, none] [] ly M Q
        refine Rn.iload_n dX11_tried_22 rfl ?_
        refine Rn.bipushv (v := 6) dX11_tried_23 bp_6 ?_
        refine Rn.icmp_ge dX11_tried_25 (fun e1 => ?_) (fun e1 => ?_)
        · skip
          exact absurd e1 (by decide)
        · skip
          refine Rn.iconstv (v := 1) dX11_tried_28 ic_1 ?_
          refine Rn.goto dX11_tried_29 ?_
          refine Rn.istore (lv' := [some (.ref 0), some (.int 4), some (.int y), some (.int (nI N)), some (.int 1), none, none]) dX11_tried_33 (by decide) rfl ?_
          refine Rn.iload dX11_tried_35 rfl ?_
          refine Rn.if_eq dX11_tried_37 (fun e2 => ?_) (fun e2 => ?_)
          · skip
            exact absurd e2 (by decide)
          · skip
            refine Rn.iload_n dX11_tried_40 rfl ?_
            refine Rn.goto dX11_tried_41 ?_
            refine Rn.istore (lv' := [some (.ref 0), some (.int 4), some (.int y), some (.int (nI N)), some (.int 1), some (.int 4), none]) dX11_tried_48 (by decide) rfl ?_
            refine Rn.iload dX11_tried_50 rfl ?_
            refine Rn.iconstv (v := 3) dX11_tried_52 ic_3 ?_
            refine Rn.icmp_ne dX11_tried_53 (fun e3 => ?_) (fun e3 => ?_)
            · skip
              refine Rn.iload_n dX11_tried_67 rfl ?_
              refine Rn.if_eq dX11_tried_68 (fun e4 => ?_) (fun e4 => ?_)
              · skip
                subst e4
                refine Rn.aload_n dX11_tried_73 rfl ?_
                refine Rn.iload dX11_tried_74 rfl ?_
                refine Rn.callV1 dX11_tried_76 vX11_299 (xc0 hX) (by decide) rfl (trNow (Q := fun v0 ly0 M0 => v0 = none ∧ ly0 = ly ∧ Tr ly M M0 pl n (pl + 7) nw (fun k => M.1 (pl + 7 + k)) (pl + 18) nu (pl + 21) nv (M.1 75 4) 0 1 (M.1 90) nf (M.1 88) (M.1 89) (vS M.1 75) ∧ quT M M0) (Or.inr rfl) hXS0 hF.1 quX.rf (fun K h u => ⟨rfl, rfl, h, u⟩)) (by decide) ⟨(Nat.le_of_ble_eq_true rfl), (Nat.le_of_ble_eq_true rfl), (Nat.le_of_ble_eq_true rfl)⟩ (fun h => by cases h) (fun v1 ly1 N1 ⟨q1, q2, hT1, hU1⟩ => ?_)
                rw [q1, q2]
                have hXN1 := (hT1.1).xw hX
                have hplN1 : N1.2.2 0 3 = some pl := ((hT1.1).2.2 0 3 (by decide)).trans hpl
                have hnN1 : N1.1 pl 0 = nI n := (congrFun ((hT1.1).p0 hp7) 0).trans hn
                have hw1N1 : N1.1 (pl + 1) 0 = nI nw := (congrFun ((hT1.1).pk hp7 (k := 1) (by decide)) 0).trans hw1
                refine Rn.aload_n dX11_tried_79 rfl ?_
                refine Rn.iload dX11_tried_80 rfl ?_
                refine Rn.iload_n dX11_tried_82 rfl ?_
                refine Rn.callV2 dX11_tried_83 vX11_397 (xc0 hXN1) (by decide) rfl (tX11_change4 (Q := fun v0 ly0 M0 => v0 = none ∧ ly0 = ly ∧ Tr ly M M0 pl n (pl + 7) nw (fun k => M.1 (pl + 7 + k)) (pl + 18) nu (pl + 21) nv (M.1 75 4) 1 1 (M.1 90) nf (M.1 88) (M.1 89) (vS M.1 75)) (w := 0) hXS0 hF hT1 (fun K h => ⟨rfl, rfl, h⟩)) (by decide) ⟨(Nat.le_of_ble_eq_true rfl), (Nat.le_of_ble_eq_true rfl), (Nat.le_of_ble_eq_true rfl)⟩ (fun h => by cases h) (fun v1 ly1 N2 ⟨q1, q2, hT2⟩ => ?_)
                rw [q1, q2]
                have hXN2 := (hT2.1).xw hX
                have hplN2 : N2.2.2 0 3 = some pl := ((hT2.1).2.2 0 3 (by decide)).trans hpl
                have hnN2 : N2.1 pl 0 = nI n := (congrFun ((hT2.1).p0 hp7) 0).trans hn
                have hw1N2 : N2.1 (pl + 1) 0 = nI nw := (congrFun ((hT2.1).pk hp7 (k := 1) (by decide)) 0).trans hw1
                have hQ2 := fun M' hq => (hQ.2 4 0 N (by decide) (by rw [if_neg (by decide)]) hN2 rfl M' hq).1 rfl
                refine Rn.iconstv (v := 0) dX11_tried_86 ic_0 ?_
                refine Rn.istore (lv' := [some (.ref 0), some (.int 4), some (.int 0), some (.int (nI N)), some (.int 1), some (.int 4), some (.int 0)]) dX11_tried_87 (by decide) rfl ?_
                have loop : ∀ (k i : Nat) (N3 : Mm), i + k = N → Tr ly M N3 pl n (pl + 7) nw (fun k => M.1 (pl + 7 + k)) (pl + 18) nu (pl + 21) nv (M.1 75 4) 1 1 (M.1 90) nf (M.1 88) (M.1 89) (itF (fun _ => TG M.1 pl n nw (fun k => M.1 (pl + 7 + k)) (pl + 18) nu (pl + 21) nv (M.1 75 4) 1 1 (M.1 90)) i (vS M.1 75)) → Rn G l mX11_tried (6, 0, 0, false) 89 [some (.ref 0), some (.int 4), some (.int 0), some (.int (nI N)), some (.int 1), some (.int 4), some (.int (nI i))] [] ly N3 Q := by
                  intro k
                  induction k with
                  | zero =>
                    intro i N3 hi hT3
                    refine Rn.iload dX11_tried_89 rfl ?_
                    refine Rn.iload_n dX11_tried_91 rfl ?_
                    refine Rn.icmp_ge dX11_tried_92 (fun hc => ?_) (fun hc => ?_)
                    · skip
                      obtain rfl : i = N := by omega
                      have hXN3 := (hT3.1).xw hX
                      have hplN3 : N3.2.2 0 3 = some pl := ((hT3.1).2.2 0 3 (by decide)).trans hpl
                      have hnN3 : N3.1 pl 0 = nI n := (congrFun ((hT3.1).p0 hp7) 0).trans hn
                      have hw1N3 : N3.1 (pl + 1) 0 = nI nw := (congrFun ((hT3.1).pk hp7 (k := 1) (by decide)) 0).trans hw1
                      refine Rn.iload dX11_tried_108 rfl ?_
                      refine Rn.if_eq dX11_tried_110 (fun e7 => ?_) (fun e7 => ?_)
                      · skip
                        exact absurd e7 (by decide)
                      · skip
                        refine Rn.aload_n dX11_tried_113 rfl ?_
                        refine Rn.getR dX11_tried_114 fX11_43 rfl (xc0 hXN3) (show N3.2.2 0 6 = some 92 from (xp0_6 hXN3)) ?_
                        refine Rn.getR dX11_tried_117 fX11_165 rfl (xc92 hXN3) (show N3.2.2 92 5 = some 93 from (xp92_5 hXN3)) ?_
                        refine Rn.aload_n dX11_tried_120 rfl ?_
                        refine Rn.getR dX11_tried_121 fX11_27 rfl (xc0 hXN3) (show N3.2.2 0 3 = some pl from hplN3) ?_
                        refine Rn.getI dX11_tried_124 fX11_209 rfl (pc0 hXN3 hp7) ?_
                        refine Rn.topI (y := nI n) (hnN3) ?_
                        refine Rn.callV1 dX11_tried_127 vX11_245 (xc93 hXN3) (by decide) rfl (trGr hXS0.ok hT3) (by decide) ⟨(Nat.le_of_ble_eq_true rfl), (Nat.le_of_ble_eq_true rfl), (Nat.le_of_ble_eq_true rfl)⟩ (fun h => by cases h) (fun v1 ly1 M1 ⟨q1, q2, q3⟩ => ?_)
                        rw [q1, q2, q3]
                        refine Rn.goto dX11_tried_130 ?_
                        exact Rn.iret (ty := .int) dX11_tried_150 rfl rfl (hQ2 N3 hT3.1)
                    · exact absurd (nI_le (a := N) (b := i) (by omega) (by omega)) hc
                  | succ k ih =>
                    intro i N3 hi hT3
                    refine Rn.iload dX11_tried_89 rfl ?_
                    refine Rn.iload_n dX11_tried_91 rfl ?_
                    refine Rn.icmp_ge dX11_tried_92 (fun hc => ?_) (fun hc => ?_)
                    · exact absurd hc (nI_ge (a := i) (b := N) (by omega) (by omega))
                    · skip
                      have hXN3 := (hT3.1).xw hX
                      have hplN3 : N3.2.2 0 3 = some pl := ((hT3.1).2.2 0 3 (by decide)).trans hpl
                      have hnN3 : N3.1 pl 0 = nI n := (congrFun ((hT3.1).p0 hp7) 0).trans hn
                      have hw1N3 : N3.1 (pl + 1) 0 = nI nw := (congrFun ((hT3.1).pk hp7 (k := 1) (by decide)) 0).trans hw1
                      refine Rn.aload_n dX11_tried_95 rfl ?_
                      refine Rn.getR dX11_tried_96 fX11_43 rfl (xc0 hXN3) (show N3.2.2 0 6 = some 92 from (xp0_6 hXN3)) ?_
                      refine Rn.callV0 dX11_tried_99 vX11_251 (xc92 hXN3) (by decide) rfl (trPass (Q := fun v0 ly0 M0 => v0 = none ∧ ly0 = ly ∧ Tr ly M M0 pl n (pl + 7) nw (fun k => M.1 (pl + 7 + k)) (pl + 18) nu (pl + 21) nv (M.1 75 4) 1 1 (M.1 90) nf (M.1 88) (M.1 89) (itF (fun _ => TG M.1 pl n nw (fun k => M.1 (pl + 7 + k)) (pl + 18) nu (pl + 21) nv (M.1 75 4) 1 1 (M.1 90)) (i + 1) (vS M.1 75)) ∧ quT N3 M0) hXS0.ok hT3 (fun K h u => ⟨rfl, rfl, h, u⟩)) (by decide) ⟨(Nat.le_of_ble_eq_true rfl), (Nat.le_of_ble_eq_true rfl), (Nat.le_of_ble_eq_true rfl)⟩ (fun h => by cases h) (fun v1 ly1 N4 ⟨q1, q2, hT4, hU4⟩ => ?_)
                      rw [q1, q2]
                      have hXN4 := (hT4.1).xw hX
                      have hplN4 : N4.2.2 0 3 = some pl := ((hT4.1).2.2 0 3 (by decide)).trans hpl
                      have hnN4 : N4.1 pl 0 = nI n := (congrFun ((hT4.1).p0 hp7) 0).trans hn
                      have hw1N4 : N4.1 (pl + 1) 0 = nI nw := (congrFun ((hT4.1).pk hp7 (k := 1) (by decide)) 0).trans hw1
                      refine Rn.iincN (lv' := [some (.ref 0), some (.int 4), some (.int 0), some (.int (nI N)), some (.int 1), some (.int 4), some (.int (nI (i + 1)))]) dX11_tried_102 rfl (by decide) rfl ?_
                      refine Rn.goto dX11_tried_105 ?_
                      exact ih (i + 1) N4 (by omega) hT4
                exact loop N 0 N2 (by omega) hT2
              · skip
                refine Rn.iconstv (v := -1) dX11_tried_71 ic_m1 ?_
                exact Rn.iret (ty := .int) dX11_tried_72 rfl rfl (hQ.1 (fun h => e4 (by have h2 := h.2.2; rw [if_neg (by decide)] at h2; exact h2)))
            · skip
              exact absurd e3 (by decide)
      · skip
        show Rn G l mX11_tried (6, 0, 0, false) 22 [some (.ref 0), some (.int 5), some (.int y), some (.int (nI N)), none, none, none] [] ly M Q
        refine Rn.iload_n dX11_tried_22 rfl ?_
        refine Rn.bipushv (v := 6) dX11_tried_23 bp_6 ?_
        refine Rn.icmp_ge dX11_tried_25 (fun e1 => ?_) (fun e1 => ?_)
        · skip
          exact absurd e1 (by decide)
        · skip
          refine Rn.iconstv (v := 1) dX11_tried_28 ic_1 ?_
          refine Rn.goto dX11_tried_29 ?_
          refine Rn.istore (lv' := [some (.ref 0), some (.int 5), some (.int y), some (.int (nI N)), some (.int 1), none, none]) dX11_tried_33 (by decide) rfl ?_
          refine Rn.iload dX11_tried_35 rfl ?_
          refine Rn.if_eq dX11_tried_37 (fun e2 => ?_) (fun e2 => ?_)
          · skip
            exact absurd e2 (by decide)
          · skip
            refine Rn.iload_n dX11_tried_40 rfl ?_
            refine Rn.goto dX11_tried_41 ?_
            refine Rn.istore (lv' := [some (.ref 0), some (.int 5), some (.int y), some (.int (nI N)), some (.int 1), some (.int 5), none]) dX11_tried_48 (by decide) rfl ?_
            refine Rn.iload dX11_tried_50 rfl ?_
            refine Rn.iconstv (v := 3) dX11_tried_52 ic_3 ?_
            refine Rn.icmp_ne dX11_tried_53 (fun e3 => ?_) (fun e3 => ?_)
            · skip
              refine Rn.iload_n dX11_tried_67 rfl ?_
              refine Rn.if_eq dX11_tried_68 (fun e4 => ?_) (fun e4 => ?_)
              · skip
                subst e4
                refine Rn.aload_n dX11_tried_73 rfl ?_
                refine Rn.iload dX11_tried_74 rfl ?_
                refine Rn.callV1 dX11_tried_76 vX11_299 (xc0 hX) (by decide) rfl (trNow (Q := fun v0 ly0 M0 => v0 = none ∧ ly0 = ly ∧ Tr ly M M0 pl n (pl + 7) nw (fun k => M.1 (pl + 7 + k)) (pl + 18) nu (pl + 21) nv (M.1 75 4) 0 1 (M.1 90) nf (M.1 88) (M.1 89) (vS M.1 75) ∧ quT M M0) (Or.inr rfl) hXS0 hF.1 quX.rf (fun K h u => ⟨rfl, rfl, h, u⟩)) (by decide) ⟨(Nat.le_of_ble_eq_true rfl), (Nat.le_of_ble_eq_true rfl), (Nat.le_of_ble_eq_true rfl)⟩ (fun h => by cases h) (fun v1 ly1 N1 ⟨q1, q2, hT1, hU1⟩ => ?_)
                rw [q1, q2]
                have hXN1 := (hT1.1).xw hX
                have hplN1 : N1.2.2 0 3 = some pl := ((hT1.1).2.2 0 3 (by decide)).trans hpl
                have hnN1 : N1.1 pl 0 = nI n := (congrFun ((hT1.1).p0 hp7) 0).trans hn
                have hw1N1 : N1.1 (pl + 1) 0 = nI nw := (congrFun ((hT1.1).pk hp7 (k := 1) (by decide)) 0).trans hw1
                refine Rn.aload_n dX11_tried_79 rfl ?_
                refine Rn.iload dX11_tried_80 rfl ?_
                refine Rn.iload_n dX11_tried_82 rfl ?_
                refine Rn.callV2 dX11_tried_83 vX11_397 (xc0 hXN1) (by decide) rfl (tX11_change5 (Q := fun v0 ly0 M0 => v0 = none ∧ ly0 = ly ∧ Tr ly M M0 pl n (pl + 7) nw (fun k => M.1 (pl + 7 + k)) (pl + 18) nu 144 0 (M.1 75 4) 0 1 (M.1 90) nf (M.1 88) (M.1 89) (vS M.1 75)) (w := 0) hXS0 hF hT1 (fun K h => ⟨rfl, rfl, h⟩)) (by decide) ⟨(Nat.le_of_ble_eq_true rfl), (Nat.le_of_ble_eq_true rfl), (Nat.le_of_ble_eq_true rfl)⟩ (fun h => by cases h) (fun v1 ly1 N2 ⟨q1, q2, hT2⟩ => ?_)
                rw [q1, q2]
                have hXN2 := (hT2.1).xw hX
                have hplN2 : N2.2.2 0 3 = some pl := ((hT2.1).2.2 0 3 (by decide)).trans hpl
                have hnN2 : N2.1 pl 0 = nI n := (congrFun ((hT2.1).p0 hp7) 0).trans hn
                have hw1N2 : N2.1 (pl + 1) 0 = nI nw := (congrFun ((hT2.1).pk hp7 (k := 1) (by decide)) 0).trans hw1
                have hok : okT ly M pl n (pl + 7) nw (pl + 18) nu 144 0 := ⟨hX, hp7, ⟨hn, hn12⟩, Or.inl rfl, hw6, Or.inl rfl, ⟨hu1, hu2⟩, Or.inr rfl, ⟨hno, by decide⟩, hgl⟩
                have hQ2 := fun M' hq => (hQ.2 5 0 N (by decide) (by rw [if_neg (by decide)]) hN2 rfl M' hq).1 rfl
                refine Rn.iconstv (v := 0) dX11_tried_86 ic_0 ?_
                refine Rn.istore (lv' := [some (.ref 0), some (.int 5), some (.int 0), some (.int (nI N)), some (.int 1), some (.int 5), some (.int 0)]) dX11_tried_87 (by decide) rfl ?_
                have loop : ∀ (k i : Nat) (N3 : Mm), i + k = N → Tr ly M N3 pl n (pl + 7) nw (fun k => M.1 (pl + 7 + k)) (pl + 18) nu 144 0 (M.1 75 4) 0 1 (M.1 90) nf (M.1 88) (M.1 89) (itF (fun _ => TG M.1 pl n nw (fun k => M.1 (pl + 7 + k)) (pl + 18) nu 144 0 (M.1 75 4) 0 1 (M.1 90)) i (vS M.1 75)) → Rn G l mX11_tried (6, 0, 0, false) 89 [some (.ref 0), some (.int 5), some (.int 0), some (.int (nI N)), some (.int 1), some (.int 5), some (.int (nI i))] [] ly N3 Q := by
                  intro k
                  induction k with
                  | zero =>
                    intro i N3 hi hT3
                    refine Rn.iload dX11_tried_89 rfl ?_
                    refine Rn.iload_n dX11_tried_91 rfl ?_
                    refine Rn.icmp_ge dX11_tried_92 (fun hc => ?_) (fun hc => ?_)
                    · skip
                      obtain rfl : i = N := by omega
                      have hXN3 := (hT3.1).xw hX
                      have hplN3 : N3.2.2 0 3 = some pl := ((hT3.1).2.2 0 3 (by decide)).trans hpl
                      have hnN3 : N3.1 pl 0 = nI n := (congrFun ((hT3.1).p0 hp7) 0).trans hn
                      have hw1N3 : N3.1 (pl + 1) 0 = nI nw := (congrFun ((hT3.1).pk hp7 (k := 1) (by decide)) 0).trans hw1
                      refine Rn.iload dX11_tried_108 rfl ?_
                      refine Rn.if_eq dX11_tried_110 (fun e7 => ?_) (fun e7 => ?_)
                      · skip
                        exact absurd e7 (by decide)
                      · skip
                        refine Rn.aload_n dX11_tried_113 rfl ?_
                        refine Rn.getR dX11_tried_114 fX11_43 rfl (xc0 hXN3) (show N3.2.2 0 6 = some 92 from (xp0_6 hXN3)) ?_
                        refine Rn.getR dX11_tried_117 fX11_165 rfl (xc92 hXN3) (show N3.2.2 92 5 = some 93 from (xp92_5 hXN3)) ?_
                        refine Rn.aload_n dX11_tried_120 rfl ?_
                        refine Rn.getR dX11_tried_121 fX11_27 rfl (xc0 hXN3) (show N3.2.2 0 3 = some pl from hplN3) ?_
                        refine Rn.getI dX11_tried_124 fX11_209 rfl (pc0 hXN3 hp7) ?_
                        refine Rn.topI (y := nI n) (hnN3) ?_
                        refine Rn.callV1 dX11_tried_127 vX11_245 (xc93 hXN3) (by decide) rfl (trGr hok hT3) (by decide) ⟨(Nat.le_of_ble_eq_true rfl), (Nat.le_of_ble_eq_true rfl), (Nat.le_of_ble_eq_true rfl)⟩ (fun h => by cases h) (fun v1 ly1 M1 ⟨q1, q2, q3⟩ => ?_)
                        rw [q1, q2, q3]
                        refine Rn.goto dX11_tried_130 ?_
                        exact Rn.iret (ty := .int) dX11_tried_150 rfl rfl (hQ2 N3 hT3.1)
                    · exact absurd (nI_le (a := N) (b := i) (by omega) (by omega)) hc
                  | succ k ih =>
                    intro i N3 hi hT3
                    refine Rn.iload dX11_tried_89 rfl ?_
                    refine Rn.iload_n dX11_tried_91 rfl ?_
                    refine Rn.icmp_ge dX11_tried_92 (fun hc => ?_) (fun hc => ?_)
                    · exact absurd hc (nI_ge (a := i) (b := N) (by omega) (by omega))
                    · skip
                      have hXN3 := (hT3.1).xw hX
                      have hplN3 : N3.2.2 0 3 = some pl := ((hT3.1).2.2 0 3 (by decide)).trans hpl
                      have hnN3 : N3.1 pl 0 = nI n := (congrFun ((hT3.1).p0 hp7) 0).trans hn
                      have hw1N3 : N3.1 (pl + 1) 0 = nI nw := (congrFun ((hT3.1).pk hp7 (k := 1) (by decide)) 0).trans hw1
                      refine Rn.aload_n dX11_tried_95 rfl ?_
                      refine Rn.getR dX11_tried_96 fX11_43 rfl (xc0 hXN3) (show N3.2.2 0 6 = some 92 from (xp0_6 hXN3)) ?_
                      refine Rn.callV0 dX11_tried_99 vX11_251 (xc92 hXN3) (by decide) rfl (trPass (Q := fun v0 ly0 M0 => v0 = none ∧ ly0 = ly ∧ Tr ly M M0 pl n (pl + 7) nw (fun k => M.1 (pl + 7 + k)) (pl + 18) nu 144 0 (M.1 75 4) 0 1 (M.1 90) nf (M.1 88) (M.1 89) (itF (fun _ => TG M.1 pl n nw (fun k => M.1 (pl + 7 + k)) (pl + 18) nu 144 0 (M.1 75 4) 0 1 (M.1 90)) (i + 1) (vS M.1 75)) ∧ quT N3 M0) hok hT3 (fun K h u => ⟨rfl, rfl, h, u⟩)) (by decide) ⟨(Nat.le_of_ble_eq_true rfl), (Nat.le_of_ble_eq_true rfl), (Nat.le_of_ble_eq_true rfl)⟩ (fun h => by cases h) (fun v1 ly1 N4 ⟨q1, q2, hT4, hU4⟩ => ?_)
                      rw [q1, q2]
                      have hXN4 := (hT4.1).xw hX
                      have hplN4 : N4.2.2 0 3 = some pl := ((hT4.1).2.2 0 3 (by decide)).trans hpl
                      have hnN4 : N4.1 pl 0 = nI n := (congrFun ((hT4.1).p0 hp7) 0).trans hn
                      have hw1N4 : N4.1 (pl + 1) 0 = nI nw := (congrFun ((hT4.1).pk hp7 (k := 1) (by decide)) 0).trans hw1
                      refine Rn.iincN (lv' := [some (.ref 0), some (.int 5), some (.int 0), some (.int (nI N)), some (.int 1), some (.int 5), some (.int (nI (i + 1)))]) dX11_tried_102 rfl (by decide) rfl ?_
                      refine Rn.goto dX11_tried_105 ?_
                      exact ih (i + 1) N4 (by omega) hT4
                exact loop N 0 N2 (by omega) hT2
              · skip
                refine Rn.iconstv (v := -1) dX11_tried_71 ic_m1 ?_
                exact Rn.iret (ty := .int) dX11_tried_72 rfl rfl (hQ.1 (fun h => e4 (by have h2 := h.2.2; rw [if_neg (by decide)] at h2; exact h2)))
            · skip
              exact absurd e3 (by decide)
      · skip
        show Rn G l mX11_tried (6, 0, 0, false) 22 [some (.ref 0), some (.int 6), some (.int y), some (.int (nI N)), none, none, none] [] ly M Q
        refine Rn.iload_n dX11_tried_22 rfl ?_
        refine Rn.bipushv (v := 6) dX11_tried_23 bp_6 ?_
        refine Rn.icmp_ge dX11_tried_25 (fun e1 => ?_) (fun e1 => ?_)
        · skip
          refine Rn.iconstv (v := 0) dX11_tried_32 ic_0 ?_
          refine Rn.istore (lv' := [some (.ref 0), some (.int 6), some (.int y), some (.int (nI N)), some (.int 0), none, none]) dX11_tried_33 (by decide) rfl ?_
          refine Rn.iload dX11_tried_35 rfl ?_
          refine Rn.if_eq dX11_tried_37 (fun e2 => ?_) (fun e2 => ?_)
          · skip
            refine Rn.iload_n dX11_tried_44 rfl ?_
            refine Rn.bipushv (v := 6) dX11_tried_45 bp_6 ?_
            refine Rn.isub dX11_tried_47 ?_
            refine Rn.istore (lv' := [some (.ref 0), some (.int 6), some (.int y), some (.int (nI N)), some (.int 0), some (.int (6 - 6)), none]) dX11_tried_48 (by decide) rfl ?_
            refine Rn.iload dX11_tried_50 rfl ?_
            refine Rn.iconstv (v := 3) dX11_tried_52 ic_3 ?_
            show Rn G l mX11_tried (6, 0, 0, false) 53 [some (.ref 0), some (.int 6), some (.int y), some (.int (nI N)), some (.int 0), some (.int 0), none] [.int 3, .int 0] ly M Q
            refine Rn.icmp_ne dX11_tried_53 (fun e3 => ?_) (fun e3 => ?_)
            · skip
              refine Rn.iload_n dX11_tried_67 rfl ?_
              refine Rn.if_eq dX11_tried_68 (fun e4 => ?_) (fun e4 => ?_)
              · skip
                subst e4
                refine Rn.aload_n dX11_tried_73 rfl ?_
                refine Rn.iload dX11_tried_74 rfl ?_
                refine Rn.callV1 dX11_tried_76 vX11_299 (xc0 hX) (by decide) rfl (trNow (Q := fun v0 ly0 M0 => v0 = none ∧ ly0 = ly ∧ Tr ly M M0 pl n (pl + 7) nw (fun k => M.1 (pl + 7 + k)) (pl + 18) nu (pl + 21) nv (M.1 75 4) 0 0 (M.1 90) nf (M.1 88) (M.1 89) (vS M.1 75) ∧ quT M M0) (Or.inl rfl) hXS0 hF.1 quX.rf (fun K h u => ⟨rfl, rfl, h, u⟩)) (by decide) ⟨(Nat.le_of_ble_eq_true rfl), (Nat.le_of_ble_eq_true rfl), (Nat.le_of_ble_eq_true rfl)⟩ (fun h => by cases h) (fun v1 ly1 N1 ⟨q1, q2, hT1, hU1⟩ => ?_)
                rw [q1, q2]
                have hXN1 := (hT1.1).xw hX
                have hplN1 : N1.2.2 0 3 = some pl := ((hT1.1).2.2 0 3 (by decide)).trans hpl
                have hnN1 : N1.1 pl 0 = nI n := (congrFun ((hT1.1).p0 hp7) 0).trans hn
                have hw1N1 : N1.1 (pl + 1) 0 = nI nw := (congrFun ((hT1.1).pk hp7 (k := 1) (by decide)) 0).trans hw1
                refine Rn.aload_n dX11_tried_79 rfl ?_
                refine Rn.iload dX11_tried_80 rfl ?_
                refine Rn.iload_n dX11_tried_82 rfl ?_
                refine Rn.callV2 dX11_tried_83 vX11_397 (xc0 hXN1) (by decide) rfl (tX11_change0 (Q := fun v0 ly0 M0 => v0 = none ∧ ly0 = ly ∧ Tr ly M M0 pl n (pl + 7) nw (fun k => M.1 (pl + 7 + k)) (pl + 18) nu (pl + 21) nv 0 0 0 (M.1 90) nf (M.1 88) (M.1 89) (vS M.1 75)) (w := 0) hXS0 hF hT1 (fun K h => ⟨rfl, rfl, h⟩)) (by decide) ⟨(Nat.le_of_ble_eq_true rfl), (Nat.le_of_ble_eq_true rfl), (Nat.le_of_ble_eq_true rfl)⟩ (fun h => by cases h) (fun v1 ly1 N2 ⟨q1, q2, hT2⟩ => ?_)
                rw [q1, q2]
                have hXN2 := (hT2.1).xw hX
                have hplN2 : N2.2.2 0 3 = some pl := ((hT2.1).2.2 0 3 (by decide)).trans hpl
                have hnN2 : N2.1 pl 0 = nI n := (congrFun ((hT2.1).p0 hp7) 0).trans hn
                have hw1N2 : N2.1 (pl + 1) 0 = nI nw := (congrFun ((hT2.1).pk hp7 (k := 1) (by decide)) 0).trans hw1
                have hQ2 := fun M' hq => (hQ.2 0 0 N (by decide) (by rw [if_neg (by decide)]) hN2 rfl M' hq).2 rfl
                refine Rn.iconstv (v := 0) dX11_tried_86 ic_0 ?_
                refine Rn.istore (lv' := [some (.ref 0), some (.int 6), some (.int 0), some (.int (nI N)), some (.int 0), some (.int 0), some (.int 0)]) dX11_tried_87 (by decide) rfl ?_
                have loop : ∀ (k i : Nat) (N3 : Mm), i + k = N → Tr ly M N3 pl n (pl + 7) nw (fun k => M.1 (pl + 7 + k)) (pl + 18) nu (pl + 21) nv 0 0 0 (M.1 90) nf (M.1 88) (M.1 89) (itF (fun _ => TG M.1 pl n nw (fun k => M.1 (pl + 7 + k)) (pl + 18) nu (pl + 21) nv 0 0 0 (M.1 90)) i (vS M.1 75)) → Rn G l mX11_tried (6, 0, 0, false) 89 [some (.ref 0), some (.int 6), some (.int 0), some (.int (nI N)), some (.int 0), some (.int 0), some (.int (nI i))] [] ly N3 Q := by
                  intro k
                  induction k with
                  | zero =>
                    intro i N3 hi hT3
                    refine Rn.iload dX11_tried_89 rfl ?_
                    refine Rn.iload_n dX11_tried_91 rfl ?_
                    refine Rn.icmp_ge dX11_tried_92 (fun hc => ?_) (fun hc => ?_)
                    · skip
                      obtain rfl : i = N := by omega
                      have hXN3 := (hT3.1).xw hX
                      have hplN3 : N3.2.2 0 3 = some pl := ((hT3.1).2.2 0 3 (by decide)).trans hpl
                      have hnN3 : N3.1 pl 0 = nI n := (congrFun ((hT3.1).p0 hp7) 0).trans hn
                      have hw1N3 : N3.1 (pl + 1) 0 = nI nw := (congrFun ((hT3.1).pk hp7 (k := 1) (by decide)) 0).trans hw1
                      refine Rn.iload dX11_tried_108 rfl ?_
                      refine Rn.if_eq dX11_tried_110 (fun e7 => ?_) (fun e7 => ?_)
                      · skip
                        refine Rn.aload_n dX11_tried_133 rfl ?_
                        refine Rn.getR dX11_tried_134 fX11_43 rfl (xc0 hXN3) (show N3.2.2 0 6 = some 92 from (xp0_6 hXN3)) ?_
                        refine Rn.getR dX11_tried_137 fX11_177 rfl (xc92 hXN3) (show N3.2.2 92 6 = some 97 from (xp92_6 hXN3)) ?_
                        refine Rn.aload_n dX11_tried_140 rfl ?_
                        refine Rn.getR dX11_tried_141 fX11_27 rfl (xc0 hXN3) (show N3.2.2 0 3 = some pl from hplN3) ?_
                        refine Rn.getI dX11_tried_144 fX11_209 rfl (pc0 hXN3 hp7) ?_
                        refine Rn.topI (y := nI n) (hnN3) ?_
                        refine Rn.callV1 dX11_tried_147 vX11_245 (xc97 hXN3) (by decide) rfl (trGs hXS0.ok hT3) (by decide) ⟨(Nat.le_of_ble_eq_true rfl), (Nat.le_of_ble_eq_true rfl), (Nat.le_of_ble_eq_true rfl)⟩ (fun h => by cases h) (fun v1 ly1 M1 ⟨q1, q2, q3⟩ => ?_)
                        rw [q1, q2, q3]
                        exact Rn.iret (ty := .int) dX11_tried_150 rfl rfl (hQ2 N3 hT3.1)
                      · skip
                        exact absurd rfl e7
                    · exact absurd (nI_le (a := N) (b := i) (by omega) (by omega)) hc
                  | succ k ih =>
                    intro i N3 hi hT3
                    refine Rn.iload dX11_tried_89 rfl ?_
                    refine Rn.iload_n dX11_tried_91 rfl ?_
                    refine Rn.icmp_ge dX11_tried_92 (fun hc => ?_) (fun hc => ?_)
                    · exact absurd hc (nI_ge (a := i) (b := N) (by omega) (by omega))
                    · skip
                      have hXN3 := (hT3.1).xw hX
                      have hplN3 : N3.2.2 0 3 = some pl := ((hT3.1).2.2 0 3 (by decide)).trans hpl
                      have hnN3 : N3.1 pl 0 = nI n := (congrFun ((hT3.1).p0 hp7) 0).trans hn
                      have hw1N3 : N3.1 (pl + 1) 0 = nI nw := (congrFun ((hT3.1).pk hp7 (k := 1) (by decide)) 0).trans hw1
                      refine Rn.aload_n dX11_tried_95 rfl ?_
                      refine Rn.getR dX11_tried_96 fX11_43 rfl (xc0 hXN3) (show N3.2.2 0 6 = some 92 from (xp0_6 hXN3)) ?_
                      refine Rn.callV0 dX11_tried_99 vX11_251 (xc92 hXN3) (by decide) rfl (trPass (Q := fun v0 ly0 M0 => v0 = none ∧ ly0 = ly ∧ Tr ly M M0 pl n (pl + 7) nw (fun k => M.1 (pl + 7 + k)) (pl + 18) nu (pl + 21) nv 0 0 0 (M.1 90) nf (M.1 88) (M.1 89) (itF (fun _ => TG M.1 pl n nw (fun k => M.1 (pl + 7 + k)) (pl + 18) nu (pl + 21) nv 0 0 0 (M.1 90)) (i + 1) (vS M.1 75)) ∧ quT N3 M0) hXS0.ok hT3 (fun K h u => ⟨rfl, rfl, h, u⟩)) (by decide) ⟨(Nat.le_of_ble_eq_true rfl), (Nat.le_of_ble_eq_true rfl), (Nat.le_of_ble_eq_true rfl)⟩ (fun h => by cases h) (fun v1 ly1 N4 ⟨q1, q2, hT4, hU4⟩ => ?_)
                      rw [q1, q2]
                      have hXN4 := (hT4.1).xw hX
                      have hplN4 : N4.2.2 0 3 = some pl := ((hT4.1).2.2 0 3 (by decide)).trans hpl
                      have hnN4 : N4.1 pl 0 = nI n := (congrFun ((hT4.1).p0 hp7) 0).trans hn
                      have hw1N4 : N4.1 (pl + 1) 0 = nI nw := (congrFun ((hT4.1).pk hp7 (k := 1) (by decide)) 0).trans hw1
                      refine Rn.iincN (lv' := [some (.ref 0), some (.int 6), some (.int 0), some (.int (nI N)), some (.int 0), some (.int 0), some (.int (nI (i + 1)))]) dX11_tried_102 rfl (by decide) rfl ?_
                      refine Rn.goto dX11_tried_105 ?_
                      exact ih (i + 1) N4 (by omega) hT4
                exact loop N 0 N2 (by omega) hT2
              · skip
                refine Rn.iconstv (v := -1) dX11_tried_71 ic_m1 ?_
                exact Rn.iret (ty := .int) dX11_tried_72 rfl rfl (hQ.1 (fun h => e4 (by have h2 := h.2.2; rw [if_neg (by decide)] at h2; exact h2)))
            · skip
              exact absurd e3 (by decide)
          · skip
            exact absurd (by decide) e2
        · skip
          exact absurd (by decide) e1
      · skip
        show Rn G l mX11_tried (6, 0, 0, false) 22 [some (.ref 0), some (.int 7), some (.int y), some (.int (nI N)), none, none, none] [] ly M Q
        refine Rn.iload_n dX11_tried_22 rfl ?_
        refine Rn.bipushv (v := 6) dX11_tried_23 bp_6 ?_
        refine Rn.icmp_ge dX11_tried_25 (fun e1 => ?_) (fun e1 => ?_)
        · skip
          refine Rn.iconstv (v := 0) dX11_tried_32 ic_0 ?_
          refine Rn.istore (lv' := [some (.ref 0), some (.int 7), some (.int y), some (.int (nI N)), some (.int 0), none, none]) dX11_tried_33 (by decide) rfl ?_
          refine Rn.iload dX11_tried_35 rfl ?_
          refine Rn.if_eq dX11_tried_37 (fun e2 => ?_) (fun e2 => ?_)
          · skip
            refine Rn.iload_n dX11_tried_44 rfl ?_
            refine Rn.bipushv (v := 6) dX11_tried_45 bp_6 ?_
            refine Rn.isub dX11_tried_47 ?_
            refine Rn.istore (lv' := [some (.ref 0), some (.int 7), some (.int y), some (.int (nI N)), some (.int 0), some (.int (7 - 6)), none]) dX11_tried_48 (by decide) rfl ?_
            refine Rn.iload dX11_tried_50 rfl ?_
            refine Rn.iconstv (v := 3) dX11_tried_52 ic_3 ?_
            show Rn G l mX11_tried (6, 0, 0, false) 53 [some (.ref 0), some (.int 7), some (.int y), some (.int (nI N)), some (.int 0), some (.int 1), none] [.int 3, .int 1] ly M Q
            refine Rn.icmp_ne dX11_tried_53 (fun e3 => ?_) (fun e3 => ?_)
            · skip
              refine Rn.iload_n dX11_tried_67 rfl ?_
              refine Rn.if_eq dX11_tried_68 (fun e4 => ?_) (fun e4 => ?_)
              · skip
                subst e4
                refine Rn.aload_n dX11_tried_73 rfl ?_
                refine Rn.iload dX11_tried_74 rfl ?_
                refine Rn.callV1 dX11_tried_76 vX11_299 (xc0 hX) (by decide) rfl (trNow (Q := fun v0 ly0 M0 => v0 = none ∧ ly0 = ly ∧ Tr ly M M0 pl n (pl + 7) nw (fun k => M.1 (pl + 7 + k)) (pl + 18) nu (pl + 21) nv (M.1 75 4) 0 0 (M.1 90) nf (M.1 88) (M.1 89) (vS M.1 75) ∧ quT M M0) (Or.inl rfl) hXS0 hF.1 quX.rf (fun K h u => ⟨rfl, rfl, h, u⟩)) (by decide) ⟨(Nat.le_of_ble_eq_true rfl), (Nat.le_of_ble_eq_true rfl), (Nat.le_of_ble_eq_true rfl)⟩ (fun h => by cases h) (fun v1 ly1 N1 ⟨q1, q2, hT1, hU1⟩ => ?_)
                rw [q1, q2]
                have hXN1 := (hT1.1).xw hX
                have hplN1 : N1.2.2 0 3 = some pl := ((hT1.1).2.2 0 3 (by decide)).trans hpl
                have hnN1 : N1.1 pl 0 = nI n := (congrFun ((hT1.1).p0 hp7) 0).trans hn
                have hw1N1 : N1.1 (pl + 1) 0 = nI nw := (congrFun ((hT1.1).pk hp7 (k := 1) (by decide)) 0).trans hw1
                refine Rn.aload_n dX11_tried_79 rfl ?_
                refine Rn.iload dX11_tried_80 rfl ?_
                refine Rn.iload_n dX11_tried_82 rfl ?_
                refine Rn.callV2 dX11_tried_83 vX11_397 (xc0 hXN1) (by decide) rfl (tX11_change1 (Q := fun v0 ly0 M0 => v0 = none ∧ ly0 = ly ∧ Tr ly M M0 pl n (pl + 7) nw (fun k => M.1 (pl + 7 + k)) (pl + 18) nu (pl + 21) nv (M.1 75 4) 0 0 (fun _ => M.1 pl 3) 0 (M.1 88) (M.1 89) (vS M.1 75)) (w := 0) hXS0 hF hT1 (fun K h => ⟨rfl, rfl, h⟩)) (by decide) ⟨(Nat.le_of_ble_eq_true rfl), (Nat.le_of_ble_eq_true rfl), (Nat.le_of_ble_eq_true rfl)⟩ (fun h => by cases h) (fun v1 ly1 N2 ⟨q1, q2, hT2⟩ => ?_)
                rw [q1, q2]
                have hXN2 := (hT2.1).xw hX
                have hplN2 : N2.2.2 0 3 = some pl := ((hT2.1).2.2 0 3 (by decide)).trans hpl
                have hnN2 : N2.1 pl 0 = nI n := (congrFun ((hT2.1).p0 hp7) 0).trans hn
                have hw1N2 : N2.1 (pl + 1) 0 = nI nw := (congrFun ((hT2.1).pk hp7 (k := 1) (by decide)) 0).trans hw1
                have hQ2 := fun M' hq => (hQ.2 1 0 N (by decide) (by rw [if_neg (by decide)]) hN2 rfl M' hq).2 rfl
                refine Rn.iconstv (v := 0) dX11_tried_86 ic_0 ?_
                refine Rn.istore (lv' := [some (.ref 0), some (.int 7), some (.int 0), some (.int (nI N)), some (.int 0), some (.int 1), some (.int 0)]) dX11_tried_87 (by decide) rfl ?_
                have loop : ∀ (k i : Nat) (N3 : Mm), i + k = N → Tr ly M N3 pl n (pl + 7) nw (fun k => M.1 (pl + 7 + k)) (pl + 18) nu (pl + 21) nv (M.1 75 4) 0 0 (fun _ => M.1 pl 3) 0 (M.1 88) (M.1 89) (itF (fun _ => TG M.1 pl n nw (fun k => M.1 (pl + 7 + k)) (pl + 18) nu (pl + 21) nv (M.1 75 4) 0 0 (fun _ => M.1 pl 3)) i (vS M.1 75)) → Rn G l mX11_tried (6, 0, 0, false) 89 [some (.ref 0), some (.int 7), some (.int 0), some (.int (nI N)), some (.int 0), some (.int 1), some (.int (nI i))] [] ly N3 Q := by
                  intro k
                  induction k with
                  | zero =>
                    intro i N3 hi hT3
                    refine Rn.iload dX11_tried_89 rfl ?_
                    refine Rn.iload_n dX11_tried_91 rfl ?_
                    refine Rn.icmp_ge dX11_tried_92 (fun hc => ?_) (fun hc => ?_)
                    · skip
                      obtain rfl : i = N := by omega
                      have hXN3 := (hT3.1).xw hX
                      have hplN3 : N3.2.2 0 3 = some pl := ((hT3.1).2.2 0 3 (by decide)).trans hpl
                      have hnN3 : N3.1 pl 0 = nI n := (congrFun ((hT3.1).p0 hp7) 0).trans hn
                      have hw1N3 : N3.1 (pl + 1) 0 = nI nw := (congrFun ((hT3.1).pk hp7 (k := 1) (by decide)) 0).trans hw1
                      refine Rn.iload dX11_tried_108 rfl ?_
                      refine Rn.if_eq dX11_tried_110 (fun e7 => ?_) (fun e7 => ?_)
                      · skip
                        refine Rn.aload_n dX11_tried_133 rfl ?_
                        refine Rn.getR dX11_tried_134 fX11_43 rfl (xc0 hXN3) (show N3.2.2 0 6 = some 92 from (xp0_6 hXN3)) ?_
                        refine Rn.getR dX11_tried_137 fX11_177 rfl (xc92 hXN3) (show N3.2.2 92 6 = some 97 from (xp92_6 hXN3)) ?_
                        refine Rn.aload_n dX11_tried_140 rfl ?_
                        refine Rn.getR dX11_tried_141 fX11_27 rfl (xc0 hXN3) (show N3.2.2 0 3 = some pl from hplN3) ?_
                        refine Rn.getI dX11_tried_144 fX11_209 rfl (pc0 hXN3 hp7) ?_
                        refine Rn.topI (y := nI n) (hnN3) ?_
                        refine Rn.callV1 dX11_tried_147 vX11_245 (xc97 hXN3) (by decide) rfl (trGs hXS0.ok hT3) (by decide) ⟨(Nat.le_of_ble_eq_true rfl), (Nat.le_of_ble_eq_true rfl), (Nat.le_of_ble_eq_true rfl)⟩ (fun h => by cases h) (fun v1 ly1 M1 ⟨q1, q2, q3⟩ => ?_)
                        rw [q1, q2, q3]
                        exact Rn.iret (ty := .int) dX11_tried_150 rfl rfl (hQ2 N3 hT3.1)
                      · skip
                        exact absurd rfl e7
                    · exact absurd (nI_le (a := N) (b := i) (by omega) (by omega)) hc
                  | succ k ih =>
                    intro i N3 hi hT3
                    refine Rn.iload dX11_tried_89 rfl ?_
                    refine Rn.iload_n dX11_tried_91 rfl ?_
                    refine Rn.icmp_ge dX11_tried_92 (fun hc => ?_) (fun hc => ?_)
                    · exact absurd hc (nI_ge (a := i) (b := N) (by omega) (by omega))
                    · skip
                      have hXN3 := (hT3.1).xw hX
                      have hplN3 : N3.2.2 0 3 = some pl := ((hT3.1).2.2 0 3 (by decide)).trans hpl
                      have hnN3 : N3.1 pl 0 = nI n := (congrFun ((hT3.1).p0 hp7) 0).trans hn
                      have hw1N3 : N3.1 (pl + 1) 0 = nI nw := (congrFun ((hT3.1).pk hp7 (k := 1) (by decide)) 0).trans hw1
                      refine Rn.aload_n dX11_tried_95 rfl ?_
                      refine Rn.getR dX11_tried_96 fX11_43 rfl (xc0 hXN3) (show N3.2.2 0 6 = some 92 from (xp0_6 hXN3)) ?_
                      refine Rn.callV0 dX11_tried_99 vX11_251 (xc92 hXN3) (by decide) rfl (trPass (Q := fun v0 ly0 M0 => v0 = none ∧ ly0 = ly ∧ Tr ly M M0 pl n (pl + 7) nw (fun k => M.1 (pl + 7 + k)) (pl + 18) nu (pl + 21) nv (M.1 75 4) 0 0 (fun _ => M.1 pl 3) 0 (M.1 88) (M.1 89) (itF (fun _ => TG M.1 pl n nw (fun k => M.1 (pl + 7 + k)) (pl + 18) nu (pl + 21) nv (M.1 75 4) 0 0 (fun _ => M.1 pl 3)) (i + 1) (vS M.1 75)) ∧ quT N3 M0) hXS0.ok hT3 (fun K h u => ⟨rfl, rfl, h, u⟩)) (by decide) ⟨(Nat.le_of_ble_eq_true rfl), (Nat.le_of_ble_eq_true rfl), (Nat.le_of_ble_eq_true rfl)⟩ (fun h => by cases h) (fun v1 ly1 N4 ⟨q1, q2, hT4, hU4⟩ => ?_)
                      rw [q1, q2]
                      have hXN4 := (hT4.1).xw hX
                      have hplN4 : N4.2.2 0 3 = some pl := ((hT4.1).2.2 0 3 (by decide)).trans hpl
                      have hnN4 : N4.1 pl 0 = nI n := (congrFun ((hT4.1).p0 hp7) 0).trans hn
                      have hw1N4 : N4.1 (pl + 1) 0 = nI nw := (congrFun ((hT4.1).pk hp7 (k := 1) (by decide)) 0).trans hw1
                      refine Rn.iincN (lv' := [some (.ref 0), some (.int 7), some (.int 0), some (.int (nI N)), some (.int 0), some (.int 1), some (.int (nI (i + 1)))]) dX11_tried_102 rfl (by decide) rfl ?_
                      refine Rn.goto dX11_tried_105 ?_
                      exact ih (i + 1) N4 (by omega) hT4
                exact loop N 0 N2 (by omega) hT2
              · skip
                refine Rn.iconstv (v := -1) dX11_tried_71 ic_m1 ?_
                exact Rn.iret (ty := .int) dX11_tried_72 rfl rfl (hQ.1 (fun h => e4 (by have h2 := h.2.2; rw [if_neg (by decide)] at h2; exact h2)))
            · skip
              exact absurd e3 (by decide)
          · skip
            exact absurd (by decide) e2
        · skip
          exact absurd (by decide) e1
      · skip
        show Rn G l mX11_tried (6, 0, 0, false) 22 [some (.ref 0), some (.int 8), some (.int y), some (.int (nI N)), none, none, none] [] ly M Q
        refine Rn.iload_n dX11_tried_22 rfl ?_
        refine Rn.bipushv (v := 6) dX11_tried_23 bp_6 ?_
        refine Rn.icmp_ge dX11_tried_25 (fun e1 => ?_) (fun e1 => ?_)
        · skip
          refine Rn.iconstv (v := 0) dX11_tried_32 ic_0 ?_
          refine Rn.istore (lv' := [some (.ref 0), some (.int 8), some (.int y), some (.int (nI N)), some (.int 0), none, none]) dX11_tried_33 (by decide) rfl ?_
          refine Rn.iload dX11_tried_35 rfl ?_
          refine Rn.if_eq dX11_tried_37 (fun e2 => ?_) (fun e2 => ?_)
          · skip
            refine Rn.iload_n dX11_tried_44 rfl ?_
            refine Rn.bipushv (v := 6) dX11_tried_45 bp_6 ?_
            refine Rn.isub dX11_tried_47 ?_
            refine Rn.istore (lv' := [some (.ref 0), some (.int 8), some (.int y), some (.int (nI N)), some (.int 0), some (.int (8 - 6)), none]) dX11_tried_48 (by decide) rfl ?_
            refine Rn.iload dX11_tried_50 rfl ?_
            refine Rn.iconstv (v := 3) dX11_tried_52 ic_3 ?_
            show Rn G l mX11_tried (6, 0, 0, false) 53 [some (.ref 0), some (.int 8), some (.int y), some (.int (nI N)), some (.int 0), some (.int 2), none] [.int 3, .int 2] ly M Q
            refine Rn.icmp_ne dX11_tried_53 (fun e3 => ?_) (fun e3 => ?_)
            · skip
              refine Rn.iload_n dX11_tried_67 rfl ?_
              refine Rn.if_eq dX11_tried_68 (fun e4 => ?_) (fun e4 => ?_)
              · skip
                subst e4
                refine Rn.aload_n dX11_tried_73 rfl ?_
                refine Rn.iload dX11_tried_74 rfl ?_
                refine Rn.callV1 dX11_tried_76 vX11_299 (xc0 hX) (by decide) rfl (trNow (Q := fun v0 ly0 M0 => v0 = none ∧ ly0 = ly ∧ Tr ly M M0 pl n (pl + 7) nw (fun k => M.1 (pl + 7 + k)) (pl + 18) nu (pl + 21) nv (M.1 75 4) 0 0 (M.1 90) nf (M.1 88) (M.1 89) (vS M.1 75) ∧ quT M M0) (Or.inl rfl) hXS0 hF.1 quX.rf (fun K h u => ⟨rfl, rfl, h, u⟩)) (by decide) ⟨(Nat.le_of_ble_eq_true rfl), (Nat.le_of_ble_eq_true rfl), (Nat.le_of_ble_eq_true rfl)⟩ (fun h => by cases h) (fun v1 ly1 N1 ⟨q1, q2, hT1, hU1⟩ => ?_)
                rw [q1, q2]
                have hXN1 := (hT1.1).xw hX
                have hplN1 : N1.2.2 0 3 = some pl := ((hT1.1).2.2 0 3 (by decide)).trans hpl
                have hnN1 : N1.1 pl 0 = nI n := (congrFun ((hT1.1).p0 hp7) 0).trans hn
                have hw1N1 : N1.1 (pl + 1) 0 = nI nw := (congrFun ((hT1.1).pk hp7 (k := 1) (by decide)) 0).trans hw1
                refine Rn.aload_n dX11_tried_79 rfl ?_
                refine Rn.iload dX11_tried_80 rfl ?_
                refine Rn.iload_n dX11_tried_82 rfl ?_
                refine Rn.callV2 dX11_tried_83 vX11_397 (xc0 hXN1) (by decide) rfl (tX11_change2 (Q := fun v0 ly0 M0 => v0 = none ∧ ly0 = ly ∧ Tr ly M M0 pl n (pl + 7) nw (fun k => M.1 (pl + 7 + k)) (pl + 18) nu (pl + 21) nv (M.1 75 4) 0 0 (M.1 90) nf (M.1 88) (M.1 89) (stgS (vS M.1 75) (lvO 0 (M.1 86) 6))) (w := 0) hXS0 hF hT1 (fun K h => ⟨rfl, rfl, h⟩)) (by decide) ⟨(Nat.le_of_ble_eq_true rfl), (Nat.le_of_ble_eq_true rfl), (Nat.le_of_ble_eq_true rfl)⟩ (fun h => by cases h) (fun v1 ly1 N2 ⟨q1, q2, hT2⟩ => ?_)
                rw [q1, q2]
                have hXN2 := (hT2.1).xw hX
                have hplN2 : N2.2.2 0 3 = some pl := ((hT2.1).2.2 0 3 (by decide)).trans hpl
                have hnN2 : N2.1 pl 0 = nI n := (congrFun ((hT2.1).p0 hp7) 0).trans hn
                have hw1N2 : N2.1 (pl + 1) 0 = nI nw := (congrFun ((hT2.1).pk hp7 (k := 1) (by decide)) 0).trans hw1
                have hQ2 := fun M' hq => (hQ.2 2 0 N (by decide) (by rw [if_neg (by decide)]) hN2 rfl M' hq).2 rfl
                refine Rn.iconstv (v := 0) dX11_tried_86 ic_0 ?_
                refine Rn.istore (lv' := [some (.ref 0), some (.int 8), some (.int 0), some (.int (nI N)), some (.int 0), some (.int 2), some (.int 0)]) dX11_tried_87 (by decide) rfl ?_
                have loop : ∀ (k i : Nat) (N3 : Mm), i + k = N → Tr ly M N3 pl n (pl + 7) nw (fun k => M.1 (pl + 7 + k)) (pl + 18) nu (pl + 21) nv (M.1 75 4) 0 0 (M.1 90) nf (M.1 88) (M.1 89) (itF (fun _ => TG M.1 pl n nw (fun k => M.1 (pl + 7 + k)) (pl + 18) nu (pl + 21) nv (M.1 75 4) 0 0 (M.1 90)) i (stgS (vS M.1 75) (lvO 0 (M.1 86) 6))) → Rn G l mX11_tried (6, 0, 0, false) 89 [some (.ref 0), some (.int 8), some (.int 0), some (.int (nI N)), some (.int 0), some (.int 2), some (.int (nI i))] [] ly N3 Q := by
                  intro k
                  induction k with
                  | zero =>
                    intro i N3 hi hT3
                    refine Rn.iload dX11_tried_89 rfl ?_
                    refine Rn.iload_n dX11_tried_91 rfl ?_
                    refine Rn.icmp_ge dX11_tried_92 (fun hc => ?_) (fun hc => ?_)
                    · skip
                      obtain rfl : i = N := by omega
                      have hXN3 := (hT3.1).xw hX
                      have hplN3 : N3.2.2 0 3 = some pl := ((hT3.1).2.2 0 3 (by decide)).trans hpl
                      have hnN3 : N3.1 pl 0 = nI n := (congrFun ((hT3.1).p0 hp7) 0).trans hn
                      have hw1N3 : N3.1 (pl + 1) 0 = nI nw := (congrFun ((hT3.1).pk hp7 (k := 1) (by decide)) 0).trans hw1
                      refine Rn.iload dX11_tried_108 rfl ?_
                      refine Rn.if_eq dX11_tried_110 (fun e7 => ?_) (fun e7 => ?_)
                      · skip
                        refine Rn.aload_n dX11_tried_133 rfl ?_
                        refine Rn.getR dX11_tried_134 fX11_43 rfl (xc0 hXN3) (show N3.2.2 0 6 = some 92 from (xp0_6 hXN3)) ?_
                        refine Rn.getR dX11_tried_137 fX11_177 rfl (xc92 hXN3) (show N3.2.2 92 6 = some 97 from (xp92_6 hXN3)) ?_
                        refine Rn.aload_n dX11_tried_140 rfl ?_
                        refine Rn.getR dX11_tried_141 fX11_27 rfl (xc0 hXN3) (show N3.2.2 0 3 = some pl from hplN3) ?_
                        refine Rn.getI dX11_tried_144 fX11_209 rfl (pc0 hXN3 hp7) ?_
                        refine Rn.topI (y := nI n) (hnN3) ?_
                        refine Rn.callV1 dX11_tried_147 vX11_245 (xc97 hXN3) (by decide) rfl (trGs hXS0.ok hT3) (by decide) ⟨(Nat.le_of_ble_eq_true rfl), (Nat.le_of_ble_eq_true rfl), (Nat.le_of_ble_eq_true rfl)⟩ (fun h => by cases h) (fun v1 ly1 M1 ⟨q1, q2, q3⟩ => ?_)
                        rw [q1, q2, q3]
                        exact Rn.iret (ty := .int) dX11_tried_150 rfl rfl (hQ2 N3 hT3.1)
                      · skip
                        exact absurd rfl e7
                    · exact absurd (nI_le (a := N) (b := i) (by omega) (by omega)) hc
                  | succ k ih =>
                    intro i N3 hi hT3
                    refine Rn.iload dX11_tried_89 rfl ?_
                    refine Rn.iload_n dX11_tried_91 rfl ?_
                    refine Rn.icmp_ge dX11_tried_92 (fun hc => ?_) (fun hc => ?_)
                    · exact absurd hc (nI_ge (a := i) (b := N) (by omega) (by omega))
                    · skip
                      have hXN3 := (hT3.1).xw hX
                      have hplN3 : N3.2.2 0 3 = some pl := ((hT3.1).2.2 0 3 (by decide)).trans hpl
                      have hnN3 : N3.1 pl 0 = nI n := (congrFun ((hT3.1).p0 hp7) 0).trans hn
                      have hw1N3 : N3.1 (pl + 1) 0 = nI nw := (congrFun ((hT3.1).pk hp7 (k := 1) (by decide)) 0).trans hw1
                      refine Rn.aload_n dX11_tried_95 rfl ?_
                      refine Rn.getR dX11_tried_96 fX11_43 rfl (xc0 hXN3) (show N3.2.2 0 6 = some 92 from (xp0_6 hXN3)) ?_
                      refine Rn.callV0 dX11_tried_99 vX11_251 (xc92 hXN3) (by decide) rfl (trPass (Q := fun v0 ly0 M0 => v0 = none ∧ ly0 = ly ∧ Tr ly M M0 pl n (pl + 7) nw (fun k => M.1 (pl + 7 + k)) (pl + 18) nu (pl + 21) nv (M.1 75 4) 0 0 (M.1 90) nf (M.1 88) (M.1 89) (itF (fun _ => TG M.1 pl n nw (fun k => M.1 (pl + 7 + k)) (pl + 18) nu (pl + 21) nv (M.1 75 4) 0 0 (M.1 90)) (i + 1) (stgS (vS M.1 75) (lvO 0 (M.1 86) 6))) ∧ quT N3 M0) hXS0.ok hT3 (fun K h u => ⟨rfl, rfl, h, u⟩)) (by decide) ⟨(Nat.le_of_ble_eq_true rfl), (Nat.le_of_ble_eq_true rfl), (Nat.le_of_ble_eq_true rfl)⟩ (fun h => by cases h) (fun v1 ly1 N4 ⟨q1, q2, hT4, hU4⟩ => ?_)
                      rw [q1, q2]
                      have hXN4 := (hT4.1).xw hX
                      have hplN4 : N4.2.2 0 3 = some pl := ((hT4.1).2.2 0 3 (by decide)).trans hpl
                      have hnN4 : N4.1 pl 0 = nI n := (congrFun ((hT4.1).p0 hp7) 0).trans hn
                      have hw1N4 : N4.1 (pl + 1) 0 = nI nw := (congrFun ((hT4.1).pk hp7 (k := 1) (by decide)) 0).trans hw1
                      refine Rn.iincN (lv' := [some (.ref 0), some (.int 8), some (.int 0), some (.int (nI N)), some (.int 0), some (.int 2), some (.int (nI (i + 1)))]) dX11_tried_102 rfl (by decide) rfl ?_
                      refine Rn.goto dX11_tried_105 ?_
                      exact ih (i + 1) N4 (by omega) hT4
                exact loop N 0 N2 (by omega) hT2
              · skip
                refine Rn.iconstv (v := -1) dX11_tried_71 ic_m1 ?_
                exact Rn.iret (ty := .int) dX11_tried_72 rfl rfl (hQ.1 (fun h => e4 (by have h2 := h.2.2; rw [if_neg (by decide)] at h2; exact h2)))
            · skip
              exact absurd e3 (by decide)
          · skip
            exact absurd (by decide) e2
        · skip
          exact absurd (by decide) e1
      · skip
        show Rn G l mX11_tried (6, 0, 0, false) 22 [some (.ref 0), some (.int 9), some (.int y), some (.int (nI N)), none, none, none] [] ly M Q
        refine Rn.iload_n dX11_tried_22 rfl ?_
        refine Rn.bipushv (v := 6) dX11_tried_23 bp_6 ?_
        refine Rn.icmp_ge dX11_tried_25 (fun e1 => ?_) (fun e1 => ?_)
        · skip
          refine Rn.iconstv (v := 0) dX11_tried_32 ic_0 ?_
          refine Rn.istore (lv' := [some (.ref 0), some (.int 9), some (.int y), some (.int (nI N)), some (.int 0), none, none]) dX11_tried_33 (by decide) rfl ?_
          refine Rn.iload dX11_tried_35 rfl ?_
          refine Rn.if_eq dX11_tried_37 (fun e2 => ?_) (fun e2 => ?_)
          · skip
            refine Rn.iload_n dX11_tried_44 rfl ?_
            refine Rn.bipushv (v := 6) dX11_tried_45 bp_6 ?_
            refine Rn.isub dX11_tried_47 ?_
            refine Rn.istore (lv' := [some (.ref 0), some (.int 9), some (.int y), some (.int (nI N)), some (.int 0), some (.int (9 - 6)), none]) dX11_tried_48 (by decide) rfl ?_
            refine Rn.iload dX11_tried_50 rfl ?_
            refine Rn.iconstv (v := 3) dX11_tried_52 ic_3 ?_
            show Rn G l mX11_tried (6, 0, 0, false) 53 [some (.ref 0), some (.int 9), some (.int y), some (.int (nI N)), some (.int 0), some (.int 3), none] [.int 3, .int 3] ly M Q
            refine Rn.icmp_ne dX11_tried_53 (fun e3 => ?_) (fun e3 => ?_)
            · skip
              exact absurd rfl e3
            · skip
              refine Rn.aload_n dX11_tried_56 rfl ?_
              refine Rn.iload_n dX11_tried_57 rfl ?_
              refine Rn.callV1 dX11_tried_58 vX11_125 (xc0 hX) (by decide) rfl (tX11_isWalker hX hpl hp7) (by decide) ⟨(Nat.le_of_ble_eq_true rfl), (Nat.le_of_ble_eq_true rfl), (Nat.le_of_ble_eq_true rfl)⟩ (fun h => by cases h) (fun v1 ly1 M1 ⟨q1, q2, q3⟩ => ?_)
              rw [q1, q2, q3]
              refine Rn.topI (y := inN y (nI nw)) (by rw [hw1]) ?_
              refine Rn.if_ne dX11_tried_61 (fun e4 => ?_) (fun e4 => ?_)
              · skip
                obtain ⟨w, hw, rfl⟩ : ∃ j : Nat, j < nw ∧ y = nI j := (inN_1 (x := y) (k := nw) (lt31 hw6)).elim (fun k => absurd k.1 e4) (fun k => k.2)
                refine Rn.aload_n dX11_tried_73 rfl ?_
                refine Rn.iload dX11_tried_74 rfl ?_
                refine Rn.callV1 dX11_tried_76 vX11_299 (xc0 hX) (by decide) rfl (trNow (Q := fun v0 ly0 M0 => v0 = none ∧ ly0 = ly ∧ Tr ly M M0 pl n (pl + 7) nw (fun k => M.1 (pl + 7 + k)) (pl + 18) nu (pl + 21) nv (M.1 75 4) 0 0 (M.1 90) nf (M.1 88) (M.1 89) (vS M.1 75) ∧ quT M M0) (Or.inl rfl) hXS0 hF.1 quX.rf (fun K h u => ⟨rfl, rfl, h, u⟩)) (by decide) ⟨(Nat.le_of_ble_eq_true rfl), (Nat.le_of_ble_eq_true rfl), (Nat.le_of_ble_eq_true rfl)⟩ (fun h => by cases h) (fun v1 ly1 N1 ⟨q1, q2, hT1, hU1⟩ => ?_)
                rw [q1, q2]
                have hXN1 := (hT1.1).xw hX
                have hplN1 : N1.2.2 0 3 = some pl := ((hT1.1).2.2 0 3 (by decide)).trans hpl
                have hnN1 : N1.1 pl 0 = nI n := (congrFun ((hT1.1).p0 hp7) 0).trans hn
                have hw1N1 : N1.1 (pl + 1) 0 = nI nw := (congrFun ((hT1.1).pk hp7 (k := 1) (by decide)) 0).trans hw1
                refine Rn.aload_n dX11_tried_79 rfl ?_
                refine Rn.iload dX11_tried_80 rfl ?_
                refine Rn.iload_n dX11_tried_82 rfl ?_
                refine Rn.callV2 dX11_tried_83 vX11_397 (xc0 hXN1) (by decide) rfl (tX11_change3 (Q := fun v0 ly0 M0 => v0 = none ∧ ly0 = ly ∧ Tr ly M M0 pl n (pl + 7) nw (fun k => M.1 (pl + 7 + k)) (pl + 18) nu (pl + 21) nv (M.1 75 4) 0 0 (M.1 90) nf (M.1 88) (M.1 89) (stgS (vS M.1 75) (upd (M.1 86) w 2))) (w := w) (y := 0) (by omega) hXS0 hF hT1 (fun K h => ⟨rfl, rfl, h⟩)) (by decide) ⟨(Nat.le_of_ble_eq_true rfl), (Nat.le_of_ble_eq_true rfl), (Nat.le_of_ble_eq_true rfl)⟩ (fun h => by cases h) (fun v1 ly1 N2 ⟨q1, q2, hT2⟩ => ?_)
                rw [q1, q2]
                have hXN2 := (hT2.1).xw hX
                have hplN2 : N2.2.2 0 3 = some pl := ((hT2.1).2.2 0 3 (by decide)).trans hpl
                have hnN2 : N2.1 pl 0 = nI n := (congrFun ((hT2.1).p0 hp7) 0).trans hn
                have hw1N2 : N2.1 (pl + 1) 0 = nI nw := (congrFun ((hT2.1).pk hp7 (k := 1) (by decide)) 0).trans hw1
                have hQ2 := fun M' hq => (hQ.2 3 w N (by decide) (by rw [if_pos (by decide)]; exact ⟨hw, rfl⟩) hN2 rfl M' hq).2 rfl
                refine Rn.iconstv (v := 0) dX11_tried_86 ic_0 ?_
                refine Rn.istore (lv' := [some (.ref 0), some (.int 9), some (.int (nI w)), some (.int (nI N)), some (.int 0), some (.int 3), some (.int 0)]) dX11_tried_87 (by decide) rfl ?_
                have loop : ∀ (k i : Nat) (N3 : Mm), i + k = N → Tr ly M N3 pl n (pl + 7) nw (fun k => M.1 (pl + 7 + k)) (pl + 18) nu (pl + 21) nv (M.1 75 4) 0 0 (M.1 90) nf (M.1 88) (M.1 89) (itF (fun _ => TG M.1 pl n nw (fun k => M.1 (pl + 7 + k)) (pl + 18) nu (pl + 21) nv (M.1 75 4) 0 0 (M.1 90)) i (stgS (vS M.1 75) (upd (M.1 86) w 2))) → Rn G l mX11_tried (6, 0, 0, false) 89 [some (.ref 0), some (.int 9), some (.int (nI w)), some (.int (nI N)), some (.int 0), some (.int 3), some (.int (nI i))] [] ly N3 Q := by
                  intro k
                  induction k with
                  | zero =>
                    intro i N3 hi hT3
                    refine Rn.iload dX11_tried_89 rfl ?_
                    refine Rn.iload_n dX11_tried_91 rfl ?_
                    refine Rn.icmp_ge dX11_tried_92 (fun hc => ?_) (fun hc => ?_)
                    · skip
                      obtain rfl : i = N := by omega
                      have hXN3 := (hT3.1).xw hX
                      have hplN3 : N3.2.2 0 3 = some pl := ((hT3.1).2.2 0 3 (by decide)).trans hpl
                      have hnN3 : N3.1 pl 0 = nI n := (congrFun ((hT3.1).p0 hp7) 0).trans hn
                      have hw1N3 : N3.1 (pl + 1) 0 = nI nw := (congrFun ((hT3.1).pk hp7 (k := 1) (by decide)) 0).trans hw1
                      refine Rn.iload dX11_tried_108 rfl ?_
                      refine Rn.if_eq dX11_tried_110 (fun e7 => ?_) (fun e7 => ?_)
                      · skip
                        refine Rn.aload_n dX11_tried_133 rfl ?_
                        refine Rn.getR dX11_tried_134 fX11_43 rfl (xc0 hXN3) (show N3.2.2 0 6 = some 92 from (xp0_6 hXN3)) ?_
                        refine Rn.getR dX11_tried_137 fX11_177 rfl (xc92 hXN3) (show N3.2.2 92 6 = some 97 from (xp92_6 hXN3)) ?_
                        refine Rn.aload_n dX11_tried_140 rfl ?_
                        refine Rn.getR dX11_tried_141 fX11_27 rfl (xc0 hXN3) (show N3.2.2 0 3 = some pl from hplN3) ?_
                        refine Rn.getI dX11_tried_144 fX11_209 rfl (pc0 hXN3 hp7) ?_
                        refine Rn.topI (y := nI n) (hnN3) ?_
                        refine Rn.callV1 dX11_tried_147 vX11_245 (xc97 hXN3) (by decide) rfl (trGs hXS0.ok hT3) (by decide) ⟨(Nat.le_of_ble_eq_true rfl), (Nat.le_of_ble_eq_true rfl), (Nat.le_of_ble_eq_true rfl)⟩ (fun h => by cases h) (fun v1 ly1 M1 ⟨q1, q2, q3⟩ => ?_)
                        rw [q1, q2, q3]
                        exact Rn.iret (ty := .int) dX11_tried_150 rfl rfl (hQ2 N3 hT3.1)
                      · skip
                        exact absurd rfl e7
                    · exact absurd (nI_le (a := N) (b := i) (by omega) (by omega)) hc
                  | succ k ih =>
                    intro i N3 hi hT3
                    refine Rn.iload dX11_tried_89 rfl ?_
                    refine Rn.iload_n dX11_tried_91 rfl ?_
                    refine Rn.icmp_ge dX11_tried_92 (fun hc => ?_) (fun hc => ?_)
                    · exact absurd hc (nI_ge (a := i) (b := N) (by omega) (by omega))
                    · skip
                      have hXN3 := (hT3.1).xw hX
                      have hplN3 : N3.2.2 0 3 = some pl := ((hT3.1).2.2 0 3 (by decide)).trans hpl
                      have hnN3 : N3.1 pl 0 = nI n := (congrFun ((hT3.1).p0 hp7) 0).trans hn
                      have hw1N3 : N3.1 (pl + 1) 0 = nI nw := (congrFun ((hT3.1).pk hp7 (k := 1) (by decide)) 0).trans hw1
                      refine Rn.aload_n dX11_tried_95 rfl ?_
                      refine Rn.getR dX11_tried_96 fX11_43 rfl (xc0 hXN3) (show N3.2.2 0 6 = some 92 from (xp0_6 hXN3)) ?_
                      refine Rn.callV0 dX11_tried_99 vX11_251 (xc92 hXN3) (by decide) rfl (trPass (Q := fun v0 ly0 M0 => v0 = none ∧ ly0 = ly ∧ Tr ly M M0 pl n (pl + 7) nw (fun k => M.1 (pl + 7 + k)) (pl + 18) nu (pl + 21) nv (M.1 75 4) 0 0 (M.1 90) nf (M.1 88) (M.1 89) (itF (fun _ => TG M.1 pl n nw (fun k => M.1 (pl + 7 + k)) (pl + 18) nu (pl + 21) nv (M.1 75 4) 0 0 (M.1 90)) (i + 1) (stgS (vS M.1 75) (upd (M.1 86) w 2))) ∧ quT N3 M0) hXS0.ok hT3 (fun K h u => ⟨rfl, rfl, h, u⟩)) (by decide) ⟨(Nat.le_of_ble_eq_true rfl), (Nat.le_of_ble_eq_true rfl), (Nat.le_of_ble_eq_true rfl)⟩ (fun h => by cases h) (fun v1 ly1 N4 ⟨q1, q2, hT4, hU4⟩ => ?_)
                      rw [q1, q2]
                      have hXN4 := (hT4.1).xw hX
                      have hplN4 : N4.2.2 0 3 = some pl := ((hT4.1).2.2 0 3 (by decide)).trans hpl
                      have hnN4 : N4.1 pl 0 = nI n := (congrFun ((hT4.1).p0 hp7) 0).trans hn
                      have hw1N4 : N4.1 (pl + 1) 0 = nI nw := (congrFun ((hT4.1).pk hp7 (k := 1) (by decide)) 0).trans hw1
                      refine Rn.iincN (lv' := [some (.ref 0), some (.int 9), some (.int (nI w)), some (.int (nI N)), some (.int 0), some (.int 3), some (.int (nI (i + 1)))]) dX11_tried_102 rfl (by decide) rfl ?_
                      refine Rn.goto dX11_tried_105 ?_
                      exact ih (i + 1) N4 (by omega) hT4
                exact loop N 0 N2 (by omega) hT2
              · skip
                refine Rn.goto dX11_tried_64 ?_
                refine Rn.iconstv (v := -1) dX11_tried_71 ic_m1 ?_
                exact Rn.iret (ty := .int) dX11_tried_72 rfl rfl (hQ.1 (fun h => (inN_1 (x := y) (k := nw) (lt31 hw6)).elim (fun k => k.2 (by have h2 := h.2.2; rw [if_pos (by decide)] at h2; exact h2)) (fun k => absurd (k.1.symm.trans e4) (by decide))))
          · skip
            exact absurd (by decide) e2
        · skip
          exact absurd (by decide) e1
      · skip
        show Rn G l mX11_tried (6, 0, 0, false) 22 [some (.ref 0), some (.int 10), some (.int y), some (.int (nI N)), none, none, none] [] ly M Q
        refine Rn.iload_n dX11_tried_22 rfl ?_
        refine Rn.bipushv (v := 6) dX11_tried_23 bp_6 ?_
        refine Rn.icmp_ge dX11_tried_25 (fun e1 => ?_) (fun e1 => ?_)
        · skip
          refine Rn.iconstv (v := 0) dX11_tried_32 ic_0 ?_
          refine Rn.istore (lv' := [some (.ref 0), some (.int 10), some (.int y), some (.int (nI N)), some (.int 0), none, none]) dX11_tried_33 (by decide) rfl ?_
          refine Rn.iload dX11_tried_35 rfl ?_
          refine Rn.if_eq dX11_tried_37 (fun e2 => ?_) (fun e2 => ?_)
          · skip
            refine Rn.iload_n dX11_tried_44 rfl ?_
            refine Rn.bipushv (v := 6) dX11_tried_45 bp_6 ?_
            refine Rn.isub dX11_tried_47 ?_
            refine Rn.istore (lv' := [some (.ref 0), some (.int 10), some (.int y), some (.int (nI N)), some (.int 0), some (.int (10 - 6)), none]) dX11_tried_48 (by decide) rfl ?_
            refine Rn.iload dX11_tried_50 rfl ?_
            refine Rn.iconstv (v := 3) dX11_tried_52 ic_3 ?_
            show Rn G l mX11_tried (6, 0, 0, false) 53 [some (.ref 0), some (.int 10), some (.int y), some (.int (nI N)), some (.int 0), some (.int 4), none] [.int 3, .int 4] ly M Q
            refine Rn.icmp_ne dX11_tried_53 (fun e3 => ?_) (fun e3 => ?_)
            · skip
              refine Rn.iload_n dX11_tried_67 rfl ?_
              refine Rn.if_eq dX11_tried_68 (fun e4 => ?_) (fun e4 => ?_)
              · skip
                subst e4
                refine Rn.aload_n dX11_tried_73 rfl ?_
                refine Rn.iload dX11_tried_74 rfl ?_
                refine Rn.callV1 dX11_tried_76 vX11_299 (xc0 hX) (by decide) rfl (trNow (Q := fun v0 ly0 M0 => v0 = none ∧ ly0 = ly ∧ Tr ly M M0 pl n (pl + 7) nw (fun k => M.1 (pl + 7 + k)) (pl + 18) nu (pl + 21) nv (M.1 75 4) 0 0 (M.1 90) nf (M.1 88) (M.1 89) (vS M.1 75) ∧ quT M M0) (Or.inl rfl) hXS0 hF.1 quX.rf (fun K h u => ⟨rfl, rfl, h, u⟩)) (by decide) ⟨(Nat.le_of_ble_eq_true rfl), (Nat.le_of_ble_eq_true rfl), (Nat.le_of_ble_eq_true rfl)⟩ (fun h => by cases h) (fun v1 ly1 N1 ⟨q1, q2, hT1, hU1⟩ => ?_)
                rw [q1, q2]
                have hXN1 := (hT1.1).xw hX
                have hplN1 : N1.2.2 0 3 = some pl := ((hT1.1).2.2 0 3 (by decide)).trans hpl
                have hnN1 : N1.1 pl 0 = nI n := (congrFun ((hT1.1).p0 hp7) 0).trans hn
                have hw1N1 : N1.1 (pl + 1) 0 = nI nw := (congrFun ((hT1.1).pk hp7 (k := 1) (by decide)) 0).trans hw1
                refine Rn.aload_n dX11_tried_79 rfl ?_
                refine Rn.iload dX11_tried_80 rfl ?_
                refine Rn.iload_n dX11_tried_82 rfl ?_
                refine Rn.callV2 dX11_tried_83 vX11_397 (xc0 hXN1) (by decide) rfl (tX11_change4 (Q := fun v0 ly0 M0 => v0 = none ∧ ly0 = ly ∧ Tr ly M M0 pl n (pl + 7) nw (fun k => M.1 (pl + 7 + k)) (pl + 18) nu (pl + 21) nv (M.1 75 4) 1 0 (M.1 90) nf (M.1 88) (M.1 89) (vS M.1 75)) (w := 0) hXS0 hF hT1 (fun K h => ⟨rfl, rfl, h⟩)) (by decide) ⟨(Nat.le_of_ble_eq_true rfl), (Nat.le_of_ble_eq_true rfl), (Nat.le_of_ble_eq_true rfl)⟩ (fun h => by cases h) (fun v1 ly1 N2 ⟨q1, q2, hT2⟩ => ?_)
                rw [q1, q2]
                have hXN2 := (hT2.1).xw hX
                have hplN2 : N2.2.2 0 3 = some pl := ((hT2.1).2.2 0 3 (by decide)).trans hpl
                have hnN2 : N2.1 pl 0 = nI n := (congrFun ((hT2.1).p0 hp7) 0).trans hn
                have hw1N2 : N2.1 (pl + 1) 0 = nI nw := (congrFun ((hT2.1).pk hp7 (k := 1) (by decide)) 0).trans hw1
                have hQ2 := fun M' hq => (hQ.2 4 0 N (by decide) (by rw [if_neg (by decide)]) hN2 rfl M' hq).2 rfl
                refine Rn.iconstv (v := 0) dX11_tried_86 ic_0 ?_
                refine Rn.istore (lv' := [some (.ref 0), some (.int 10), some (.int 0), some (.int (nI N)), some (.int 0), some (.int 4), some (.int 0)]) dX11_tried_87 (by decide) rfl ?_
                have loop : ∀ (k i : Nat) (N3 : Mm), i + k = N → Tr ly M N3 pl n (pl + 7) nw (fun k => M.1 (pl + 7 + k)) (pl + 18) nu (pl + 21) nv (M.1 75 4) 1 0 (M.1 90) nf (M.1 88) (M.1 89) (itF (fun _ => TG M.1 pl n nw (fun k => M.1 (pl + 7 + k)) (pl + 18) nu (pl + 21) nv (M.1 75 4) 1 0 (M.1 90)) i (vS M.1 75)) → Rn G l mX11_tried (6, 0, 0, false) 89 [some (.ref 0), some (.int 10), some (.int 0), some (.int (nI N)), some (.int 0), some (.int 4), some (.int (nI i))] [] ly N3 Q := by
                  intro k
                  induction k with
                  | zero =>
                    intro i N3 hi hT3
                    refine Rn.iload dX11_tried_89 rfl ?_
                    refine Rn.iload_n dX11_tried_91 rfl ?_
                    refine Rn.icmp_ge dX11_tried_92 (fun hc => ?_) (fun hc => ?_)
                    · skip
                      obtain rfl : i = N := by omega
                      have hXN3 := (hT3.1).xw hX
                      have hplN3 : N3.2.2 0 3 = some pl := ((hT3.1).2.2 0 3 (by decide)).trans hpl
                      have hnN3 : N3.1 pl 0 = nI n := (congrFun ((hT3.1).p0 hp7) 0).trans hn
                      have hw1N3 : N3.1 (pl + 1) 0 = nI nw := (congrFun ((hT3.1).pk hp7 (k := 1) (by decide)) 0).trans hw1
                      refine Rn.iload dX11_tried_108 rfl ?_
                      refine Rn.if_eq dX11_tried_110 (fun e7 => ?_) (fun e7 => ?_)
                      · skip
                        refine Rn.aload_n dX11_tried_133 rfl ?_
                        refine Rn.getR dX11_tried_134 fX11_43 rfl (xc0 hXN3) (show N3.2.2 0 6 = some 92 from (xp0_6 hXN3)) ?_
                        refine Rn.getR dX11_tried_137 fX11_177 rfl (xc92 hXN3) (show N3.2.2 92 6 = some 97 from (xp92_6 hXN3)) ?_
                        refine Rn.aload_n dX11_tried_140 rfl ?_
                        refine Rn.getR dX11_tried_141 fX11_27 rfl (xc0 hXN3) (show N3.2.2 0 3 = some pl from hplN3) ?_
                        refine Rn.getI dX11_tried_144 fX11_209 rfl (pc0 hXN3 hp7) ?_
                        refine Rn.topI (y := nI n) (hnN3) ?_
                        refine Rn.callV1 dX11_tried_147 vX11_245 (xc97 hXN3) (by decide) rfl (trGs hXS0.ok hT3) (by decide) ⟨(Nat.le_of_ble_eq_true rfl), (Nat.le_of_ble_eq_true rfl), (Nat.le_of_ble_eq_true rfl)⟩ (fun h => by cases h) (fun v1 ly1 M1 ⟨q1, q2, q3⟩ => ?_)
                        rw [q1, q2, q3]
                        exact Rn.iret (ty := .int) dX11_tried_150 rfl rfl (hQ2 N3 hT3.1)
                      · skip
                        exact absurd rfl e7
                    · exact absurd (nI_le (a := N) (b := i) (by omega) (by omega)) hc
                  | succ k ih =>
                    intro i N3 hi hT3
                    refine Rn.iload dX11_tried_89 rfl ?_
                    refine Rn.iload_n dX11_tried_91 rfl ?_
                    refine Rn.icmp_ge dX11_tried_92 (fun hc => ?_) (fun hc => ?_)
                    · exact absurd hc (nI_ge (a := i) (b := N) (by omega) (by omega))
                    · skip
                      have hXN3 := (hT3.1).xw hX
                      have hplN3 : N3.2.2 0 3 = some pl := ((hT3.1).2.2 0 3 (by decide)).trans hpl
                      have hnN3 : N3.1 pl 0 = nI n := (congrFun ((hT3.1).p0 hp7) 0).trans hn
                      have hw1N3 : N3.1 (pl + 1) 0 = nI nw := (congrFun ((hT3.1).pk hp7 (k := 1) (by decide)) 0).trans hw1
                      refine Rn.aload_n dX11_tried_95 rfl ?_
                      refine Rn.getR dX11_tried_96 fX11_43 rfl (xc0 hXN3) (show N3.2.2 0 6 = some 92 from (xp0_6 hXN3)) ?_
                      refine Rn.callV0 dX11_tried_99 vX11_251 (xc92 hXN3) (by decide) rfl (trPass (Q := fun v0 ly0 M0 => v0 = none ∧ ly0 = ly ∧ Tr ly M M0 pl n (pl + 7) nw (fun k => M.1 (pl + 7 + k)) (pl + 18) nu (pl + 21) nv (M.1 75 4) 1 0 (M.1 90) nf (M.1 88) (M.1 89) (itF (fun _ => TG M.1 pl n nw (fun k => M.1 (pl + 7 + k)) (pl + 18) nu (pl + 21) nv (M.1 75 4) 1 0 (M.1 90)) (i + 1) (vS M.1 75)) ∧ quT N3 M0) hXS0.ok hT3 (fun K h u => ⟨rfl, rfl, h, u⟩)) (by decide) ⟨(Nat.le_of_ble_eq_true rfl), (Nat.le_of_ble_eq_true rfl), (Nat.le_of_ble_eq_true rfl)⟩ (fun h => by cases h) (fun v1 ly1 N4 ⟨q1, q2, hT4, hU4⟩ => ?_)
                      rw [q1, q2]
                      have hXN4 := (hT4.1).xw hX
                      have hplN4 : N4.2.2 0 3 = some pl := ((hT4.1).2.2 0 3 (by decide)).trans hpl
                      have hnN4 : N4.1 pl 0 = nI n := (congrFun ((hT4.1).p0 hp7) 0).trans hn
                      have hw1N4 : N4.1 (pl + 1) 0 = nI nw := (congrFun ((hT4.1).pk hp7 (k := 1) (by decide)) 0).trans hw1
                      refine Rn.iincN (lv' := [some (.ref 0), some (.int 10), some (.int 0), some (.int (nI N)), some (.int 0), some (.int 4), some (.int (nI (i + 1)))]) dX11_tried_102 rfl (by decide) rfl ?_
                      refine Rn.goto dX11_tried_105 ?_
                      exact ih (i + 1) N4 (by omega) hT4
                exact loop N 0 N2 (by omega) hT2
              · skip
                refine Rn.iconstv (v := -1) dX11_tried_71 ic_m1 ?_
                exact Rn.iret (ty := .int) dX11_tried_72 rfl rfl (hQ.1 (fun h => e4 (by have h2 := h.2.2; rw [if_neg (by decide)] at h2; exact h2)))
            · skip
              exact absurd e3 (by decide)
          · skip
            exact absurd (by decide) e2
        · skip
          exact absurd (by decide) e1
      · skip
        show Rn G l mX11_tried (6, 0, 0, false) 22 [some (.ref 0), some (.int 11), some (.int y), some (.int (nI N)), none, none, none] [] ly M Q
        refine Rn.iload_n dX11_tried_22 rfl ?_
        refine Rn.bipushv (v := 6) dX11_tried_23 bp_6 ?_
        refine Rn.icmp_ge dX11_tried_25 (fun e1 => ?_) (fun e1 => ?_)
        · skip
          refine Rn.iconstv (v := 0) dX11_tried_32 ic_0 ?_
          refine Rn.istore (lv' := [some (.ref 0), some (.int 11), some (.int y), some (.int (nI N)), some (.int 0), none, none]) dX11_tried_33 (by decide) rfl ?_
          refine Rn.iload dX11_tried_35 rfl ?_
          refine Rn.if_eq dX11_tried_37 (fun e2 => ?_) (fun e2 => ?_)
          · skip
            refine Rn.iload_n dX11_tried_44 rfl ?_
            refine Rn.bipushv (v := 6) dX11_tried_45 bp_6 ?_
            refine Rn.isub dX11_tried_47 ?_
            refine Rn.istore (lv' := [some (.ref 0), some (.int 11), some (.int y), some (.int (nI N)), some (.int 0), some (.int (11 - 6)), none]) dX11_tried_48 (by decide) rfl ?_
            refine Rn.iload dX11_tried_50 rfl ?_
            refine Rn.iconstv (v := 3) dX11_tried_52 ic_3 ?_
            show Rn G l mX11_tried (6, 0, 0, false) 53 [some (.ref 0), some (.int 11), some (.int y), some (.int (nI N)), some (.int 0), some (.int 5), none] [.int 3, .int 5] ly M Q
            refine Rn.icmp_ne dX11_tried_53 (fun e3 => ?_) (fun e3 => ?_)
            · skip
              refine Rn.iload_n dX11_tried_67 rfl ?_
              refine Rn.if_eq dX11_tried_68 (fun e4 => ?_) (fun e4 => ?_)
              · skip
                subst e4
                refine Rn.aload_n dX11_tried_73 rfl ?_
                refine Rn.iload dX11_tried_74 rfl ?_
                refine Rn.callV1 dX11_tried_76 vX11_299 (xc0 hX) (by decide) rfl (trNow (Q := fun v0 ly0 M0 => v0 = none ∧ ly0 = ly ∧ Tr ly M M0 pl n (pl + 7) nw (fun k => M.1 (pl + 7 + k)) (pl + 18) nu (pl + 21) nv (M.1 75 4) 0 0 (M.1 90) nf (M.1 88) (M.1 89) (vS M.1 75) ∧ quT M M0) (Or.inl rfl) hXS0 hF.1 quX.rf (fun K h u => ⟨rfl, rfl, h, u⟩)) (by decide) ⟨(Nat.le_of_ble_eq_true rfl), (Nat.le_of_ble_eq_true rfl), (Nat.le_of_ble_eq_true rfl)⟩ (fun h => by cases h) (fun v1 ly1 N1 ⟨q1, q2, hT1, hU1⟩ => ?_)
                rw [q1, q2]
                have hXN1 := (hT1.1).xw hX
                have hplN1 : N1.2.2 0 3 = some pl := ((hT1.1).2.2 0 3 (by decide)).trans hpl
                have hnN1 : N1.1 pl 0 = nI n := (congrFun ((hT1.1).p0 hp7) 0).trans hn
                have hw1N1 : N1.1 (pl + 1) 0 = nI nw := (congrFun ((hT1.1).pk hp7 (k := 1) (by decide)) 0).trans hw1
                refine Rn.aload_n dX11_tried_79 rfl ?_
                refine Rn.iload dX11_tried_80 rfl ?_
                refine Rn.iload_n dX11_tried_82 rfl ?_
                refine Rn.callV2 dX11_tried_83 vX11_397 (xc0 hXN1) (by decide) rfl (tX11_change5 (Q := fun v0 ly0 M0 => v0 = none ∧ ly0 = ly ∧ Tr ly M M0 pl n (pl + 7) nw (fun k => M.1 (pl + 7 + k)) (pl + 18) nu 144 0 (M.1 75 4) 0 0 (M.1 90) nf (M.1 88) (M.1 89) (vS M.1 75)) (w := 0) hXS0 hF hT1 (fun K h => ⟨rfl, rfl, h⟩)) (by decide) ⟨(Nat.le_of_ble_eq_true rfl), (Nat.le_of_ble_eq_true rfl), (Nat.le_of_ble_eq_true rfl)⟩ (fun h => by cases h) (fun v1 ly1 N2 ⟨q1, q2, hT2⟩ => ?_)
                rw [q1, q2]
                have hXN2 := (hT2.1).xw hX
                have hplN2 : N2.2.2 0 3 = some pl := ((hT2.1).2.2 0 3 (by decide)).trans hpl
                have hnN2 : N2.1 pl 0 = nI n := (congrFun ((hT2.1).p0 hp7) 0).trans hn
                have hw1N2 : N2.1 (pl + 1) 0 = nI nw := (congrFun ((hT2.1).pk hp7 (k := 1) (by decide)) 0).trans hw1
                have hok : okT ly M pl n (pl + 7) nw (pl + 18) nu 144 0 := ⟨hX, hp7, ⟨hn, hn12⟩, Or.inl rfl, hw6, Or.inl rfl, ⟨hu1, hu2⟩, Or.inr rfl, ⟨hno, by decide⟩, hgl⟩
                have hQ2 := fun M' hq => (hQ.2 5 0 N (by decide) (by rw [if_neg (by decide)]) hN2 rfl M' hq).2 rfl
                refine Rn.iconstv (v := 0) dX11_tried_86 ic_0 ?_
                refine Rn.istore (lv' := [some (.ref 0), some (.int 11), some (.int 0), some (.int (nI N)), some (.int 0), some (.int 5), some (.int 0)]) dX11_tried_87 (by decide) rfl ?_
                have loop : ∀ (k i : Nat) (N3 : Mm), i + k = N → Tr ly M N3 pl n (pl + 7) nw (fun k => M.1 (pl + 7 + k)) (pl + 18) nu 144 0 (M.1 75 4) 0 0 (M.1 90) nf (M.1 88) (M.1 89) (itF (fun _ => TG M.1 pl n nw (fun k => M.1 (pl + 7 + k)) (pl + 18) nu 144 0 (M.1 75 4) 0 0 (M.1 90)) i (vS M.1 75)) → Rn G l mX11_tried (6, 0, 0, false) 89 [some (.ref 0), some (.int 11), some (.int 0), some (.int (nI N)), some (.int 0), some (.int 5), some (.int (nI i))] [] ly N3 Q := by
                  intro k
                  induction k with
                  | zero =>
                    intro i N3 hi hT3
                    refine Rn.iload dX11_tried_89 rfl ?_
                    refine Rn.iload_n dX11_tried_91 rfl ?_
                    refine Rn.icmp_ge dX11_tried_92 (fun hc => ?_) (fun hc => ?_)
                    · skip
                      obtain rfl : i = N := by omega
                      have hXN3 := (hT3.1).xw hX
                      have hplN3 : N3.2.2 0 3 = some pl := ((hT3.1).2.2 0 3 (by decide)).trans hpl
                      have hnN3 : N3.1 pl 0 = nI n := (congrFun ((hT3.1).p0 hp7) 0).trans hn
                      have hw1N3 : N3.1 (pl + 1) 0 = nI nw := (congrFun ((hT3.1).pk hp7 (k := 1) (by decide)) 0).trans hw1
                      refine Rn.iload dX11_tried_108 rfl ?_
                      refine Rn.if_eq dX11_tried_110 (fun e7 => ?_) (fun e7 => ?_)
                      · skip
                        refine Rn.aload_n dX11_tried_133 rfl ?_
                        refine Rn.getR dX11_tried_134 fX11_43 rfl (xc0 hXN3) (show N3.2.2 0 6 = some 92 from (xp0_6 hXN3)) ?_
                        refine Rn.getR dX11_tried_137 fX11_177 rfl (xc92 hXN3) (show N3.2.2 92 6 = some 97 from (xp92_6 hXN3)) ?_
                        refine Rn.aload_n dX11_tried_140 rfl ?_
                        refine Rn.getR dX11_tried_141 fX11_27 rfl (xc0 hXN3) (show N3.2.2 0 3 = some pl from hplN3) ?_
                        refine Rn.getI dX11_tried_144 fX11_209 rfl (pc0 hXN3 hp7) ?_
                        refine Rn.topI (y := nI n) (hnN3) ?_
                        refine Rn.callV1 dX11_tried_147 vX11_245 (xc97 hXN3) (by decide) rfl (trGs hok hT3) (by decide) ⟨(Nat.le_of_ble_eq_true rfl), (Nat.le_of_ble_eq_true rfl), (Nat.le_of_ble_eq_true rfl)⟩ (fun h => by cases h) (fun v1 ly1 M1 ⟨q1, q2, q3⟩ => ?_)
                        rw [q1, q2, q3]
                        exact Rn.iret (ty := .int) dX11_tried_150 rfl rfl (hQ2 N3 hT3.1)
                      · skip
                        exact absurd rfl e7
                    · exact absurd (nI_le (a := N) (b := i) (by omega) (by omega)) hc
                  | succ k ih =>
                    intro i N3 hi hT3
                    refine Rn.iload dX11_tried_89 rfl ?_
                    refine Rn.iload_n dX11_tried_91 rfl ?_
                    refine Rn.icmp_ge dX11_tried_92 (fun hc => ?_) (fun hc => ?_)
                    · exact absurd hc (nI_ge (a := i) (b := N) (by omega) (by omega))
                    · skip
                      have hXN3 := (hT3.1).xw hX
                      have hplN3 : N3.2.2 0 3 = some pl := ((hT3.1).2.2 0 3 (by decide)).trans hpl
                      have hnN3 : N3.1 pl 0 = nI n := (congrFun ((hT3.1).p0 hp7) 0).trans hn
                      have hw1N3 : N3.1 (pl + 1) 0 = nI nw := (congrFun ((hT3.1).pk hp7 (k := 1) (by decide)) 0).trans hw1
                      refine Rn.aload_n dX11_tried_95 rfl ?_
                      refine Rn.getR dX11_tried_96 fX11_43 rfl (xc0 hXN3) (show N3.2.2 0 6 = some 92 from (xp0_6 hXN3)) ?_
                      refine Rn.callV0 dX11_tried_99 vX11_251 (xc92 hXN3) (by decide) rfl (trPass (Q := fun v0 ly0 M0 => v0 = none ∧ ly0 = ly ∧ Tr ly M M0 pl n (pl + 7) nw (fun k => M.1 (pl + 7 + k)) (pl + 18) nu 144 0 (M.1 75 4) 0 0 (M.1 90) nf (M.1 88) (M.1 89) (itF (fun _ => TG M.1 pl n nw (fun k => M.1 (pl + 7 + k)) (pl + 18) nu 144 0 (M.1 75 4) 0 0 (M.1 90)) (i + 1) (vS M.1 75)) ∧ quT N3 M0) hok hT3 (fun K h u => ⟨rfl, rfl, h, u⟩)) (by decide) ⟨(Nat.le_of_ble_eq_true rfl), (Nat.le_of_ble_eq_true rfl), (Nat.le_of_ble_eq_true rfl)⟩ (fun h => by cases h) (fun v1 ly1 N4 ⟨q1, q2, hT4, hU4⟩ => ?_)
                      rw [q1, q2]
                      have hXN4 := (hT4.1).xw hX
                      have hplN4 : N4.2.2 0 3 = some pl := ((hT4.1).2.2 0 3 (by decide)).trans hpl
                      have hnN4 : N4.1 pl 0 = nI n := (congrFun ((hT4.1).p0 hp7) 0).trans hn
                      have hw1N4 : N4.1 (pl + 1) 0 = nI nw := (congrFun ((hT4.1).pk hp7 (k := 1) (by decide)) 0).trans hw1
                      refine Rn.iincN (lv' := [some (.ref 0), some (.int 11), some (.int 0), some (.int (nI N)), some (.int 0), some (.int 5), some (.int (nI (i + 1)))]) dX11_tried_102 rfl (by decide) rfl ?_
                      refine Rn.goto dX11_tried_105 ?_
                      exact ih (i + 1) N4 (by omega) hT4
                exact loop N 0 N2 (by omega) hT2
              · skip
                refine Rn.iconstv (v := -1) dX11_tried_71 ic_m1 ?_
                exact Rn.iret (ty := .int) dX11_tried_72 rfl rfl (hQ.1 (fun h => e4 (by have h2 := h.2.2; rw [if_neg (by decide)] at h2; exact h2)))
            · skip
              exact absurd e3 (by decide)
          · skip
            exact absurd (by decide) e2
        · skip
          exact absurd (by decide) e1
    · skip
      refine Rn.iconstv (v := -1) dX11_tried_20 ic_m1 ?_
      exact Rn.iret (ty := .int) dX11_tried_21 rfl rfl (hQ.1 (fun h => inR_1.elim (fun k => k.2 h.2.1) (fun k => absurd (k.1.symm.trans g2) (by decide))))
