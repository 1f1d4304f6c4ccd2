theorem sh0 {f g : Nat → Int32} {k c : Nat} (h : eqN k (sh (12 * 0) f) g) (hc : c < k) : f c = g c := by
  have e := h c hc
  unfold sh at e
  rwa [Nat.mul_zero, Nat.zero_add] at e
/-- what is told of a cell -/
def celR (s : Sc) (ca : Nat → Int32) (nw c : Nat) (y : Int32) : Int32 := if y = 0 then s.1 c else if y = 1 then s.2.1 c else if y = 2 then s.2.2.1 c else if y = 3 then s.2.2.2.1 c else if y = 4 then ca c else if y = 5 then (s.2.2.2.2.2.1 >>> (nI c &&& 31)) &&& 1 else if y = 6 then wkA s.2.2.2.2.1.2.2.1 s.2.2.2.2.1.1 (nI c) nw else -2147483648
theorem wk1.cn {t : Nat} {ra rs rg ca cs cg : Int32} {c : Nat} (h : wk1 t ra rs rg ca cs cg) (hc : c < 12) : (if ra = nI c then (1 : Int32) else 0) = if cg = 1 then (if ca = nI c then 1 else 0) else 0 := by
  rw [h.2.2.1]
  by_cases e : cg = 1
  · rw [if_pos e, if_pos e]
  · rw [if_neg e, if_neg e, if_neg (fun e2 => nI_pos (n := c) (by omega) (by rw [← e2]; decide))]
theorem tX12_was {G : Gx} {l : Launch} {ly : Ly} {M : Mm} {x : Int32} {n nw t nf : Nat} {p : P4} {h0 c0 : Int32} {W : Wx} {lw : Nat → (Nat → Int32) × Nat} {s : Sc} {fc fk ca : Nat → Int32} (hS : RS M n nw t nf p h0 c0 W lw s fc fk) (hca : cas n nf c0 fc fk ca)  (hR : RW ly M.2.2) {Q : Qt} (hQ : ∀ K, qR M K → Q (some (.int (wasF x (nI t) (M.1 183)))) ly K) : Mt G l mX12_was (0, 0, 0, false) [.ref 149, .int x] ly M Q := by
  refine Mt.of (lv := [some (.ref 149), some (.int x)]) rfl ?_
  unfold wasF at hQ
  refine Rn.aload_n dX12_was_0 rfl ?_
  refine Rn.iconstv (v := 0) dX12_was_1 ic_0 ?_
  refine Rn.putI dX12_was_2 fX12_169 rfl rfl rfl (rc149 hR) ?_
  refine Rn.iload_n dX12_was_5 rfl ?_
  refine Rn.if_lt dX12_was_6 (fun k1 => ?_) (fun k1 => ?_)
  · skip
    rw [if_pos k1] at hQ
    refine Rn.iconstv (v := -1) dX12_was_32 ic_m1 ?_
    refine Rn.goto dX12_was_33 ?_
    exact Rn.iret (ty := .int) dX12_was_45 rfl rfl (hQ _ qR.rf.f0)
  · skip
    rw [if_neg k1] at hQ
    refine Rn.iload_n dX12_was_9 rfl ?_
    refine Rn.aload_n dX12_was_10 rfl ?_
    refine Rn.getR dX12_was_11 fX12_73 rfl (rc149 hR) (show M.2.2 149 35 = some 169 from (rpt35 hR)) ?_
    refine Rn.iconstv (v := 0) dX12_was_14 ic_0 ?_
    refine Rn.iald dX12_was_15 (rc169 hR) (by unfold vp_in; decide) ?_
    refine Rn.topI (y := M.1 169 0) (rfl) ?_
    refine Rn.topI (y := nI t) (hS.2.1.2.2.2.2.2.2.1.1) ?_
    refine Rn.icmp_ge dX12_was_16 (fun k2 => ?_) (fun k2 => ?_)
    · skip
      rw [if_pos k2] at hQ
      refine Rn.iconstv (v := -1) dX12_was_32 ic_m1 ?_
      refine Rn.goto dX12_was_33 ?_
      exact Rn.iret (ty := .int) dX12_was_45 rfl rfl (hQ _ qR.rf.f0)
    · skip
      rw [if_neg k2] at hQ
      refine Rn.iload_n dX12_was_19 rfl ?_
      refine Rn.aload_n dX12_was_20 rfl ?_
      refine Rn.getR dX12_was_21 fX12_73 rfl (rc149 hR) (show M.2.2 149 35 = some 169 from (rpt35 hR)) ?_
      refine Rn.iconstv (v := 0) dX12_was_24 ic_0 ?_
      refine Rn.iald dX12_was_25 (rc169 hR) (by unfold vp_in; decide) ?_
      refine Rn.topI (y := M.1 169 0) (rfl) ?_
      refine Rn.topI (y := nI t) (hS.2.1.2.2.2.2.2.2.1.1) ?_
      refine Rn.bipushv (v := 60) dX12_was_26 bp_60 ?_
      refine Rn.isub dX12_was_28 ?_
      refine Rn.icmp_ge dX12_was_29 (fun k3 => ?_) (fun k3 => ?_)
      · skip
        rw [if_neg (Int32.not_lt.mpr k3)] at hQ
        obtain ⟨k, hk, rfl⟩ := nI_of k1
        rw [fmd60 hk, nI_clamp (by omega)] at hQ
        refine Rn.aload_n dX12_was_36 rfl ?_
        refine Rn.getR dX12_was_37 fX12_116 rfl (rc149 hR) (show M.2.2 149 49 = some 183 from (rpt49 hR)) ?_
        refine Rn.iload_n dX12_was_40 rfl ?_
        refine Rn.bipushv (v := 60) dX12_was_41 bp_60 ?_
        refine Rn.irem dX12_was_43 (by decide) ?_
        refine Rn.topI (y := nI (k % 60)) (i32rem (b := 60) hk (by decide)) ?_
        refine Rn.ialdN (k0 := (k % 60)) dX12_was_44 (rc183 hR) (by omega) (by decide) ?_
        exact Rn.iret (ty := .int) dX12_was_45 rfl rfl (hQ _ qR.rf.f0)
      · skip
        rw [if_pos (Int32.not_le.mp k3)] at hQ
        refine Rn.iconstv (v := -1) dX12_was_32 ic_m1 ?_
        refine Rn.goto dX12_was_33 ?_
        exact Rn.iret (ty := .int) dX12_was_45 rfl rfl (hQ _ qR.rf.f0)
theorem tX12_cell {G : Gx} {l : Launch} {ly : Ly} {M : Mm} {x y : Int32} {n nw t nf : Nat} {p : P4} {h0 c0 : Int32} {W : Wx} {lw : Nat → (Nat → Int32) × Nat} {s : Sc} {fc fk ca : Nat → Int32} (hS : RS M n nw t nf p h0 c0 W lw s fc fk) (hca : cas n nf c0 fc fk ca)  (hR : RW ly M.2.2) {Q : Qt} (hQ : (¬ (∃ j : Nat, j < n ∧ x = nI j) → ∀ K, qR M K → Q (some (.int (-2147483648))) ly K) ∧ (∀ c : Nat, c < n → x = nI c → ∀ K, qR M K → Q (some (.int (celR s ca nw c y))) ly K)) : Mt G l mX12_cell (2, 0, 0, false) [.ref 149, .int x, .int y] ly M Q := by
  refine Mt.of (lv := [some (.ref 149), some (.int x), some (.int y), none, none]) rfl ?_
  refine Rn.aload_n dX12_cell_0 rfl ?_
  refine Rn.iconstv (v := 0) dX12_cell_1 ic_0 ?_
  refine Rn.putI dX12_cell_2 fX12_169 rfl rfl rfl (rc149 hR) ?_
  refine Rn.aload_n dX12_cell_5 rfl ?_
  refine Rn.iload_n dX12_cell_6 rfl ?_
  refine Rn.callV1 dX12_cell_7 vX12_403 (rc149 hR) (by decide) rfl (tX12_isCell (M := sI M 149 (upd (M.1 149) 0 0)) hR) (by decide) ⟨(Nat.le_of_ble_eq_true rfl), (Nat.le_of_ble_eq_true rfl), (Nat.le_of_ble_eq_true rfl)⟩ (fun h => by cases h) (fun v1 ly1 M1 ⟨q1, q2, q3⟩ => ?_)
  rw [q1, q2, q3]
  refine Rn.topI (y := inN x (nI n)) (congrArg (inN x) hS.n.1) ?_
  refine Rn.if_ne dX12_cell_10 (fun g1 => ?_) (fun g1 => ?_)
  · skip
    obtain ⟨c, hc, rfl⟩ : ∃ j : Nat, j < n ∧ x = nI j := (inN_1 (x := x) (k := n) (lt31c hS.n.2)).elim (fun k => absurd k.1 g1) (fun k => k.2)
    have hA := hQ.2 c hc rfl
    clear hQ
    have hn12 := hS.n.2
    have hw6 := hS.w6
    refine Rn.iload_n dX12_cell_17 rfl ?_
    by_cases c0 : y = 0
    · subst c0
      refine Rn.tableIn (off := 42) (tgt := 60) dX12_cell_18 (by decide) (by decide) (by decide) (by decide) ?_
      refine Rn.aload_n dX12_cell_60 rfl ?_
      refine Rn.getR dX12_cell_61 fX12_86 rfl (rc149 hR) (show M.2.2 149 39 = some 173 from (rpt39 hR)) ?_
      refine Rn.iload_n dX12_cell_64 rfl ?_
      refine Rn.ialdN (k0 := c) dX12_cell_65 (rc173 hR) (by omega) (by decide) ?_
      refine Rn.topI (y := s.1 c) (sh0 hS.2.1.1 (by omega)) ?_
      exact Rn.iret (ty := .int) dX12_cell_66 rfl rfl (hA _ qR.rf.f0)
    · skip
      by_cases c1 : y = 1
      · subst c1
        refine Rn.tableIn (off := 49) (tgt := 67) dX12_cell_18 (by decide) (by decide) (by decide) (by decide) ?_
        refine Rn.aload_n dX12_cell_67 rfl ?_
        refine Rn.getR dX12_cell_68 fX12_89 rfl (rc149 hR) (show M.2.2 149 40 = some 174 from (rpt40 hR)) ?_
        refine Rn.iload_n dX12_cell_71 rfl ?_
        refine Rn.ialdN (k0 := c) dX12_cell_72 (rc174 hR) (by omega) (by decide) ?_
        refine Rn.topI (y := s.2.1 c) (sh0 hS.2.1.2.1 (by omega)) ?_
        exact Rn.iret (ty := .int) dX12_cell_73 rfl rfl (hA _ qR.rf.f0)
      · skip
        by_cases c2 : y = 2
        · subst c2
          refine Rn.tableIn (off := 56) (tgt := 74) dX12_cell_18 (by decide) (by decide) (by decide) (by decide) ?_
          refine Rn.aload_n dX12_cell_74 rfl ?_
          refine Rn.getR dX12_cell_75 fX12_92 rfl (rc149 hR) (show M.2.2 149 41 = some 175 from (rpt41 hR)) ?_
          refine Rn.iload_n dX12_cell_78 rfl ?_
          refine Rn.ialdN (k0 := c) dX12_cell_79 (rc175 hR) (by omega) (by decide) ?_
          refine Rn.topI (y := s.2.2.1 c) (sh0 hS.2.1.2.2.1 (by omega)) ?_
          exact Rn.iret (ty := .int) dX12_cell_80 rfl rfl (hA _ qR.rf.f0)
        · skip
          by_cases c3 : y = 3
          · subst c3
            refine Rn.tableIn (off := 63) (tgt := 81) dX12_cell_18 (by decide) (by decide) (by decide) (by decide) ?_
            refine Rn.aload_n dX12_cell_81 rfl ?_
            refine Rn.getR dX12_cell_82 fX12_95 rfl (rc149 hR) (show M.2.2 149 42 = some 176 from (rpt42 hR)) ?_
            refine Rn.iload_n dX12_cell_85 rfl ?_
            refine Rn.ialdN (k0 := c) dX12_cell_86 (rc176 hR) (by omega) (by decide) ?_
            refine Rn.topI (y := s.2.2.2.1 c) (sh0 hS.2.1.2.2.2.1 (by omega)) ?_
            exact Rn.iret (ty := .int) dX12_cell_87 rfl rfl (hA _ qR.rf.f0)
          · skip
            by_cases c4 : y = 4
            · subst c4
              refine Rn.tableIn (off := 70) (tgt := 88) dX12_cell_18 (by decide) (by decide) (by decide) (by decide) ?_
              refine Rn.aload_n dX12_cell_88 rfl ?_
              refine Rn.callV0 dX12_cell_89 vX12_447 (rc149 hR) (by decide) rfl (tX12_plain (M := sI M 149 (upd (M.1 149) 0 0)) hR) (by decide) ⟨(Nat.le_of_ble_eq_true rfl), (Nat.le_of_ble_eq_true rfl), (Nat.le_of_ble_eq_true rfl)⟩ (fun h => by cases h) (fun v1 ly1 M1 ⟨q1, q2, q3⟩ => ?_)
              rw [q1, q2, q3]
              have hm0m : md (sI (sI M 149 (upd (M.1 149) 0 0)) 149 (upd (upd (upd (upd (upd ((sI M 149 (upd (M.1 149) 0 0)).1 149) 55 (-1)) 56 0) 57 (-1)) 61 0) 62 0)) (-1) 0 := ⟨rfl, rfl, rfl, rfl⟩
              have hq0m : qR M (sI (sI M 149 (upd (M.1 149) 0 0)) 149 (upd (upd (upd (upd (upd ((sI M 149 (upd (M.1 149) 0 0)).1 149) 55 (-1)) 56 0) 57 (-1)) 61 0) 62 0)) := qR.plain ((qR.rf (M := M)).f0)
              revert hm0m hq0m
              generalize (sI (sI M 149 (upd (M.1 149) 0 0)) 149 (upd (upd (upd (upd (upd ((sI M 149 (upd (M.1 149) 0 0)).1 149) 55 (-1)) 56 0) 57 (-1)) 61 0) 62 0)) = N0
              intro hm0 hq0
              have hRN0 : RW ly N0.2.2 := by rw [hq0.1]; exact hR
              have hS0 := hS.q hq0
              refine Rn.aload_n dX12_cell_92 rfl ?_
              refine Rn.iconstv (v := 0) dX12_cell_93 ic_0 ?_
              refine Rn.iload_n dX12_cell_94 rfl ?_
              refine Rn.callV2 dX12_cell_95 vX12_415 (rc149 hRN0) (by decide) rfl (tX12_calmAt (M := N0) (b := 0) (nf := nf) (by decide) hS0.2.2.1.1 hS0.2.2.1.2.1 (by rw [hm0.1]; decide) hRN0) (by decide) ⟨(Nat.le_of_ble_eq_true rfl), (Nat.le_of_ble_eq_true rfl), (Nat.le_of_ble_eq_true rfl)⟩ (fun h => by cases h) (fun v1 ly1 M1 ⟨q1, q2, q3⟩ => ?_)
              rw [q1, q2, q3]
              refine Rn.topI (y := ca c) (by rw [cmR_E nf hS0.2.2.1.2.2.1 hS0.2.2.1.2.2.2, hS0.1.2.2.2.1]; exact hca c hc) ?_
              exact Rn.iret (ty := .int) dX12_cell_98 rfl rfl (hA _ hq0)
            · skip
              by_cases c5 : y = 5
              · subst c5
                refine Rn.tableIn (off := 81) (tgt := 99) dX12_cell_18 (by decide) (by decide) (by decide) (by decide) ?_
                refine Rn.aload_n dX12_cell_99 rfl ?_
                refine Rn.getR dX12_cell_100 fX12_83 rfl (rc149 hR) (show M.2.2 149 38 = some 172 from (rpt38 hR)) ?_
                refine Rn.iconstv (v := 0) dX12_cell_103 ic_0 ?_
                refine Rn.iald dX12_cell_104 (rc172 hR) (by unfold vp_in; decide) ?_
                refine Rn.topI (y := M.1 172 0) (rfl) ?_
                refine Rn.topI (y := s.2.2.2.2.2.1) (hS.2.1.2.2.2.2.2.1) ?_
                refine Rn.iload_n dX12_cell_105 rfl ?_
                refine Rn.ishr dX12_cell_106 ?_
                refine Rn.iconstv (v := 1) dX12_cell_107 ic_1 ?_
                refine Rn.iand dX12_cell_108 ?_
                exact Rn.iret (ty := .int) dX12_cell_109 rfl rfl (hA _ qR.rf.f0)
              · skip
                by_cases c6 : y = 6
                · subst c6
                  refine Rn.tableIn (off := 92) (tgt := 110) dX12_cell_18 (by decide) (by decide) (by decide) (by decide) ?_
                  refine Rn.iconstv (v := 0) dX12_cell_110 ic_0 ?_
                  refine Rn.istore_n (lv' := [some (.ref 149), some (.int (nI c)), some (.int 6), some (.int 0), none]) dX12_cell_111 (by decide) rfl ?_
                  refine Rn.iconstv (v := 0) dX12_cell_112 ic_0 ?_
                  refine Rn.istore (lv' := [some (.ref 149), some (.int (nI c)), some (.int 6), some (.int 0), some (.int 0)]) dX12_cell_113 (by decide) rfl ?_
                  have loop : ∀ f i : Nat, i + f = nw → Rn G l mX12_cell (2, 0, 0, false) 115 [some (.ref 149), some (.int (nI c)), some (.int 6), some (.int (wkA s.2.2.2.2.1.2.2.1 s.2.2.2.2.1.1 (nI c) i)), some (.int (nI i))] [] ly (sI M 149 (upd (M.1 149) 0 0)) Q := by
                    intro f
                    induction f with
                    | zero =>
                      intro i hi
                      refine Rn.iload dX12_cell_115 rfl ?_
                      refine Rn.aload_n dX12_cell_117 rfl ?_
                      refine Rn.getR dX12_cell_118 fX12_15 rfl (rc149 hR) (show M.2.2 149 3 = some 151 from (rpt3 hR)) ?_
                      refine Rn.bipushv (v := 6) dX12_cell_121 bp_6 ?_
                      refine Rn.iald dX12_cell_123 (rc151 hR) (by unfold vp_in; decide) ?_
                      refine Rn.topI (y := M.1 151 6) (rfl) ?_
                      refine Rn.topI (y := nI nw) (hS.nw) ?_
                      refine Rn.icmp_ge dX12_cell_124 (fun hc1 => ?_) (fun hc1 => ?_)
                      · skip
                        have ei : i = nw := by omega
                        refine Rn.iload_n dX12_cell_152 rfl ?_
                        rw [ei]
                        exact Rn.iret (ty := .int) dX12_cell_153 rfl rfl (hA _ qR.rf.f0)
                      · skip
                        exact absurd (nI_le (a := nw) (b := i) (by omega) (by omega)) hc1
                    | succ f ih =>
                      intro i hi
                      refine Rn.iload dX12_cell_115 rfl ?_
                      refine Rn.aload_n dX12_cell_117 rfl ?_
                      refine Rn.getR dX12_cell_118 fX12_15 rfl (rc149 hR) (show M.2.2 149 3 = some 151 from (rpt3 hR)) ?_
                      refine Rn.bipushv (v := 6) dX12_cell_121 bp_6 ?_
                      refine Rn.iald dX12_cell_123 (rc151 hR) (by unfold vp_in; decide) ?_
                      refine Rn.topI (y := M.1 151 6) (rfl) ?_
                      refine Rn.topI (y := nI nw) (hS.nw) ?_
                      refine Rn.icmp_ge dX12_cell_124 (fun hc1 => ?_) (fun hc1 => ?_)
                      · skip
                        exact absurd hc1 (nI_ge (a := i) (b := nw) (by omega) (by omega))
                      · skip
                        have hk1 := hS.2.1.2.2.2.2.1 i (by omega)
                        rw [Nat.mul_zero, Nat.zero_add] at hk1
                        have hcn := hk1.cn (c := c) (by omega)
                        refine Rn.iload_n dX12_cell_127 rfl ?_
                        refine Rn.aload_n dX12_cell_128 rfl ?_
                        refine Rn.getR dX12_cell_129 fX12_98 rfl (rc149 hR) (show M.2.2 149 43 = some 177 from (rpt43 hR)) ?_
                        refine Rn.iload dX12_cell_132 rfl ?_
                        refine Rn.ialdN (k0 := i) dX12_cell_134 (rc177 hR) (by omega) (by decide) ?_
                        refine Rn.iload_n dX12_cell_135 rfl ?_
                        have join : Rn G l mX12_cell (2, 0, 0, false) 144 [some (.ref 149), some (.int (nI c)), some (.int 6), some (.int (wkA s.2.2.2.2.1.2.2.1 s.2.2.2.2.1.1 (nI c) i)), some (.int (nI i))] [.int (if s.2.2.2.2.1.2.2.1 i = 1 then (if s.2.2.2.2.1.1 i = nI c then (1 : Int32) else 0) else 0), .int (wkA s.2.2.2.2.1.2.2.1 s.2.2.2.2.1.1 (nI c) i)] ly (sI M 149 (upd (M.1 149) 0 0)) Q := by
                          refine Rn.iadd dX12_cell_144 ?_
                          refine Rn.topI (y := wkA s.2.2.2.2.1.2.2.1 s.2.2.2.2.1.1 (nI c) (i + 1)) (rfl) ?_
                          refine Rn.istore_n (lv' := [some (.ref 149), some (.int (nI c)), some (.int 6), some (.int (wkA s.2.2.2.2.1.2.2.1 s.2.2.2.2.1.1 (nI c) (i + 1))), some (.int (nI i))]) dX12_cell_145 (by decide) rfl ?_
                          refine Rn.iincN (lv' := [some (.ref 149), some (.int (nI c)), some (.int 6), some (.int (wkA s.2.2.2.2.1.2.2.1 s.2.2.2.2.1.1 (nI c) (i + 1))), some (.int (nI (i + 1)))]) dX12_cell_146 rfl (by decide) rfl ?_
                          refine Rn.goto dX12_cell_149 ?_
                          exact ih (i + 1) (by omega)
                        refine Rn.icmp_ne dX12_cell_136 (fun hat => ?_) (fun hat => ?_)
                        · skip
                          refine Rn.iconstv (v := 0) dX12_cell_143 ic_0 ?_
                          refine Rn.topI (y := (if s.2.2.2.2.1.2.2.1 i = 1 then (if s.2.2.2.2.1.1 i = nI c then (1 : Int32) else 0) else 0)) ((if_neg hat).symm.trans hcn) ?_
                          exact join
                        · skip
                          refine Rn.iconstv (v := 1) dX12_cell_139 ic_1 ?_
                          refine Rn.goto dX12_cell_140 ?_
                          refine Rn.topI (y := (if s.2.2.2.2.1.2.2.1 i = 1 then (if s.2.2.2.2.1.1 i = nI c then (1 : Int32) else 0) else 0)) ((if_pos hat).symm.trans hcn) ?_
                          exact join
                  exact loop nw 0 (by omega)
                · skip
                  have n0 : Int32.toInt y ≠ 0 := fun h => c0 (Int32.toInt_inj.mp (h.trans (by decide)))
                  have n1 : Int32.toInt y ≠ 1 := fun h => c1 (Int32.toInt_inj.mp (h.trans (by decide)))
                  have n2 : Int32.toInt y ≠ 2 := fun h => c2 (Int32.toInt_inj.mp (h.trans (by decide)))
                  have n3 : Int32.toInt y ≠ 3 := fun h => c3 (Int32.toInt_inj.mp (h.trans (by decide)))
                  have n4 : Int32.toInt y ≠ 4 := fun h => c4 (Int32.toInt_inj.mp (h.trans (by decide)))
                  have n5 : Int32.toInt y ≠ 5 := fun h => c5 (Int32.toInt_inj.mp (h.trans (by decide)))
                  have n6 : Int32.toInt y ≠ 6 := fun h => c6 (Int32.toInt_inj.mp (h.trans (by decide)))
                  refine Rn.tableOut (tgt := 154) dX12_cell_18 (by omega) (by decide) ?_
                  refine Rn.ldcw dX12_cell_154 kX12_446 ?_
                  exact Rn.iret (ty := .int) dX12_cell_157 rfl rfl (by unfold celR at hA; rw [if_neg c0, if_neg c1, if_neg c2, if_neg c3, if_neg c4, if_neg c5, if_neg c6] at hA; exact hA _ qR.rf.f0)
  · skip
    refine Rn.ldcw dX12_cell_13 kX12_446 ?_
    exact Rn.iret (ty := .int) dX12_cell_16 rfl rfl (hQ.1 (fun h => (inN_1 (x := x) (k := n) (lt31c hS.n.2)).elim (fun k => k.2 h) (fun k => absurd (k.1.symm.trans g1) (by decide))) _ qR.rf.f0)
theorem tX12_law {G : Gx} {l : Launch} {ly : Ly} {M : Mm} {x y z v : Int32} {n nw t nf : Nat} {p : P4} {h0 c0 : Int32} {W : Wx} {lw : Nat → (Nat → Int32) × Nat} {s : Sc} {fc fk ca : Nat → Int32} (hS : RS M n nw t nf p h0 c0 W lw s fc fk) (hca : cas n nf c0 fc fk ca)  (hR : RW ly M.2.2) {Q : Qt} (hQ : (¬ ((0 ≤ x ∧ x ≤ 1) ∧ (∃ j : Nat, j < nw ∧ y = nI j) ∧ (∃ j : Nat, j < n ∧ z = nI j) ∧ (0 ≤ v ∧ v ≤ 1)) → ∀ K, qR M K → Q (some (.long erL)) ly K) ∧ (∀ k w c : Nat, k < 2 → x = nI k → w < nw → y = nI w → c < n → z = nI c → (0 ≤ v ∧ v ≤ 1) → ∀ K, qR M K → Q (some (.long (valL (nmv (W.1 w) (nI t) (nI c) (s.1 c) v h0) (lw k).1 (lw k).2))) ly K)) : Mt G l mX12_law (4, 0, 0, false) [.ref 149, .int x, .int y, .int z, .int v] ly M Q := by
  refine Mt.of (lv := [some (.ref 149), some (.int x), some (.int y), some (.int z), some (.int v)]) rfl ?_
  refine Rn.aload_n dX12_law_0 rfl ?_
  refine Rn.iconstv (v := 0) dX12_law_1 ic_0 ?_
  refine Rn.putI dX12_law_2 fX12_169 rfl rfl rfl (rc149 hR) ?_
  refine Rn.iload_n dX12_law_5 rfl ?_
  refine Rn.if_lt dX12_law_6 (fun k1 => ?_) (fun k1 => ?_)
  · skip
    refine Rn.ldc2 dX12_law_49 kX12_452 ?_
    exact Rn.lret dX12_law_52 rfl (hQ.1 (fun h => absurd k1 (Int32.not_lt.mpr h.1.1)) _ qR.rf.f0)
  · skip
    refine Rn.iload_n dX12_law_9 rfl ?_
    refine Rn.iconstv (v := 1) dX12_law_10 ic_1 ?_
    refine Rn.icmp_gt dX12_law_11 (fun k2 => ?_) (fun k2 => ?_)
    · skip
      refine Rn.ldc2 dX12_law_49 kX12_452 ?_
      exact Rn.lret dX12_law_52 rfl (hQ.1 (fun h => absurd k2 (Int32.not_lt.mpr h.1.2)) _ qR.rf.f0)
    · skip
      obtain ⟨k, hk2, rfl⟩ : ∃ k : Nat, k < 2 ∧ x = nI k := by
        obtain ⟨k, hk, rfl⟩ := nI_of k1
        exact ⟨k, by have := (nI_leI (b := 1) hk (by decide)).mp (Int32.not_lt.mp k2); omega, rfl⟩
      refine Rn.aload_n dX12_law_14 rfl ?_
      refine Rn.iload_n dX12_law_15 rfl ?_
      refine Rn.callV1 dX12_law_16 vX12_443 (rc149 hR) (by decide) rfl (tX12_isWalker (M := sI M 149 (upd (M.1 149) 0 0)) hR) (by decide) ⟨(Nat.le_of_ble_eq_true rfl), (Nat.le_of_ble_eq_true rfl), (Nat.le_of_ble_eq_true rfl)⟩ (fun h => by cases h) (fun v1 ly1 M1 ⟨q1, q2, q3⟩ => ?_)
      rw [q1, q2, q3]
      refine Rn.topI (y := inN y (nI nw)) (congrArg (inN y) hS.nw) ?_
      refine Rn.if_eq dX12_law_19 (fun g1 => ?_) (fun g1 => ?_)
      · skip
        refine Rn.ldc2 dX12_law_49 kX12_452 ?_
        exact Rn.lret dX12_law_52 rfl (hQ.1 (fun h => (inN_1 (x := y) (k := nw) (lt31 hS.w6)).elim (fun k => k.2 h.2.1) (fun k => absurd (k.1.symm.trans g1) (by decide))) _ qR.rf.f0)
      · skip
        obtain ⟨w, hw, rfl⟩ : ∃ j : Nat, j < nw ∧ y = nI j := (inN_1 (x := y) (k := nw) (lt31 hS.w6)).elim (fun k => absurd k.1 g1) (fun k => k.2)
        refine Rn.aload_n dX12_law_22 rfl ?_
        refine Rn.iload_n dX12_law_23 rfl ?_
        refine Rn.callV1 dX12_law_24 vX12_403 (rc149 hR) (by decide) rfl (tX12_isCell (M := sI M 149 (upd (M.1 149) 0 0)) hR) (by decide) ⟨(Nat.le_of_ble_eq_true rfl), (Nat.le_of_ble_eq_true rfl), (Nat.le_of_ble_eq_true rfl)⟩ (fun h => by cases h) (fun v1 ly1 M1 ⟨q1, q2, q3⟩ => ?_)
        rw [q1, q2, q3]
        refine Rn.topI (y := inN z (nI n)) (congrArg (inN z) hS.n.1) ?_
        refine Rn.if_eq dX12_law_27 (fun g2 => ?_) (fun g2 => ?_)
        · skip
          refine Rn.ldc2 dX12_law_49 kX12_452 ?_
          exact Rn.lret dX12_law_52 rfl (hQ.1 (fun h => (inN_1 (x := z) (k := n) (lt31c hS.n.2)).elim (fun k => k.2 h.2.2.1) (fun k => absurd (k.1.symm.trans g2) (by decide))) _ qR.rf.f0)
        · skip
          obtain ⟨c, hc, rfl⟩ : ∃ j : Nat, j < n ∧ z = nI j := (inN_1 (x := z) (k := n) (lt31c hS.n.2)).elim (fun k => absurd k.1 g2) (fun k => k.2)
          refine Rn.iload dX12_law_30 rfl ?_
          refine Rn.if_lt dX12_law_32 (fun k5 => ?_) (fun k5 => ?_)
          · skip
            refine Rn.ldc2 dX12_law_49 kX12_452 ?_
            exact Rn.lret dX12_law_52 rfl (hQ.1 (fun h => absurd k5 (Int32.not_lt.mpr h.2.2.2.1)) _ qR.rf.f0)
          · skip
            refine Rn.iload dX12_law_35 rfl ?_
            refine Rn.iconstv (v := 1) dX12_law_37 ic_1 ?_
            refine Rn.icmp_gt dX12_law_38 (fun k6 => ?_) (fun k6 => ?_)
            · skip
              refine Rn.ldc2 dX12_law_49 kX12_452 ?_
              exact Rn.lret dX12_law_52 rfl (hQ.1 (fun h => absurd k6 (Int32.not_lt.mpr h.2.2.2.2)) _ qR.rf.f0)
            · skip
              have hA := hQ.2 k w c hk2 rfl hw rfl hc rfl ⟨Int32.not_lt.mp k5, Int32.not_lt.mp k6⟩
              clear hQ
              have hn12 := hS.n.2
              have hw6 := hS.w6
              obtain ⟨f0, hlw⟩ := hS.1.2.2.2.2.2 k (by omega)
              refine Rn.aload_n dX12_law_41 rfl ?_
              refine Rn.iload_n dX12_law_42 rfl ?_
              refine Rn.callV1 dX12_law_43 vX12_372 (rc149 hR) (by decide) rfl (tX12_hasLaw (M := sI M 149 (upd (M.1 149) 0 0)) (k := k) (by omega) hR) (by decide) ⟨(Nat.le_of_ble_eq_true rfl), (Nat.le_of_ble_eq_true rfl), (Nat.le_of_ble_eq_true rfl)⟩ (fun h => by cases h) (fun v1 ly1 M1 ⟨q1, q2, q3⟩ => ?_)
              rw [q1, q2, q3]
              refine Rn.topI (y := hlR (nI (f0 + (lw k).2)) (nI f0)) (show hlR (M.1 166 k) (M.1 165 k) = _ by rw [hlw.2.1, hlw.1]) ?_
              refine Rn.if_ne dX12_law_46 (fun k7 => ?_) (fun k7 => ?_)
              · skip
                have hsz : ¬ (lw k).2 = 0 := fun e => k7 (by rw [e]; exact if_pos (Int32.le_refl _))
                refine Rn.aload_n dX12_law_53 rfl ?_
                refine Rn.callV0 dX12_law_54 vX12_447 (rc149 hR) (by decide) rfl (tX12_plain (M := sI M 149 (upd (M.1 149) 0 0)) hR) (by decide) ⟨(Nat.le_of_ble_eq_true rfl), (Nat.le_of_ble_eq_true rfl), (Nat.le_of_ble_eq_true rfl)⟩ (fun h => by cases h) (fun v1 ly1 M1 ⟨q1, q2, q3⟩ => ?_)
                rw [q1, q2, q3]
                have hm0m : md (sI (sI M 149 (upd (M.1 149) 0 0)) 149 (upd (upd (upd (upd (upd ((sI M 149 (upd (M.1 149) 0 0)).1 149) 55 (-1)) 56 0) 57 (-1)) 61 0) 62 0)) (-1) 0 := ⟨rfl, rfl, rfl, rfl⟩
                have hq0m : qR M (sI (sI M 149 (upd (M.1 149) 0 0)) 149 (upd (upd (upd (upd (upd ((sI M 149 (upd (M.1 149) 0 0)).1 149) 55 (-1)) 56 0) 57 (-1)) 61 0) 62 0)) := qR.plain ((qR.rf (M := M)).f0)
                revert hm0m hq0m
                generalize (sI (sI M 149 (upd (M.1 149) 0 0)) 149 (upd (upd (upd (upd (upd ((sI M 149 (upd (M.1 149) 0 0)).1 149) 55 (-1)) 56 0) 57 (-1)) 61 0) 62 0)) = N0
                intro hm0 hq0
                have hRN0 : RW ly N0.2.2 := by rw [hq0.1]; exact hR
                have hS0 := hS.q hq0
                refine Rn.aload_n dX12_law_57 rfl ?_
                refine Rn.iconstv (v := 0) dX12_law_58 ic_0 ?_
                refine Rn.aload_n dX12_law_59 rfl ?_
                refine Rn.getR dX12_law_60 fX12_21 rfl (rc149 hRN0) (show N0.2.2 149 5 = some 153 from (rpt5 hRN0)) ?_
                refine Rn.iload_n dX12_law_63 rfl ?_
                refine Rn.ialdN (k0 := w) dX12_law_64 (rc153 hRN0) (by omega) (by decide) ?_
                refine Rn.topI (y := W.1 w) ((hS0.1.2.2.2.2.1.2.2 w hw).1) ?_
                refine Rn.iload_n dX12_law_65 rfl ?_
                refine Rn.iload dX12_law_66 rfl ?_
                refine Rn.callV4 dX12_law_68 vX12_406 (rc149 hRN0) (by decide) rfl (tX12_calls (M := N0) (Q := fun v0 ly0 K => v0 = none ∧ ly0 = ly ∧ K.1 = N0.1 ∧ K.2.2 = N0.2.2 ∧ (∀ j, j < 6 → K.2.1 184 j = ((nmv (W.1 w) (nI t) (nI c) (s.1 c) v h0) j).toInt64)) (b := 0) (c := c) (by decide) (by omega) hRN0 (fun L h1 h2 => ⟨rfl, rfl, rfl, rfl, fun j hj => by show L 184 j = _; rw [h2 j hj, hS0.2.1.2.2.2.2.2.2.1.1, show N0.1 173 (12 * 0 + c) = s.1 c from hS0.2.1.1 c (by omega), show htR (N0.1 149 55) (N0.1 151 4) = h0 by rw [hm0.1, hS0.1.2.2.1]; rfl]⟩)) (by decide) ⟨(Nat.le_of_ble_eq_true rfl), (Nat.le_of_ble_eq_true rfl), (Nat.le_of_ble_eq_true rfl)⟩ (fun h => by cases h) (fun v1 ly1 N1 ⟨q1, q2, p1, r1, nm1⟩ => ?_)
                rw [q1, q2]
                have hq1 : qR M N1 := by unfold qR; rw [p1, r1]; exact hq0
                have hlw1 : lwR N1.1 k (lw k).1 (lw k).2 f0 := by rw [p1]; exact hlw.mv (fun a h => hq0.at a (by omega))
                have hRN1 : RW ly N1.2.2 := by rw [hq1.1]; exact hR
                refine Rn.aload_n dX12_law_71 rfl ?_
                refine Rn.iload_n dX12_law_72 rfl ?_
                refine Rn.callV1 dX12_law_73 vX12_375 (rc149 hRN1) (by decide) rfl (tX12_goes (M := N1) (Q := fun v0 ly0 K => ly0 = ly ∧ wkF N1 K ∧ ((v0 = some (.int 0) ∧ valL (nmv (W.1 w) (nI t) (nI c) (s.1 c) v h0) (lw k).1 (lw k).2 = erL) ∨ (v0 = some (.int 1) ∧ K.2.1 185 0 = valL (nmv (W.1 w) (nI t) (nI c) (s.1 c) v h0) (lw k).1 (lw k).2))) (nm := nmv (W.1 w) (nI t) (nI c) (s.1 c) v h0) (by omega) hlw1 hsz nm1 hRN1 ⟨fun h K f => ⟨rfl, f, Or.inl ⟨rfl, by unfold valL; rw [h]⟩⟩, fun v h K f e => ⟨rfl, f, Or.inr ⟨rfl, by rw [e]; unfold valL; rw [h]⟩⟩⟩) (by decide) ⟨(Nat.le_of_ble_eq_true rfl), (Nat.le_of_ble_eq_true rfl), (Nat.le_of_ble_eq_true rfl)⟩ (fun h => by cases h) (fun v1 ly1 N2 ⟨q2, w2, q9⟩ => ?_)
                rw [q2]
                have hq2 : qR M N2 := hq1.tr ⟨w2.1, fun a a1 a2 a3 a4 => w2.2.1 a a1, fun j a1 a2 a3 a4 a5 => w2.2.2.1 j (by omega), fun a ha j a1 a2 => congrFun (w2.2.1 a (by omega)) j, fun a ha j hj => congrFun (w2.2.1 a (by omega)) j, fun a ha j hj => congrFun (w2.2.1 a (by omega)) j⟩
                have hRN2 : RW ly N2.2.2 := by rw [hq2.1]; exact hR
                rcases q9 with ⟨q1, q9⟩ | ⟨q1, q9⟩
                · skip
                  rw [q1]
                  refine Rn.if_eq dX12_law_76 (fun k8 => ?_) (fun k8 => ?_)
                  · skip
                    refine Rn.ldc2 dX12_law_88 kX12_452 ?_
                    rw [q9] at hA
                    exact Rn.lret dX12_law_91 rfl (hA N2 hq2)
                  · skip
                    first | exact absurd k8 (by decide) | exact absurd (by decide) k8
                · skip
                  rw [q1]
                  refine Rn.if_eq dX12_law_76 (fun k8 => ?_) (fun k8 => ?_)
                  · skip
                    first | exact absurd k8 (by decide) | exact absurd (by decide) k8
                  · skip
                    refine Rn.aload_n dX12_law_79 rfl ?_
                    refine Rn.getR dX12_law_80 fX12_123 rfl (rc149 hRN2) (show N2.2.2 149 53 = some 185 from (rpt53 hRN2)) ?_
                    refine Rn.iconstv (v := 0) dX12_law_83 ic_0 ?_
                    refine Rn.lald dX12_law_84 (rc185 hRN2) (by unfold vp_in; decide) ?_
                    refine Rn.topL (y := N2.2.1 185 0) (rfl) ?_
                    refine Rn.topL (y := valL (nmv (W.1 w) (nI t) (nI c) (s.1 c) v h0) (lw k).1 (lw k).2) (q9) ?_
                    refine Rn.goto dX12_law_85 ?_
                    exact Rn.lret dX12_law_91 rfl (hA N2 hq2)
              · skip
                have hsz : (lw k).2 = 0 := by
                  unfold hlR at k7
                  by_cases e : nI (f0 + (lw k).2) ≤ nI f0
                  · have := (nI_leI (by have := hlw.2.2.1; omega) (by have := hlw.2.2.1; omega)).mp e; omega
                  · rw [if_neg e] at k7; exact absurd k7 (by decide)
                refine Rn.ldc2 dX12_law_49 kX12_452 ?_
                rw [show valL (nmv (W.1 w) (nI t) (nI c) (s.1 c) v h0) (lw k).1 (lw k).2 = erL by rw [hsz]; rfl] at hA
                exact Rn.lret dX12_law_52 rfl (hA _ qR.rf.f0)
