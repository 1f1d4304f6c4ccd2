/-- boys push at the cell c, at the times of the set t -/
def pmP (c : Nat) (t F : Int32) (i : Nat) (s : Sc) : Sc := puS s (upd s.2.2.2.2.1.2.2.2.1 c (s.2.2.2.2.1.2.2.2.1 c - ((t >>> (nI i &&& 31)) &&& 1) * F))
def pmI (T : Sc → Sc) (c : Nat) (t F : Int32) (s : Sc) (i : Nat) : Sc := itF (fun i s => T (pmP c t F i s)) i s
/-- what they reach at best with the first t sets; which -/
def pmG (T : Sc → Sc) (c : Nat) (F : Int32) (s : Sc) (n N : Nat) : Nat → Int32
  | 0 => -1
  | t + 1 => if gr (pmI T c (nI t) F s N).1 n ≤ pmG T c F s n N t then pmG T c F s n N t else gr (pmI T c (nI t) F s N).1 n
def pmB (T : Sc → Sc) (c : Nat) (F : Int32) (s : Sc) (n N : Nat) (b0 : Int32) : Nat → Int32
  | 0 => b0
  | t + 1 => if gr (pmI T c (nI t) F s N).1 n ≤ pmG T c F s n N t then pmB T c F s n N b0 t else nI t
theorem shl1 : ∀ n, n < 31 → (1 : Int32) <<< (nI n &&& 31) = nI (2 ^ n) := by decide +kernel
theorem pow7 {n : Nat} (h : n ≤ 7) : 2 ^ n ≤ 128 := Nat.le_trans (Nat.pow_le_pow_right (by decide) h) (by decide)
theorem tX11_pumped_n {G : Gx} {l : Launch} {ly : Ly} {M : Mm} {pl n nw nu nv nf : Nat} {c N q : Nat} {F y : Int32} {M0 : Mm} (hq0 : quX M M0) (hc : c < n) (hN : N ≤ 7) (hXS : XS ly M pl n nw nu nv) (hF : M.1 87 0 = nI nf ∧ nf ≤ 8 ∧ ∀ i, i < nf → vp_in (M.1 88 i) 12) {Q : Qt} (hQ : ∀ M' : Mm, quX M M' → M'.1 0 17 = pmB (TG M.1 pl n nw (fun k => M.1 (pl + 7 + k)) (pl + 18) nu (pl + 21) nv (M.1 75 4) 0 1 (M.1 90)) c F (vS M.1 75) n N (M0.1 0 17) (2 ^ N) → Q (some (.int (pmG (TG M.1 pl n nw (fun k => M.1 (pl + 7 + k)) (pl + 18) nu (pl + 21) nv (M.1 75 4) 0 1 (M.1 90)) c F (vS M.1 75) n N (2 ^ N)))) ly M') : Mt G l mX11_greatestPumped (6, 0, 0, false) [.ref 0, .int (nI c), .int F, .int (nI N), .int (-1), .int y] ly M0 Q := by
  have hXS0 := hXS
  obtain ⟨hX, hpl, hp7, ⟨n0, n1, n2, n3⟩, ⟨hn, hn2, hn12⟩, ⟨hw1, hw2, hw6⟩, ⟨hu1, hu2, hv1, hv2⟩, hgl, hbb⟩ := hXS
  refine Mt.of (lv := [some (.ref 0), some (.int (nI c)), some (.int F), some (.int (nI N)), some (.int (-1)), some (.int y), none, none, none]) rfl ?_
  have hXM0 := (hq0).xw hX
  have hplM0 : M0.2.2 0 3 = some pl := ((hq0).2.2 0 3 (by decide)).trans hpl
  have hnM0 : M0.1 pl 0 = nI n := (congrFun ((hq0).p0 hp7) 0).trans hn
  have hw1M0 : M0.1 (pl + 1) 0 = nI nw := (congrFun ((hq0).pk hp7 (k := 1) (by decide)) 0).trans hw1
  refine Rn.iconstv (v := -1) dX11_greatestPumped_0 ic_m1 ?_
  refine Rn.istore (lv' := [some (.ref 0), some (.int (nI c)), some (.int F), some (.int (nI N)), some (.int (-1)), some (.int y), some (.int (-1)), none, none]) dX11_greatestPumped_1 (by decide) rfl ?_
  refine Rn.iconstv (v := 0) dX11_greatestPumped_3 ic_0 ?_
  refine Rn.istore (lv' := [some (.ref 0), some (.int (nI c)), some (.int F), some (.int (nI N)), some (.int (-1)), some (.int y), some (.int (-1)), some (.int 0), none]) dX11_greatestPumped_4 (by decide) rfl ?_
  have hp7n := pow7 hN
  generalize hA : 2 ^ N = A at hQ hp7n
  have loop : ∀ (k i : Nat) (N1 : Mm), i + k = A → quX M N1 → N1.1 0 17 = pmB (TG M.1 pl n nw (fun k => M.1 (pl + 7 + k)) (pl + 18) nu (pl + 21) nv (M.1 75 4) 0 1 (M.1 90)) c F (vS M.1 75) n N (M0.1 0 17) i → Rn G l mX11_greatestPumped (6, 0, 0, false) 6 [some (.ref 0), some (.int (nI c)), some (.int F), some (.int (nI N)), some (.int (-1)), some (.int y), some (.int (pmG (TG M.1 pl n nw (fun k => M.1 (pl + 7 + k)) (pl + 18) nu (pl + 21) nv (M.1 75 4) 0 1 (M.1 90)) c F (vS M.1 75) n N i)), some (.int (nI i)), none] [] ly N1 Q := by
    intro k
    induction k with
    | zero =>
      intro i N1 hi hq1 hb1
      have hXN1 := (hq1).xw hX
      have hplN1 : N1.2.2 0 3 = some pl := ((hq1).2.2 0 3 (by decide)).trans hpl
      have hnN1 : N1.1 pl 0 = nI n := (congrFun ((hq1).p0 hp7) 0).trans hn
      have hw1N1 : N1.1 (pl + 1) 0 = nI nw := (congrFun ((hq1).pk hp7 (k := 1) (by decide)) 0).trans hw1
      refine Rn.iload dX11_greatestPumped_6 rfl ?_
      refine Rn.iconstv (v := 1) dX11_greatestPumped_8 ic_1 ?_
      refine Rn.iload_n dX11_greatestPumped_9 rfl ?_
      refine Rn.ishl dX11_greatestPumped_10 ?_
      refine Rn.topI (y := nI A) ((shl1 N (by omega)).trans (by rw [hA])) ?_
      refine Rn.icmp_ge dX11_greatestPumped_11 (fun hc2 => ?_) (fun hc2 => ?_)
      · skip
        obtain rfl : i = A := by omega
        refine Rn.iload dX11_greatestPumped_124 rfl ?_
        exact Rn.iret (ty := .int) dX11_greatestPumped_126 rfl rfl (hQ N1 hq1 hb1)
      · skip
        exact absurd (nI_le (a := A) (b := i) (by omega) (by omega)) hc2
    | succ k ih =>
      intro i N1 hi hq1 hb1
      have hXN1 := (hq1).xw hX
      have hplN1 : N1.2.2 0 3 = some pl := ((hq1).2.2 0 3 (by decide)).trans hpl
      have hnN1 : N1.1 pl 0 = nI n := (congrFun ((hq1).p0 hp7) 0).trans hn
      have hw1N1 : N1.1 (pl + 1) 0 = nI nw := (congrFun ((hq1).pk hp7 (k := 1) (by decide)) 0).trans hw1
      refine Rn.iload dX11_greatestPumped_6 rfl ?_
      refine Rn.iconstv (v := 1) dX11_greatestPumped_8 ic_1 ?_
      refine Rn.iload_n dX11_greatestPumped_9 rfl ?_
      refine Rn.ishl dX11_greatestPumped_10 ?_
      refine Rn.topI (y := nI A) ((shl1 N (by omega)).trans (by rw [hA])) ?_
      refine Rn.icmp_ge dX11_greatestPumped_11 (fun hc2 => ?_) (fun hc2 => ?_)
      · skip
        exact absurd hc2 (nI_ge (a := i) (b := A) (by omega) (by omega))
      · skip
        refine Rn.aload_n dX11_greatestPumped_14 rfl ?_
        refine Rn.iconstv (v := 1) dX11_greatestPumped_15 ic_1 ?_
        refine Rn.callV1 dX11_greatestPumped_16 vX11_299 (xc0 hXN1) (by decide) rfl (trNow (Q := fun v0 ly0 M0 => v0 = none ∧ ly0 = ly ∧ Tr ly M M0 pl n (pl + 7) nw (fun k => M.1 (pl + 7 + k)) (pl + 18) nu (pl + 21) nv (M.1 75 4) 0 1 (M.1 90) nf (M.1 88) (M.1 89) (vS M.1 75) ∧ quT N1 M0) (Or.inr rfl) hXS0 hF.1 hq1 (fun K h u => ⟨rfl, rfl, h, u⟩)) (by decide) ⟨(Nat.le_of_ble_eq_true rfl), (Nat.le_of_ble_eq_true rfl), (Nat.le_of_ble_eq_true rfl)⟩ (fun h => by cases h) (fun v1 ly1 N2 ⟨q1, q2, hT2, hU2⟩ => ?_)
        rw [q1, q2]
        have hXN2 := (hT2.1).xw hX
        have hplN2 : N2.2.2 0 3 = some pl := ((hT2.1).2.2 0 3 (by decide)).trans hpl
        have hnN2 : N2.1 pl 0 = nI n := (congrFun ((hT2.1).p0 hp7) 0).trans hn
        have hw1N2 : N2.1 (pl + 1) 0 = nI nw := (congrFun ((hT2.1).pk hp7 (k := 1) (by decide)) 0).trans hw1
        refine Rn.iload dX11_greatestPumped_19 rfl ?_
        refine Rn.iconstv (v := -1) dX11_greatestPumped_21 ic_m1 ?_
        refine Rn.icmp_eq dX11_greatestPumped_22 (fun hs => ?_) (fun hs => ?_)
        · skip
          refine Rn.iconstv (v := 0) dX11_greatestPumped_36 ic_0 ?_
          refine Rn.istore (lv' := [some (.ref 0), some (.int (nI c)), some (.int F), some (.int (nI N)), some (.int (-1)), some (.int y), some (.int (pmG (TG M.1 pl n nw (fun k => M.1 (pl + 7 + k)) (pl + 18) nu (pl + 21) nv (M.1 75 4) 0 1 (M.1 90)) c F (vS M.1 75) n N i)), some (.int (nI i)), some (.int 0)]) dX11_greatestPumped_37 (by decide) rfl ?_
          have loop2 : ∀ (k2 j : Nat) (N4 : Mm), j + k2 = N → Tr ly M N4 pl n (pl + 7) nw (fun k => M.1 (pl + 7 + k)) (pl + 18) nu (pl + 21) nv (M.1 75 4) 0 1 (M.1 90) nf (M.1 88) (M.1 89) (pmI (TG M.1 pl n nw (fun k => M.1 (pl + 7 + k)) (pl + 18) nu (pl + 21) nv (M.1 75 4) 0 1 (M.1 90)) c (nI i) F (vS M.1 75) j) → quT N1 N4 → Rn G l mX11_greatestPumped (6, 0, 0, false) 39 [some (.ref 0), some (.int (nI c)), some (.int F), some (.int (nI N)), some (.int (-1)), some (.int y), some (.int (pmG (TG M.1 pl n nw (fun k => M.1 (pl + 7 + k)) (pl + 18) nu (pl + 21) nv (M.1 75 4) 0 1 (M.1 90)) c F (vS M.1 75) n N i)), some (.int (nI i)), some (.int (nI j))] [] ly N4 Q := by
            intro k2
            induction k2 with
            | zero =>
              intro j N4 hj hT4 hU4
              have ej : j = N := by omega
              rw [ej] at hT4
              have hXN4 := (hT4.1).xw hX
              have hplN4 : N4.2.2 0 3 = some pl := ((hT4.1).2.2 0 3 (by decide)).trans hpl
              have hnN4 : N4.1 pl 0 = nI n := (congrFun ((hT4.1).p0 hp7) 0).trans hn
              have hw1N4 : N4.1 (pl + 1) 0 = nI nw := (congrFun ((hT4.1).pk hp7 (k := 1) (by decide)) 0).trans hw1
              refine Rn.iload dX11_greatestPumped_39 rfl ?_
              refine Rn.iload_n dX11_greatestPumped_41 rfl ?_
              refine Rn.icmp_ge dX11_greatestPumped_42 (fun hc3 => ?_) (fun hc3 => ?_)
              · skip
                refine Rn.aload_n dX11_greatestPumped_82 rfl ?_
                refine Rn.getR dX11_greatestPumped_83 fX11_43 rfl (xc0 hXN4) (show N4.2.2 0 6 = some 92 from (xp0_6 hXN4)) ?_
                refine Rn.getR dX11_greatestPumped_86 fX11_165 rfl (xc92 hXN4) (show N4.2.2 92 5 = some 93 from (xp92_5 hXN4)) ?_
                refine Rn.aload_n dX11_greatestPumped_89 rfl ?_
                refine Rn.getR dX11_greatestPumped_90 fX11_27 rfl (xc0 hXN4) (show N4.2.2 0 3 = some pl from hplN4) ?_
                refine Rn.getI dX11_greatestPumped_93 fX11_209 rfl (pc0 hXN4 hp7) ?_
                refine Rn.topI (y := nI n) (hnN4) ?_
                refine Rn.callV1 dX11_greatestPumped_96 vX11_245 (xc93 hXN4) (by decide) rfl (trGr hXS0.ok hT4) (by decide) ⟨(Nat.le_of_ble_eq_true rfl), (Nat.le_of_ble_eq_true rfl), (Nat.le_of_ble_eq_true rfl)⟩ (fun h => by cases h) (fun v1 ly1 M1 ⟨q1, q2, q3⟩ => ?_)
                rw [q1, q2, q3]
                refine Rn.istore (lv' := [some (.ref 0), some (.int (nI c)), some (.int F), some (.int (nI N)), some (.int (-1)), some (.int y), some (.int (pmG (TG M.1 pl n nw (fun k => M.1 (pl + 7 + k)) (pl + 18) nu (pl + 21) nv (M.1 75 4) 0 1 (M.1 90)) c F (vS M.1 75) n N i)), some (.int (nI i)), some (.int (gr (pmI (TG M.1 pl n nw (fun k => M.1 (pl + 7 + k)) (pl + 18) nu (pl + 21) nv (M.1 75 4) 0 1 (M.1 90)) c (nI i) F (vS M.1 75) N).1 n))]) dX11_greatestPumped_99 (by decide) rfl ?_
                refine Rn.iload dX11_greatestPumped_101 rfl ?_
                refine Rn.iload dX11_greatestPumped_103 rfl ?_
                refine Rn.icmp_le dX11_greatestPumped_105 (fun hd => ?_) (fun hd => ?_)
                · skip
                  have e1 : pmG (TG M.1 pl n nw (fun k => M.1 (pl + 7 + k)) (pl + 18) nu (pl + 21) nv (M.1 75 4) 0 1 (M.1 90)) c F (vS M.1 75) n N (i + 1) = pmG (TG M.1 pl n nw (fun k => M.1 (pl + 7 + k)) (pl + 18) nu (pl + 21) nv (M.1 75 4) 0 1 (M.1 90)) c F (vS M.1 75) n N i := if_pos hd
                  have e2 : pmB (TG M.1 pl n nw (fun k => M.1 (pl + 7 + k)) (pl + 18) nu (pl + 21) nv (M.1 75 4) 0 1 (M.1 90)) c F (vS M.1 75) n N (M0.1 0 17) (i + 1) = pmB (TG M.1 pl n nw (fun k => M.1 (pl + 7 + k)) (pl + 18) nu (pl + 21) nv (M.1 75 4) 0 1 (M.1 90)) c F (vS M.1 75) n N (M0.1 0 17) i := if_pos hd
                  refine Rn.forget (lv' := [some (.ref 0), some (.int (nI c)), some (.int F), some (.int (nI N)), some (.int (-1)), some (.int y), some (.int (pmG (TG M.1 pl n nw (fun k => M.1 (pl + 7 + k)) (pl + 18) nu (pl + 21) nv (M.1 75 4) 0 1 (M.1 90)) c F (vS M.1 75) n N i)), some (.int (nI i)), none]) (⟨rfl, ⟨rfl, ⟨rfl, ⟨rfl, ⟨rfl, ⟨rfl, ⟨rfl, ⟨rfl, trivial⟩⟩⟩⟩⟩⟩⟩⟩) ?_
                  rw [← e1]
                  refine Rn.iincN (lv' := [some (.ref 0), some (.int (nI c)), some (.int F), some (.int (nI N)), some (.int (-1)), some (.int y), some (.int (pmG (TG M.1 pl n nw (fun k => M.1 (pl + 7 + k)) (pl + 18) nu (pl + 21) nv (M.1 75 4) 0 1 (M.1 90)) c F (vS M.1 75) n N (i + 1))), some (.int (nI (i + 1))), none]) dX11_greatestPumped_118 rfl (by decide) rfl ?_
                  refine Rn.goto dX11_greatestPumped_121 ?_
                  exact ih (i + 1) N4 (by omega) hT4.1 (by rw [e2, hU4.1 0 (by omega)]; exact hb1)
                · skip
                  have e1 : pmG (TG M.1 pl n nw (fun k => M.1 (pl + 7 + k)) (pl + 18) nu (pl + 21) nv (M.1 75 4) 0 1 (M.1 90)) c F (vS M.1 75) n N (i + 1) = gr (pmI (TG M.1 pl n nw (fun k => M.1 (pl + 7 + k)) (pl + 18) nu (pl + 21) nv (M.1 75 4) 0 1 (M.1 90)) c (nI i) F (vS M.1 75) N).1 n := if_neg hd
                  have e2 : pmB (TG M.1 pl n nw (fun k => M.1 (pl + 7 + k)) (pl + 18) nu (pl + 21) nv (M.1 75 4) 0 1 (M.1 90)) c F (vS M.1 75) n N (M0.1 0 17) (i + 1) = nI i := if_neg hd
                  refine Rn.iload dX11_greatestPumped_108 rfl ?_
                  refine Rn.istore (lv' := [some (.ref 0), some (.int (nI c)), some (.int F), some (.int (nI N)), some (.int (-1)), some (.int y), some (.int (gr (pmI (TG M.1 pl n nw (fun k => M.1 (pl + 7 + k)) (pl + 18) nu (pl + 21) nv (M.1 75 4) 0 1 (M.1 90)) c (nI i) F (vS M.1 75) N).1 n)), some (.int (nI i)), some (.int (gr (pmI (TG M.1 pl n nw (fun k => M.1 (pl + 7 + k)) (pl + 18) nu (pl + 21) nv (M.1 75 4) 0 1 (M.1 90)) c (nI i) F (vS M.1 75) N).1 n))]) dX11_greatestPumped_110 (by decide) rfl ?_
                  refine Rn.aload_n dX11_greatestPumped_112 rfl ?_
                  refine Rn.iload dX11_greatestPumped_113 rfl ?_
                  refine Rn.putI dX11_greatestPumped_115 fX11_349 rfl rfl rfl (xc0 hXN4) ?_
                  refine Rn.forget (lv' := [some (.ref 0), some (.int (nI c)), some (.int F), some (.int (nI N)), some (.int (-1)), some (.int y), some (.int (gr (pmI (TG M.1 pl n nw (fun k => M.1 (pl + 7 + k)) (pl + 18) nu (pl + 21) nv (M.1 75 4) 0 1 (M.1 90)) c (nI i) F (vS M.1 75) N).1 n)), some (.int (nI i)), none]) (⟨rfl, ⟨rfl, ⟨rfl, ⟨rfl, ⟨rfl, ⟨rfl, ⟨rfl, ⟨rfl, trivial⟩⟩⟩⟩⟩⟩⟩⟩) ?_
                  rw [← e1]
                  refine Rn.iincN (lv' := [some (.ref 0), some (.int (nI c)), some (.int F), some (.int (nI N)), some (.int (-1)), some (.int y), some (.int (pmG (TG M.1 pl n nw (fun k => M.1 (pl + 7 + k)) (pl + 18) nu (pl + 21) nv (M.1 75 4) 0 1 (M.1 90)) c F (vS M.1 75) n N (i + 1))), some (.int (nI (i + 1))), none]) dX11_greatestPumped_118 rfl (by decide) rfl ?_
                  refine Rn.goto dX11_greatestPumped_121 ?_
                  exact ih (i + 1) _ (by omega) (hT4.1.tr2 ⟨fun k h _ _ _ _ _ => sI_ne h, fun j h => by rw [sI_at]; exact pk_un h, fun _ _ _ => rfl⟩) (by rw [e2, sI_at, pk_us])
              · skip
                exact absurd (nI_le (a := N) (b := j) (by omega) (by omega)) hc3
            | succ k2 ih2 =>
              intro j N4 hj hT4 hU4
              have hXN4 := (hT4.1).xw hX
              have hplN4 : N4.2.2 0 3 = some pl := ((hT4.1).2.2 0 3 (by decide)).trans hpl
              have hnN4 : N4.1 pl 0 = nI n := (congrFun ((hT4.1).p0 hp7) 0).trans hn
              have hw1N4 : N4.1 (pl + 1) 0 = nI nw := (congrFun ((hT4.1).pk hp7 (k := 1) (by decide)) 0).trans hw1
              refine Rn.iload dX11_greatestPumped_39 rfl ?_
              refine Rn.iload_n dX11_greatestPumped_41 rfl ?_
              refine Rn.icmp_ge dX11_greatestPumped_42 (fun hc3 => ?_) (fun hc3 => ?_)
              · skip
                exact absurd hc3 (nI_ge (a := j) (b := N) (by omega) (by omega))
              · skip
                refine Rn.aload_n dX11_greatestPumped_45 rfl ?_
                refine Rn.getR dX11_greatestPumped_46 fX11_43 rfl (xc0 hXN4) (show N4.2.2 0 6 = some 92 from (xp0_6 hXN4)) ?_
                refine Rn.getR dX11_greatestPumped_49 fX11_165 rfl (xc92 hXN4) (show N4.2.2 92 5 = some 93 from (xp92_5 hXN4)) ?_
                refine Rn.getR dX11_greatestPumped_52 fX11_353 rfl (xc93 hXN4) (show N4.2.2 93 2 = some 96 from (xp93_2 hXN4)) ?_
                refine Rn.iload_n dX11_greatestPumped_55 rfl ?_
                refine Rn.dup2 dX11_greatestPumped_56 rfl rfl ?_
                refine Rn.ialdN (k0 := c) dX11_greatestPumped_57 (xc96 hXN4) (by omega) (by decide) ?_
                refine Rn.iload dX11_greatestPumped_58 rfl ?_
                refine Rn.iload dX11_greatestPumped_60 rfl ?_
                refine Rn.ishr dX11_greatestPumped_62 ?_
                refine Rn.iconstv (v := 1) dX11_greatestPumped_63 ic_1 ?_
                refine Rn.iand dX11_greatestPumped_64 ?_
                refine Rn.iload_n dX11_greatestPumped_65 rfl ?_
                refine Rn.imul dX11_greatestPumped_66 ?_
                refine Rn.isub dX11_greatestPumped_67 ?_
                refine Rn.iastN (k0 := c) dX11_greatestPumped_68 (xc96 hXN4) (by omega) (by decide) ?_
                have hpu := hT4.2.2.2.2.2.2.2.2.2.2.1.2.2.2.1
                have hT5m : Tr ly M (sI N4 96 (upd (N4.1 96) c ((N4.1 96 c) - ((((nI i) >>> ((nI j) &&& 31)) &&& 1) * F)))) pl n (pl + 7) nw (fun k => M.1 (pl + 7 + k)) (pl + 18) nu (pl + 21) nv (M.1 75 4) 0 1 (M.1 90) nf (M.1 88) (M.1 89) (pmP c (nI i) F j (pmI (TG M.1 pl n nw (fun k => M.1 (pl + 7 + k)) (pl + 18) nu (pl + 21) nv (M.1 75 4) 0 1 (M.1 90)) c (nI i) F (vS M.1 75) j)) := Tr.s_pu hXS0.ok hT4 _ (hpu.up (k := c) (congrArg (fun x => x - ((nI i >>> (nI j &&& 31)) &&& 1) * F) (hpu c (by omega))))
                have hU5 : quT N4 (sI N4 96 (upd (N4.1 96) c ((N4.1 96 c) - ((((nI i) >>> ((nI j) &&& 31)) &&& 1) * F)))) := ⟨fun k hk => sI_ne (by omega), fun _ _ _ => rfl⟩
                revert hT5m hU5
                generalize (sI N4 96 (upd (N4.1 96) c ((N4.1 96 c) - ((((nI i) >>> ((nI j) &&& 31)) &&& 1) * F)))) = N5
                intro hT5m hU5
                have hT5 : Tr ly M N5 pl n (pl + 7) nw (fun k => M.1 (pl + 7 + k)) (pl + 18) nu (pl + 21) nv (M.1 75 4) 0 1 (M.1 90) nf (M.1 88) (M.1 89) (pmP c (nI i) F j (pmI (TG M.1 pl n nw (fun k => M.1 (pl + 7 + k)) (pl + 18) nu (pl + 21) nv (M.1 75 4) 0 1 (M.1 90)) c (nI i) F (vS M.1 75) j)) := hT5m
                have hXN5 := (hT5.1).xw hX
                have hplN5 : N5.2.2 0 3 = some pl := ((hT5.1).2.2 0 3 (by decide)).trans hpl
                have hnN5 : N5.1 pl 0 = nI n := (congrFun ((hT5.1).p0 hp7) 0).trans hn
                have hw1N5 : N5.1 (pl + 1) 0 = nI nw := (congrFun ((hT5.1).pk hp7 (k := 1) (by decide)) 0).trans hw1
                refine Rn.aload_n dX11_greatestPumped_69 rfl ?_
                refine Rn.getR dX11_greatestPumped_70 fX11_43 rfl (xc0 hXN5) (show N5.2.2 0 6 = some 92 from (xp0_6 hXN5)) ?_
                refine Rn.callV0 dX11_greatestPumped_73 vX11_251 (xc92 hXN5) (by decide) rfl (trPass (Q := fun v0 ly0 M0 => v0 = none ∧ ly0 = ly ∧ Tr ly M M0 pl n (pl + 7) nw (fun k => M.1 (pl + 7 + k)) (pl + 18) nu (pl + 21) nv (M.1 75 4) 0 1 (M.1 90) nf (M.1 88) (M.1 89) (pmI (TG M.1 pl n nw (fun k => M.1 (pl + 7 + k)) (pl + 18) nu (pl + 21) nv (M.1 75 4) 0 1 (M.1 90)) c (nI i) F (vS M.1 75) (j + 1)) ∧ quT N5 M0) hXS0.ok hT5 (fun K h u => ⟨rfl, rfl, h, u⟩)) (by decide) ⟨(Nat.le_of_ble_eq_true rfl), (Nat.le_of_ble_eq_true rfl), (Nat.le_of_ble_eq_true rfl)⟩ (fun h => by cases h) (fun v1 ly1 N6 ⟨q1, q2, hT6, hU6⟩ => ?_)
                rw [q1, q2]
                have hXN6 := (hT6.1).xw hX
                have hplN6 : N6.2.2 0 3 = some pl := ((hT6.1).2.2 0 3 (by decide)).trans hpl
                have hnN6 : N6.1 pl 0 = nI n := (congrFun ((hT6.1).p0 hp7) 0).trans hn
                have hw1N6 : N6.1 (pl + 1) 0 = nI nw := (congrFun ((hT6.1).pk hp7 (k := 1) (by decide)) 0).trans hw1
                refine Rn.iincN (lv' := [some (.ref 0), some (.int (nI c)), some (.int F), some (.int (nI N)), some (.int (-1)), some (.int y), some (.int (pmG (TG M.1 pl n nw (fun k => M.1 (pl + 7 + k)) (pl + 18) nu (pl + 21) nv (M.1 75 4) 0 1 (M.1 90)) c F (vS M.1 75) n N i)), some (.int (nI i)), some (.int (nI (j + 1)))]) dX11_greatestPumped_76 rfl (by decide) rfl ?_
                refine Rn.goto dX11_greatestPumped_79 ?_
                exact ih2 (j + 1) N6 (by omega) hT6 (hU4.tr (hU5.tr hU6))
          exact loop2 N 0 N2 (by omega) hT2 hU2
        · skip
          exact absurd rfl hs
  exact loop A 0 M0 (by omega) hq0 rfl
theorem tX11_pumped_s {G : Gx} {l : Launch} {ly : Ly} {M : Mm} {pl n nw nu nv nf : Nat} {c N q : Nat} {F y : Int32} {M0 : Mm} (hq0 : quX M M0) (hc : c < n) (hN : N ≤ 7) (hnf : nf < 8) (hqn : q < n) (hXS : XS ly M pl n nw nu nv) (hF : M.1 87 0 = nI nf ∧ nf ≤ 8 ∧ ∀ i, i < nf → vp_in (M.1 88 i) 12) {Q : Qt} (hQ : ∀ M' : Mm, quX M M' → M'.1 0 17 = pmB (TG M.1 pl n nw (fun k => M.1 (pl + 7 + k)) (pl + 18) nu (pl + 21) nv (M.1 75 4) 0 1 (rfC (M.1 pl 3) (upd (M.1 88) nf (nI q)) (upd (M.1 89) nf y) (fun _ => 0) (nf + 1))) c F (vS M.1 75) n N (M0.1 0 17) (2 ^ N) → Q (some (.int (pmG (TG M.1 pl n nw (fun k => M.1 (pl + 7 + k)) (pl + 18) nu (pl + 21) nv (M.1 75 4) 0 1 (rfC (M.1 pl 3) (upd (M.1 88) nf (nI q)) (upd (M.1 89) nf y) (fun _ => 0) (nf + 1))) c F (vS M.1 75) n N (2 ^ N)))) ly M') : Mt G l mX11_greatestPumped (6, 0, 0, false) [.ref 0, .int (nI c), .int F, .int (nI N), .int (nI q), .int y] ly M0 Q := by
  have hXS0 := hXS
  obtain ⟨hX, hpl, hp7, ⟨n0, n1, n2, n3⟩, ⟨hn, hn2, hn12⟩, ⟨hw1, hw2, hw6⟩, ⟨hu1, hu2, hv1, hv2⟩, hgl, hbb⟩ := hXS
  refine Mt.of (lv := [some (.ref 0), some (.int (nI c)), some (.int F), some (.int (nI N)), some (.int (nI q)), some (.int y), none, none, none]) rfl ?_
  have hXM0 := (hq0).xw hX
  have hplM0 : M0.2.2 0 3 = some pl := ((hq0).2.2 0 3 (by decide)).trans hpl
  have hnM0 : M0.1 pl 0 = nI n := (congrFun ((hq0).p0 hp7) 0).trans hn
  have hw1M0 : M0.1 (pl + 1) 0 = nI nw := (congrFun ((hq0).pk hp7 (k := 1) (by decide)) 0).trans hw1
  refine Rn.iconstv (v := -1) dX11_greatestPumped_0 ic_m1 ?_
  refine Rn.istore (lv' := [some (.ref 0), some (.int (nI c)), some (.int F), some (.int (nI N)), some (.int (nI q)), some (.int y), some (.int (-1)), none, none]) dX11_greatestPumped_1 (by decide) rfl ?_
  refine Rn.iconstv (v := 0) dX11_greatestPumped_3 ic_0 ?_
  refine Rn.istore (lv' := [some (.ref 0), some (.int (nI c)), some (.int F), some (.int (nI N)), some (.int (nI q)), some (.int y), some (.int (-1)), some (.int 0), none]) dX11_greatestPumped_4 (by decide) rfl ?_
  have hp7n := pow7 hN
  generalize hA : 2 ^ N = A at hQ hp7n
  have loop : ∀ (k i : Nat) (N1 : Mm), i + k = A → quX M N1 → N1.1 0 17 = pmB (TG M.1 pl n nw (fun k => M.1 (pl + 7 + k)) (pl + 18) nu (pl + 21) nv (M.1 75 4) 0 1 (rfC (M.1 pl 3) (upd (M.1 88) nf (nI q)) (upd (M.1 89) nf y) (fun _ => 0) (nf + 1))) c F (vS M.1 75) n N (M0.1 0 17) i → Rn G l mX11_greatestPumped (6, 0, 0, false) 6 [some (.ref 0), some (.int (nI c)), some (.int F), some (.int (nI N)), some (.int (nI q)), some (.int y), some (.int (pmG (TG M.1 pl n nw (fun k => M.1 (pl + 7 + k)) (pl + 18) nu (pl + 21) nv (M.1 75 4) 0 1 (rfC (M.1 pl 3) (upd (M.1 88) nf (nI q)) (upd (M.1 89) nf y) (fun _ => 0) (nf + 1))) c F (vS M.1 75) n N i)), some (.int (nI i)), none] [] ly N1 Q := by
    intro k
    induction k with
    | zero =>
      intro i N1 hi hq1 hb1
      have hXN1 := (hq1).xw hX
      have hplN1 : N1.2.2 0 3 = some pl := ((hq1).2.2 0 3 (by decide)).trans hpl
      have hnN1 : N1.1 pl 0 = nI n := (congrFun ((hq1).p0 hp7) 0).trans hn
      have hw1N1 : N1.1 (pl + 1) 0 = nI nw := (congrFun ((hq1).pk hp7 (k := 1) (by decide)) 0).trans hw1
      refine Rn.iload dX11_greatestPumped_6 rfl ?_
      refine Rn.iconstv (v := 1) dX11_greatestPumped_8 ic_1 ?_
      refine Rn.iload_n dX11_greatestPumped_9 rfl ?_
      refine Rn.ishl dX11_greatestPumped_10 ?_
      refine Rn.topI (y := nI A) ((shl1 N (by omega)).trans (by rw [hA])) ?_
      refine Rn.icmp_ge dX11_greatestPumped_11 (fun hc2 => ?_) (fun hc2 => ?_)
      · skip
        obtain rfl : i = A := by omega
        refine Rn.iload dX11_greatestPumped_124 rfl ?_
        exact Rn.iret (ty := .int) dX11_greatestPumped_126 rfl rfl (hQ N1 hq1 hb1)
      · skip
        exact absurd (nI_le (a := A) (b := i) (by omega) (by omega)) hc2
    | succ k ih =>
      intro i N1 hi hq1 hb1
      have hXN1 := (hq1).xw hX
      have hplN1 : N1.2.2 0 3 = some pl := ((hq1).2.2 0 3 (by decide)).trans hpl
      have hnN1 : N1.1 pl 0 = nI n := (congrFun ((hq1).p0 hp7) 0).trans hn
      have hw1N1 : N1.1 (pl + 1) 0 = nI nw := (congrFun ((hq1).pk hp7 (k := 1) (by decide)) 0).trans hw1
      refine Rn.iload dX11_greatestPumped_6 rfl ?_
      refine Rn.iconstv (v := 1) dX11_greatestPumped_8 ic_1 ?_
      refine Rn.iload_n dX11_greatestPumped_9 rfl ?_
      refine Rn.ishl dX11_greatestPumped_10 ?_
      refine Rn.topI (y := nI A) ((shl1 N (by omega)).trans (by rw [hA])) ?_
      refine Rn.icmp_ge dX11_greatestPumped_11 (fun hc2 => ?_) (fun hc2 => ?_)
      · skip
        exact absurd hc2 (nI_ge (a := i) (b := A) (by omega) (by omega))
      · skip
        refine Rn.aload_n dX11_greatestPumped_14 rfl ?_
        refine Rn.iconstv (v := 1) dX11_greatestPumped_15 ic_1 ?_
        refine Rn.callV1 dX11_greatestPumped_16 vX11_299 (xc0 hXN1) (by decide) rfl (trNow (Q := fun v0 ly0 M0 => v0 = none ∧ ly0 = ly ∧ Tr ly M M0 pl n (pl + 7) nw (fun k => M.1 (pl + 7 + k)) (pl + 18) nu (pl + 21) nv (M.1 75 4) 0 1 (M.1 90) nf (M.1 88) (M.1 89) (vS M.1 75) ∧ quT N1 M0) (Or.inr rfl) hXS0 hF.1 hq1 (fun K h u => ⟨rfl, rfl, h, u⟩)) (by decide) ⟨(Nat.le_of_ble_eq_true rfl), (Nat.le_of_ble_eq_true rfl), (Nat.le_of_ble_eq_true rfl)⟩ (fun h => by cases h) (fun v1 ly1 N2 ⟨q1, q2, hT2, hU2⟩ => ?_)
        rw [q1, q2]
        have hXN2 := (hT2.1).xw hX
        have hplN2 : N2.2.2 0 3 = some pl := ((hT2.1).2.2 0 3 (by decide)).trans hpl
        have hnN2 : N2.1 pl 0 = nI n := (congrFun ((hT2.1).p0 hp7) 0).trans hn
        have hw1N2 : N2.1 (pl + 1) 0 = nI nw := (congrFun ((hT2.1).pk hp7 (k := 1) (by decide)) 0).trans hw1
        refine Rn.iload dX11_greatestPumped_19 rfl ?_
        refine Rn.iconstv (v := -1) dX11_greatestPumped_21 ic_m1 ?_
        refine Rn.icmp_eq dX11_greatestPumped_22 (fun hs => ?_) (fun hs => ?_)
        · skip
          exact absurd hs (fun e => nI_pos (n := q) (by omega) (by rw [e]; decide))
        · skip
          refine Rn.aload_n dX11_greatestPumped_25 rfl ?_
          refine Rn.getR dX11_greatestPumped_26 fX11_43 rfl (xc0 hXN2) (show N2.2.2 0 6 = some 92 from (xp0_6 hXN2)) ?_
          refine Rn.iload dX11_greatestPumped_29 rfl ?_
          refine Rn.iload dX11_greatestPumped_31 rfl ?_
          refine Rn.callV2 dX11_greatestPumped_33 vX11_262 (xc92 hXN2) (by decide) rfl (trFat (Q := fun v0 ly0 M0 => v0 = none ∧ ly0 = ly ∧ Tr ly M M0 pl n (pl + 7) nw (fun k => M.1 (pl + 7 + k)) (pl + 18) nu (pl + 21) nv (M.1 75 4) 0 1 (rfC (M.1 pl 3) (upd (M.1 88) nf (nI q)) (upd (M.1 89) nf y) (fun _ => 0) (nf + 1)) (nf + 1) (upd (M.1 88) nf (nI q)) (upd (M.1 89) nf y) (vS M.1 75) ∧ quT N2 M0) hXS0.ok hT2 hnf hF.2.2 (vp_in_nI (by omega) (by decide)) (fun K h u => ⟨rfl, rfl, h, u⟩)) (by decide) ⟨(Nat.le_of_ble_eq_true rfl), (Nat.le_of_ble_eq_true rfl), (Nat.le_of_ble_eq_true rfl)⟩ (fun h => by cases h) (fun v1 ly1 N3 ⟨q1, q2, hT3, hU3⟩ => ?_)
          rw [q1, q2]
          have hXN3 := (hT3.1).xw hX
          have hplN3 : N3.2.2 0 3 = some pl := ((hT3.1).2.2 0 3 (by decide)).trans hpl
          have hnN3 : N3.1 pl 0 = nI n := (congrFun ((hT3.1).p0 hp7) 0).trans hn
          have hw1N3 : N3.1 (pl + 1) 0 = nI nw := (congrFun ((hT3.1).pk hp7 (k := 1) (by decide)) 0).trans hw1
          refine Rn.iconstv (v := 0) dX11_greatestPumped_36 ic_0 ?_
          refine Rn.istore (lv' := [some (.ref 0), some (.int (nI c)), some (.int F), some (.int (nI N)), some (.int (nI q)), some (.int y), some (.int (pmG (TG M.1 pl n nw (fun k => M.1 (pl + 7 + k)) (pl + 18) nu (pl + 21) nv (M.1 75 4) 0 1 (rfC (M.1 pl 3) (upd (M.1 88) nf (nI q)) (upd (M.1 89) nf y) (fun _ => 0) (nf + 1))) c F (vS M.1 75) n N i)), some (.int (nI i)), some (.int 0)]) dX11_greatestPumped_37 (by decide) rfl ?_
          have loop2 : ∀ (k2 j : Nat) (N4 : Mm), j + k2 = N → Tr ly M N4 pl n (pl + 7) nw (fun k => M.1 (pl + 7 + k)) (pl + 18) nu (pl + 21) nv (M.1 75 4) 0 1 (rfC (M.1 pl 3) (upd (M.1 88) nf (nI q)) (upd (M.1 89) nf y) (fun _ => 0) (nf + 1)) (nf + 1) (upd (M.1 88) nf (nI q)) (upd (M.1 89) nf y) (pmI (TG M.1 pl n nw (fun k => M.1 (pl + 7 + k)) (pl + 18) nu (pl + 21) nv (M.1 75 4) 0 1 (rfC (M.1 pl 3) (upd (M.1 88) nf (nI q)) (upd (M.1 89) nf y) (fun _ => 0) (nf + 1))) c (nI i) F (vS M.1 75) j) → quT N1 N4 → Rn G l mX11_greatestPumped (6, 0, 0, false) 39 [some (.ref 0), some (.int (nI c)), some (.int F), some (.int (nI N)), some (.int (nI q)), some (.int y), some (.int (pmG (TG M.1 pl n nw (fun k => M.1 (pl + 7 + k)) (pl + 18) nu (pl + 21) nv (M.1 75 4) 0 1 (rfC (M.1 pl 3) (upd (M.1 88) nf (nI q)) (upd (M.1 89) nf y) (fun _ => 0) (nf + 1))) c F (vS M.1 75) n N i)), some (.int (nI i)), some (.int (nI j))] [] ly N4 Q := by
            intro k2
            induction k2 with
            | zero =>
              intro j N4 hj hT4 hU4
              have ej : j = N := by omega
              rw [ej] at hT4
              have hXN4 := (hT4.1).xw hX
              have hplN4 : N4.2.2 0 3 = some pl := ((hT4.1).2.2 0 3 (by decide)).trans hpl
              have hnN4 : N4.1 pl 0 = nI n := (congrFun ((hT4.1).p0 hp7) 0).trans hn
              have hw1N4 : N4.1 (pl + 1) 0 = nI nw := (congrFun ((hT4.1).pk hp7 (k := 1) (by decide)) 0).trans hw1
              refine Rn.iload dX11_greatestPumped_39 rfl ?_
              refine Rn.iload_n dX11_greatestPumped_41 rfl ?_
              refine Rn.icmp_ge dX11_greatestPumped_42 (fun hc3 => ?_) (fun hc3 => ?_)
              · skip
                refine Rn.aload_n dX11_greatestPumped_82 rfl ?_
                refine Rn.getR dX11_greatestPumped_83 fX11_43 rfl (xc0 hXN4) (show N4.2.2 0 6 = some 92 from (xp0_6 hXN4)) ?_
                refine Rn.getR dX11_greatestPumped_86 fX11_165 rfl (xc92 hXN4) (show N4.2.2 92 5 = some 93 from (xp92_5 hXN4)) ?_
                refine Rn.aload_n dX11_greatestPumped_89 rfl ?_
                refine Rn.getR dX11_greatestPumped_90 fX11_27 rfl (xc0 hXN4) (show N4.2.2 0 3 = some pl from hplN4) ?_
                refine Rn.getI dX11_greatestPumped_93 fX11_209 rfl (pc0 hXN4 hp7) ?_
                refine Rn.topI (y := nI n) (hnN4) ?_
                refine Rn.callV1 dX11_greatestPumped_96 vX11_245 (xc93 hXN4) (by decide) rfl (trGr hXS0.ok hT4) (by decide) ⟨(Nat.le_of_ble_eq_true rfl), (Nat.le_of_ble_eq_true rfl), (Nat.le_of_ble_eq_true rfl)⟩ (fun h => by cases h) (fun v1 ly1 M1 ⟨q1, q2, q3⟩ => ?_)
                rw [q1, q2, q3]
                refine Rn.istore (lv' := [some (.ref 0), some (.int (nI c)), some (.int F), some (.int (nI N)), some (.int (nI q)), some (.int y), some (.int (pmG (TG M.1 pl n nw (fun k => M.1 (pl + 7 + k)) (pl + 18) nu (pl + 21) nv (M.1 75 4) 0 1 (rfC (M.1 pl 3) (upd (M.1 88) nf (nI q)) (upd (M.1 89) nf y) (fun _ => 0) (nf + 1))) c F (vS M.1 75) n N i)), some (.int (nI i)), some (.int (gr (pmI (TG M.1 pl n nw (fun k => M.1 (pl + 7 + k)) (pl + 18) nu (pl + 21) nv (M.1 75 4) 0 1 (rfC (M.1 pl 3) (upd (M.1 88) nf (nI q)) (upd (M.1 89) nf y) (fun _ => 0) (nf + 1))) c (nI i) F (vS M.1 75) N).1 n))]) dX11_greatestPumped_99 (by decide) rfl ?_
                refine Rn.iload dX11_greatestPumped_101 rfl ?_
                refine Rn.iload dX11_greatestPumped_103 rfl ?_
                refine Rn.icmp_le dX11_greatestPumped_105 (fun hd => ?_) (fun hd => ?_)
                · skip
                  have e1 : pmG (TG M.1 pl n nw (fun k => M.1 (pl + 7 + k)) (pl + 18) nu (pl + 21) nv (M.1 75 4) 0 1 (rfC (M.1 pl 3) (upd (M.1 88) nf (nI q)) (upd (M.1 89) nf y) (fun _ => 0) (nf + 1))) c F (vS M.1 75) n N (i + 1) = pmG (TG M.1 pl n nw (fun k => M.1 (pl + 7 + k)) (pl + 18) nu (pl + 21) nv (M.1 75 4) 0 1 (rfC (M.1 pl 3) (upd (M.1 88) nf (nI q)) (upd (M.1 89) nf y) (fun _ => 0) (nf + 1))) c F (vS M.1 75) n N i := if_pos hd
                  have e2 : pmB (TG M.1 pl n nw (fun k => M.1 (pl + 7 + k)) (pl + 18) nu (pl + 21) nv (M.1 75 4) 0 1 (rfC (M.1 pl 3) (upd (M.1 88) nf (nI q)) (upd (M.1 89) nf y) (fun _ => 0) (nf + 1))) c F (vS M.1 75) n N (M0.1 0 17) (i + 1) = pmB (TG M.1 pl n nw (fun k => M.1 (pl + 7 + k)) (pl + 18) nu (pl + 21) nv (M.1 75 4) 0 1 (rfC (M.1 pl 3) (upd (M.1 88) nf (nI q)) (upd (M.1 89) nf y) (fun _ => 0) (nf + 1))) c F (vS M.1 75) n N (M0.1 0 17) i := if_pos hd
                  refine Rn.forget (lv' := [some (.ref 0), some (.int (nI c)), some (.int F), some (.int (nI N)), some (.int (nI q)), some (.int y), some (.int (pmG (TG M.1 pl n nw (fun k => M.1 (pl + 7 + k)) (pl + 18) nu (pl + 21) nv (M.1 75 4) 0 1 (rfC (M.1 pl 3) (upd (M.1 88) nf (nI q)) (upd (M.1 89) nf y) (fun _ => 0) (nf + 1))) c F (vS M.1 75) n N i)), some (.int (nI i)), none]) (⟨rfl, ⟨rfl, ⟨rfl, ⟨rfl, ⟨rfl, ⟨rfl, ⟨rfl, ⟨rfl, trivial⟩⟩⟩⟩⟩⟩⟩⟩) ?_
                  rw [← e1]
                  refine Rn.iincN (lv' := [some (.ref 0), some (.int (nI c)), some (.int F), some (.int (nI N)), some (.int (nI q)), some (.int y), some (.int (pmG (TG M.1 pl n nw (fun k => M.1 (pl + 7 + k)) (pl + 18) nu (pl + 21) nv (M.1 75 4) 0 1 (rfC (M.1 pl 3) (upd (M.1 88) nf (nI q)) (upd (M.1 89) nf y) (fun _ => 0) (nf + 1))) c F (vS M.1 75) n N (i + 1))), some (.int (nI (i + 1))), none]) dX11_greatestPumped_118 rfl (by decide) rfl ?_
                  refine Rn.goto dX11_greatestPumped_121 ?_
                  exact ih (i + 1) N4 (by omega) hT4.1 (by rw [e2, hU4.1 0 (by omega)]; exact hb1)
                · skip
                  have e1 : pmG (TG M.1 pl n nw (fun k => M.1 (pl + 7 + k)) (pl + 18) nu (pl + 21) nv (M.1 75 4) 0 1 (rfC (M.1 pl 3) (upd (M.1 88) nf (nI q)) (upd (M.1 89) nf y) (fun _ => 0) (nf + 1))) c F (vS M.1 75) n N (i + 1) = gr (pmI (TG M.1 pl n nw (fun k => M.1 (pl + 7 + k)) (pl + 18) nu (pl + 21) nv (M.1 75 4) 0 1 (rfC (M.1 pl 3) (upd (M.1 88) nf (nI q)) (upd (M.1 89) nf y) (fun _ => 0) (nf + 1))) c (nI i) F (vS M.1 75) N).1 n := if_neg hd
                  have e2 : pmB (TG M.1 pl n nw (fun k => M.1 (pl + 7 + k)) (pl + 18) nu (pl + 21) nv (M.1 75 4) 0 1 (rfC (M.1 pl 3) (upd (M.1 88) nf (nI q)) (upd (M.1 89) nf y) (fun _ => 0) (nf + 1))) c F (vS M.1 75) n N (M0.1 0 17) (i + 1) = nI i := if_neg hd
                  refine Rn.iload dX11_greatestPumped_108 rfl ?_
                  refine Rn.istore (lv' := [some (.ref 0), some (.int (nI c)), some (.int F), some (.int (nI N)), some (.int (nI q)), some (.int y), some (.int (gr (pmI (TG M.1 pl n nw (fun k => M.1 (pl + 7 + k)) (pl + 18) nu (pl + 21) nv (M.1 75 4) 0 1 (rfC (M.1 pl 3) (upd (M.1 88) nf (nI q)) (upd (M.1 89) nf y) (fun _ => 0) (nf + 1))) c (nI i) F (vS M.1 75) N).1 n)), some (.int (nI i)), some (.int (gr (pmI (TG M.1 pl n nw (fun k => M.1 (pl + 7 + k)) (pl + 18) nu (pl + 21) nv (M.1 75 4) 0 1 (rfC (M.1 pl 3) (upd (M.1 88) nf (nI q)) (upd (M.1 89) nf y) (fun _ => 0) (nf + 1))) c (nI i) F (vS M.1 75) N).1 n))]) dX11_greatestPumped_110 (by decide) rfl ?_
                  refine Rn.aload_n dX11_greatestPumped_112 rfl ?_
                  refine Rn.iload dX11_greatestPumped_113 rfl ?_
                  refine Rn.putI dX11_greatestPumped_115 fX11_349 rfl rfl rfl (xc0 hXN4) ?_
                  refine Rn.forget (lv' := [some (.ref 0), some (.int (nI c)), some (.int F), some (.int (nI N)), some (.int (nI q)), some (.int y), some (.int (gr (pmI (TG M.1 pl n nw (fun k => M.1 (pl + 7 + k)) (pl + 18) nu (pl + 21) nv (M.1 75 4) 0 1 (rfC (M.1 pl 3) (upd (M.1 88) nf (nI q)) (upd (M.1 89) nf y) (fun _ => 0) (nf + 1))) c (nI i) F (vS M.1 75) N).1 n)), some (.int (nI i)), none]) (⟨rfl, ⟨rfl, ⟨rfl, ⟨rfl, ⟨rfl, ⟨rfl, ⟨rfl, ⟨rfl, trivial⟩⟩⟩⟩⟩⟩⟩⟩) ?_
                  rw [← e1]
                  refine Rn.iincN (lv' := [some (.ref 0), some (.int (nI c)), some (.int F), some (.int (nI N)), some (.int (nI q)), some (.int y), some (.int (pmG (TG M.1 pl n nw (fun k => M.1 (pl + 7 + k)) (pl + 18) nu (pl + 21) nv (M.1 75 4) 0 1 (rfC (M.1 pl 3) (upd (M.1 88) nf (nI q)) (upd (M.1 89) nf y) (fun _ => 0) (nf + 1))) c F (vS M.1 75) n N (i + 1))), some (.int (nI (i + 1))), none]) dX11_greatestPumped_118 rfl (by decide) rfl ?_
                  refine Rn.goto dX11_greatestPumped_121 ?_
                  exact ih (i + 1) _ (by omega) (hT4.1.tr2 ⟨fun k h _ _ _ _ _ => sI_ne h, fun j h => by rw [sI_at]; exact pk_un h, fun _ _ _ => rfl⟩) (by rw [e2, sI_at, pk_us])
              · skip
                exact absurd (nI_le (a := N) (b := j) (by omega) (by omega)) hc3
            | succ k2 ih2 =>
              intro j N4 hj hT4 hU4
              have hXN4 := (hT4.1).xw hX
              have hplN4 : N4.2.2 0 3 = some pl := ((hT4.1).2.2 0 3 (by decide)).trans hpl
              have hnN4 : N4.1 pl 0 = nI n := (congrFun ((hT4.1).p0 hp7) 0).trans hn
              have hw1N4 : N4.1 (pl + 1) 0 = nI nw := (congrFun ((hT4.1).pk hp7 (k := 1) (by decide)) 0).trans hw1
              refine Rn.iload dX11_greatestPumped_39 rfl ?_
              refine Rn.iload_n dX11_greatestPumped_41 rfl ?_
              refine Rn.icmp_ge dX11_greatestPumped_42 (fun hc3 => ?_) (fun hc3 => ?_)
              · skip
                exact absurd hc3 (nI_ge (a := j) (b := N) (by omega) (by omega))
              · skip
                refine Rn.aload_n dX11_greatestPumped_45 rfl ?_
                refine Rn.getR dX11_greatestPumped_46 fX11_43 rfl (xc0 hXN4) (show N4.2.2 0 6 = some 92 from (xp0_6 hXN4)) ?_
                refine Rn.getR dX11_greatestPumped_49 fX11_165 rfl (xc92 hXN4) (show N4.2.2 92 5 = some 93 from (xp92_5 hXN4)) ?_
                refine Rn.getR dX11_greatestPumped_52 fX11_353 rfl (xc93 hXN4) (show N4.2.2 93 2 = some 96 from (xp93_2 hXN4)) ?_
                refine Rn.iload_n dX11_greatestPumped_55 rfl ?_
                refine Rn.dup2 dX11_greatestPumped_56 rfl rfl ?_
                refine Rn.ialdN (k0 := c) dX11_greatestPumped_57 (xc96 hXN4) (by omega) (by decide) ?_
                refine Rn.iload dX11_greatestPumped_58 rfl ?_
                refine Rn.iload dX11_greatestPumped_60 rfl ?_
                refine Rn.ishr dX11_greatestPumped_62 ?_
                refine Rn.iconstv (v := 1) dX11_greatestPumped_63 ic_1 ?_
                refine Rn.iand dX11_greatestPumped_64 ?_
                refine Rn.iload_n dX11_greatestPumped_65 rfl ?_
                refine Rn.imul dX11_greatestPumped_66 ?_
                refine Rn.isub dX11_greatestPumped_67 ?_
                refine Rn.iastN (k0 := c) dX11_greatestPumped_68 (xc96 hXN4) (by omega) (by decide) ?_
                have hpu := hT4.2.2.2.2.2.2.2.2.2.2.1.2.2.2.1
                have hT5m : Tr ly M (sI N4 96 (upd (N4.1 96) c ((N4.1 96 c) - ((((nI i) >>> ((nI j) &&& 31)) &&& 1) * F)))) pl n (pl + 7) nw (fun k => M.1 (pl + 7 + k)) (pl + 18) nu (pl + 21) nv (M.1 75 4) 0 1 (rfC (M.1 pl 3) (upd (M.1 88) nf (nI q)) (upd (M.1 89) nf y) (fun _ => 0) (nf + 1)) (nf + 1) (upd (M.1 88) nf (nI q)) (upd (M.1 89) nf y) (pmP c (nI i) F j (pmI (TG M.1 pl n nw (fun k => M.1 (pl + 7 + k)) (pl + 18) nu (pl + 21) nv (M.1 75 4) 0 1 (rfC (M.1 pl 3) (upd (M.1 88) nf (nI q)) (upd (M.1 89) nf y) (fun _ => 0) (nf + 1))) c (nI i) F (vS M.1 75) j)) := Tr.s_pu hXS0.ok hT4 _ (hpu.up (k := c) (congrArg (fun x => x - ((nI i >>> (nI j &&& 31)) &&& 1) * F) (hpu c (by omega))))
                have hU5 : quT N4 (sI N4 96 (upd (N4.1 96) c ((N4.1 96 c) - ((((nI i) >>> ((nI j) &&& 31)) &&& 1) * F)))) := ⟨fun k hk => sI_ne (by omega), fun _ _ _ => rfl⟩
                revert hT5m hU5
                generalize (sI N4 96 (upd (N4.1 96) c ((N4.1 96 c) - ((((nI i) >>> ((nI j) &&& 31)) &&& 1) * F)))) = N5
                intro hT5m hU5
                have hT5 : Tr ly M N5 pl n (pl + 7) nw (fun k => M.1 (pl + 7 + k)) (pl + 18) nu (pl + 21) nv (M.1 75 4) 0 1 (rfC (M.1 pl 3) (upd (M.1 88) nf (nI q)) (upd (M.1 89) nf y) (fun _ => 0) (nf + 1)) (nf + 1) (upd (M.1 88) nf (nI q)) (upd (M.1 89) nf y) (pmP c (nI i) F j (pmI (TG M.1 pl n nw (fun k => M.1 (pl + 7 + k)) (pl + 18) nu (pl + 21) nv (M.1 75 4) 0 1 (rfC (M.1 pl 3) (upd (M.1 88) nf (nI q)) (upd (M.1 89) nf y) (fun _ => 0) (nf + 1))) c (nI i) F (vS M.1 75) j)) := hT5m
                have hXN5 := (hT5.1).xw hX
                have hplN5 : N5.2.2 0 3 = some pl := ((hT5.1).2.2 0 3 (by decide)).trans hpl
                have hnN5 : N5.1 pl 0 = nI n := (congrFun ((hT5.1).p0 hp7) 0).trans hn
                have hw1N5 : N5.1 (pl + 1) 0 = nI nw := (congrFun ((hT5.1).pk hp7 (k := 1) (by decide)) 0).trans hw1
                refine Rn.aload_n dX11_greatestPumped_69 rfl ?_
                refine Rn.getR dX11_greatestPumped_70 fX11_43 rfl (xc0 hXN5) (show N5.2.2 0 6 = some 92 from (xp0_6 hXN5)) ?_
                refine Rn.callV0 dX11_greatestPumped_73 vX11_251 (xc92 hXN5) (by decide) rfl (trPass (Q := fun v0 ly0 M0 => v0 = none ∧ ly0 = ly ∧ Tr ly M M0 pl n (pl + 7) nw (fun k => M.1 (pl + 7 + k)) (pl + 18) nu (pl + 21) nv (M.1 75 4) 0 1 (rfC (M.1 pl 3) (upd (M.1 88) nf (nI q)) (upd (M.1 89) nf y) (fun _ => 0) (nf + 1)) (nf + 1) (upd (M.1 88) nf (nI q)) (upd (M.1 89) nf y) (pmI (TG M.1 pl n nw (fun k => M.1 (pl + 7 + k)) (pl + 18) nu (pl + 21) nv (M.1 75 4) 0 1 (rfC (M.1 pl 3) (upd (M.1 88) nf (nI q)) (upd (M.1 89) nf y) (fun _ => 0) (nf + 1))) c (nI i) F (vS M.1 75) (j + 1)) ∧ quT N5 M0) hXS0.ok hT5 (fun K h u => ⟨rfl, rfl, h, u⟩)) (by decide) ⟨(Nat.le_of_ble_eq_true rfl), (Nat.le_of_ble_eq_true rfl), (Nat.le_of_ble_eq_true rfl)⟩ (fun h => by cases h) (fun v1 ly1 N6 ⟨q1, q2, hT6, hU6⟩ => ?_)
                rw [q1, q2]
                have hXN6 := (hT6.1).xw hX
                have hplN6 : N6.2.2 0 3 = some pl := ((hT6.1).2.2 0 3 (by decide)).trans hpl
                have hnN6 : N6.1 pl 0 = nI n := (congrFun ((hT6.1).p0 hp7) 0).trans hn
                have hw1N6 : N6.1 (pl + 1) 0 = nI nw := (congrFun ((hT6.1).pk hp7 (k := 1) (by decide)) 0).trans hw1
                refine Rn.iincN (lv' := [some (.ref 0), some (.int (nI c)), some (.int F), some (.int (nI N)), some (.int (nI q)), some (.int y), some (.int (pmG (TG M.1 pl n nw (fun k => M.1 (pl + 7 + k)) (pl + 18) nu (pl + 21) nv (M.1 75 4) 0 1 (rfC (M.1 pl 3) (upd (M.1 88) nf (nI q)) (upd (M.1 89) nf y) (fun _ => 0) (nf + 1))) c F (vS M.1 75) n N i)), some (.int (nI i)), some (.int (nI (j + 1)))]) dX11_greatestPumped_76 rfl (by decide) rfl ?_
                refine Rn.goto dX11_greatestPumped_79 ?_
                exact ih2 (j + 1) N6 (by omega) hT6 (hU4.tr (hU5.tr hU6))
          exact loop2 N 0 N3 (by omega) hT3 (hU2.tr hU3)
  exact loop A 0 M0 (by omega) hq0 rfl
theorem tX11_pump {G : Gx} {l : Launch} {ly : Ly} {M : Mm} {pl n nw nu nv nf : Nat} {x F z v : Int32} (hXS : XS ly M pl n nw nu nv) (hF : M.1 87 0 = nI nf ∧ nf ≤ 8 ∧ ∀ i, i < nf → vp_in (M.1 88 i) 12) {Q : Qt} (hQ : (¬ ((∃ j : Nat, j < n ∧ x = nI j) ∧ (1 ≤ F ∧ F ≤ 99) ∧ (1 ≤ z ∧ z ≤ 7) ∧ (0 ≤ v ∧ v ≤ 1)) → Q (some (.int (-1))) ly M) ∧ (∀ c N : Nat, c < n → x = nI c → (1 ≤ F ∧ F ≤ 99) → 1 ≤ N → N ≤ 7 → z = nI N → (0 ≤ v ∧ v ≤ 1) → ∀ M' : Mm, quX M M' → Q (some (.int (if v = 0 then pmG (TG M.1 pl n nw (fun k => M.1 (pl + 7 + k)) (pl + 18) nu (pl + 21) nv (M.1 75 4) 0 1 (M.1 90)) c F (vS M.1 75) n N (2 ^ N) else pmB (TG M.1 pl n nw (fun k => M.1 (pl + 7 + k)) (pl + 18) nu (pl + 21) nv (M.1 75 4) 0 1 (M.1 90)) c F (vS M.1 75) n N (M.1 0 17) (2 ^ N)))) ly M')) : Mt G l mX11_pump (8, 0, 0, false) [.ref 0, .int x, .int F, .int z, .int v] ly M Q := by
  have hXS0 := hXS
  obtain ⟨hX, hpl, hp7, ⟨n0, n1, n2, n3⟩, ⟨hn, hn2, hn12⟩, ⟨hw1, hw2, hw6⟩, ⟨hu1, hu2, hv1, hv2⟩, hgl, hbb⟩ := hXS
  refine Mt.of (lv := [some (.ref 0), some (.int x), some (.int F), some (.int z), some (.int v), none]) rfl ?_
  refine Rn.aload_n dX11_pump_0 rfl ?_
  refine Rn.iload_n dX11_pump_1 rfl ?_
  refine Rn.callV1 dX11_pump_2 vX11_159 (xc0 hX) (by decide) rfl (tX11_isCell hX hpl hp7) (by decide) ⟨(Nat.le_of_ble_eq_true rfl), (Nat.le_of_ble_eq_true rfl), (Nat.le_of_ble_eq_true rfl)⟩ (fun h => by cases h) (fun v1 ly1 M1 ⟨q1, q2, q3⟩ => ?_)
  rw [q1, q2, q3]
  refine Rn.topI (y := inN x (nI n)) (by rw [hn]) ?_
  refine Rn.if_eq dX11_pump_5 (fun g1 => ?_) (fun g1 => ?_)
  · skip
    refine Rn.iconstv (v := -1) dX11_pump_38 ic_m1 ?_
    exact Rn.iret (ty := .int) dX11_pump_39 rfl rfl (hQ.1 (fun h => (inN_1 (x := x) (k := n) (lt31c hn12)).elim (fun k => k.2 h.1) (fun k => absurd (k.1.symm.trans g1) (by decide))))
  · skip
    obtain ⟨c, hc, rfl⟩ : ∃ j : Nat, j < n ∧ x = nI j := (inN_1 (x := x) (k := n) (lt31c hn12)).elim (fun k => absurd k.1 g1) (fun k => k.2)
    refine Rn.iload_n dX11_pump_8 rfl ?_
    refine Rn.iconstv (v := 1) dX11_pump_9 ic_1 ?_
    refine Rn.bipushv (v := 99) dX11_pump_10 bp_99 ?_
    refine Rn.callS3 dX11_pump_12 vX11_295 (tX11_isIn) (by decide) ⟨(Nat.le_of_ble_eq_true rfl), (Nat.le_of_ble_eq_true rfl), (Nat.le_of_ble_eq_true rfl)⟩ (fun h => by cases h) (fun v1 ly1 M1 ⟨q1, q2, q3⟩ => ?_)
    rw [q1, q2, q3]
    refine Rn.if_eq dX11_pump_15 (fun g2 => ?_) (fun g2 => ?_)
    · skip
      refine Rn.iconstv (v := -1) dX11_pump_38 ic_m1 ?_
      exact Rn.iret (ty := .int) dX11_pump_39 rfl rfl (hQ.1 (fun h => inR_1.elim (fun k => k.2 h.2.1) (fun k => absurd (k.1.symm.trans g2) (by decide))))
    · skip
      have g2h : 1 ≤ F ∧ F ≤ 99 := (inR_1 (x := F) (lo := 1) (hi := 99)).elim (fun k => absurd k.1 g2) (fun k => k.2)
      refine Rn.iload_n dX11_pump_18 rfl ?_
      refine Rn.iconstv (v := 1) dX11_pump_19 ic_1 ?_
      refine Rn.bipushv (v := 7) dX11_pump_20 bp_7 ?_
      refine Rn.callS3 dX11_pump_22 vX11_295 (tX11_isIn) (by decide) ⟨(Nat.le_of_ble_eq_true rfl), (Nat.le_of_ble_eq_true rfl), (Nat.le_of_ble_eq_true rfl)⟩ (fun h => by cases h) (fun v1 ly1 M1 ⟨q1, q2, q3⟩ => ?_)
      rw [q1, q2, q3]
      refine Rn.if_eq dX11_pump_25 (fun g3 => ?_) (fun g3 => ?_)
      · skip
        refine Rn.iconstv (v := -1) dX11_pump_38 ic_m1 ?_
        exact Rn.iret (ty := .int) dX11_pump_39 rfl rfl (hQ.1 (fun h => inR_1.elim (fun k => k.2 h.2.2.1) (fun k => absurd (k.1.symm.trans g3) (by decide))))
      · skip
        obtain ⟨N, hN1, hN2, rfl⟩ : ∃ j : Nat, 1 ≤ j ∧ j ≤ 7 ∧ z = nI j := (inR_1 (x := z) (lo := 1) (hi := 7)).elim (fun k => absurd k.1 g3) (fun k => nat_of (b := 7) (k := 7) rfl (by decide) k.2.1 k.2.2)
        refine Rn.iload dX11_pump_28 rfl ?_
        refine Rn.iconstv (v := 0) dX11_pump_30 ic_0 ?_
        refine Rn.iconstv (v := 1) dX11_pump_31 ic_1 ?_
        refine Rn.callS3 dX11_pump_32 vX11_295 (tX11_isIn) (by decide) ⟨(Nat.le_of_ble_eq_true rfl), (Nat.le_of_ble_eq_true rfl), (Nat.le_of_ble_eq_true rfl)⟩ (fun h => by cases h) (fun v1 ly1 M1 ⟨q1, q2, q3⟩ => ?_)
        rw [q1, q2, q3]
        refine Rn.if_ne dX11_pump_35 (fun g4 => ?_) (fun g4 => ?_)
        · skip
          have g4h : 0 ≤ v ∧ v ≤ 1 := (inR_1 (x := v) (lo := 0) (hi := 1)).elim (fun k => absurd k.1 g4) (fun k => k.2)
          have hR := hQ.2 c N hc rfl g2h hN1 hN2 rfl g4h
          refine Rn.aload_n dX11_pump_40 rfl ?_
          refine Rn.iload_n dX11_pump_41 rfl ?_
          refine Rn.iload_n dX11_pump_42 rfl ?_
          refine Rn.iload_n dX11_pump_43 rfl ?_
          refine Rn.iconstv (v := -1) dX11_pump_44 ic_m1 ?_
          refine Rn.iconstv (v := 0) dX11_pump_45 ic_0 ?_
          refine Rn.callV5 dX11_pump_46 vX11_345 (xc0 hX) (by decide) rfl (tX11_pumped_n (Q := fun v0 ly0 M0 => v0 = some (.int (pmG (TG M.1 pl n nw (fun k => M.1 (pl + 7 + k)) (pl + 18) nu (pl + 21) nv (M.1 75 4) 0 1 (M.1 90)) c F (vS M.1 75) n N (2 ^ N))) ∧ ly0 = ly ∧ quX M M0 ∧ M0.1 0 17 = pmB (TG M.1 pl n nw (fun k => M.1 (pl + 7 + k)) (pl + 18) nu (pl + 21) nv (M.1 75 4) 0 1 (M.1 90)) c F (vS M.1 75) n N (M.1 0 17) (2 ^ N)) (q := 0) quX.rf hc hN2 hXS0 hF (fun K h1 h2 => ⟨rfl, rfl, h1, h2⟩)) (by decide) ⟨(Nat.le_of_ble_eq_true rfl), (Nat.le_of_ble_eq_true rfl), (Nat.le_of_ble_eq_true rfl)⟩ (fun h => by cases h) (fun v1 ly1 N1 ⟨q1, q2, hq1, hb1⟩ => ?_)
          rw [q1, q2]
          have hXN1 := (hq1).xw hX
          have hplN1 : N1.2.2 0 3 = some pl := ((hq1).2.2 0 3 (by decide)).trans hpl
          have hnN1 : N1.1 pl 0 = nI n := (congrFun ((hq1).p0 hp7) 0).trans hn
          have hw1N1 : N1.1 (pl + 1) 0 = nI nw := (congrFun ((hq1).pk hp7 (k := 1) (by decide)) 0).trans hw1
          refine Rn.istore (lv' := [some (.ref 0), some (.int (nI c)), some (.int F), some (.int (nI N)), some (.int v), some (.int (pmG (TG M.1 pl n nw (fun k => M.1 (pl + 7 + k)) (pl + 18) nu (pl + 21) nv (M.1 75 4) 0 1 (M.1 90)) c F (vS M.1 75) n N (2 ^ N)))]) dX11_pump_49 (by decide) rfl ?_
          refine Rn.iload dX11_pump_51 rfl ?_
          refine Rn.if_ne dX11_pump_53 (fun hv => ?_) (fun hv => ?_)
          · skip
            refine Rn.aload_n dX11_pump_61 rfl ?_
            refine Rn.getI dX11_pump_62 fX11_349 rfl (xc0 hXN1) ?_
            refine Rn.topI (y := pmB (TG M.1 pl n nw (fun k => M.1 (pl + 7 + k)) (pl + 18) nu (pl + 21) nv (M.1 75 4) 0 1 (M.1 90)) c F (vS M.1 75) n N (M.1 0 17) (2 ^ N)) (hb1) ?_
            exact Rn.iret (ty := .int) dX11_pump_65 rfl rfl (by have h := hR N1 hq1; rw [if_neg hv] at h; exact h)
          · skip
            refine Rn.iload dX11_pump_56 rfl ?_
            refine Rn.goto dX11_pump_58 ?_
            exact Rn.iret (ty := .int) dX11_pump_65 rfl rfl (by have h := hR N1 hq1; rw [if_pos hv] at h; exact h)
        · skip
          refine Rn.iconstv (v := -1) dX11_pump_38 ic_m1 ?_
          exact Rn.iret (ty := .int) dX11_pump_39 rfl rfl (hQ.1 (fun h => inR_1.elim (fun k => k.2 h.2.2.2) (fun k => absurd (k.1.symm.trans g4) (by decide))))
def kpS (G : Nat → Int32) : Nat → Int32 × Int32
  | 0 => (0, 2147483647)
  | q + 1 => if (kpS G q).2 ≤ G q then kpS G q else (nI q, G q)
theorem tX11_keeper {G : Gx} {l : Launch} {ly : Ly} {M : Mm} {pl n nw nu nv nf : Nat} {x F z y v : Int32} (hXS : XS ly M pl n nw nu nv) (hF : M.1 87 0 = nI nf ∧ nf ≤ 8 ∧ ∀ i, i < nf → vp_in (M.1 88 i) 12) {Q : Qt} (hQ : (¬ ((∃ j : Nat, j < n ∧ x = nI j) ∧ (1 ≤ F ∧ F ≤ 99) ∧ (1 ≤ z ∧ z ≤ 5) ∧ (1 ≤ y ∧ y ≤ 99) ∧ (0 ≤ v ∧ v ≤ 1) ∧ nf < 8) → Q (some (.int (-1))) ly M) ∧ (∀ c N : Nat, c < n → x = nI c → (1 ≤ F ∧ F ≤ 99) → 1 ≤ N → N ≤ 5 → z = nI N → (1 ≤ y ∧ y ≤ 99) → (0 ≤ v ∧ v ≤ 1) → nf < 8 → ∀ M' : Mm, quX M M' → Q (some (.int (if v = 0 then (kpS (fun q => pmG (TG M.1 pl n nw (fun k => M.1 (pl + 7 + k)) (pl + 18) nu (pl + 21) nv (M.1 75 4) 0 1 (rfC (M.1 pl 3) (upd (M.1 88) nf (nI q)) (upd (M.1 89) nf y) (fun _ => 0) (nf + 1))) c F (vS M.1 75) n N (2 ^ N)) n).1 else (kpS (fun q => pmG (TG M.1 pl n nw (fun k => M.1 (pl + 7 + k)) (pl + 18) nu (pl + 21) nv (M.1 75 4) 0 1 (rfC (M.1 pl 3) (upd (M.1 88) nf (nI q)) (upd (M.1 89) nf y) (fun _ => 0) (nf + 1))) c F (vS M.1 75) n N (2 ^ N)) n).2))) ly M')) : Mt G l mX11_keeper (8, 0, 0, false) [.ref 0, .int x, .int F, .int z, .int y, .int v] ly M Q := by
  have hXS0 := hXS
  obtain ⟨hX, hpl, hp7, ⟨n0, n1, n2, n3⟩, ⟨hn, hn2, hn12⟩, ⟨hw1, hw2, hw6⟩, ⟨hu1, hu2, hv1, hv2⟩, hgl, hbb⟩ := hXS
  refine Mt.of (lv := [some (.ref 0), some (.int x), some (.int F), some (.int z), some (.int y), some (.int v), none, none, none, none]) rfl ?_
  refine Rn.aload_n dX11_keeper_0 rfl ?_
  refine Rn.iload_n dX11_keeper_1 rfl ?_
  refine Rn.callV1 dX11_keeper_2 vX11_159 (xc0 hX) (by decide) rfl (tX11_isCell hX hpl hp7) (by decide) ⟨(Nat.le_of_ble_eq_true rfl), (Nat.le_of_ble_eq_true rfl), (Nat.le_of_ble_eq_true rfl)⟩ (fun h => by cases h) (fun v1 ly1 M1 ⟨q1, q2, q3⟩ => ?_)
  rw [q1, q2, q3]
  refine Rn.topI (y := inN x (nI n)) (by rw [hn]) ?_
  refine Rn.if_eq dX11_keeper_5 (fun g1 => ?_) (fun g1 => ?_)
  · skip
    refine Rn.iconstv (v := -1) dX11_keeper_60 ic_m1 ?_
    exact Rn.iret (ty := .int) dX11_keeper_61 rfl rfl (hQ.1 (fun h => (inN_1 (x := x) (k := n) (lt31c hn12)).elim (fun k => k.2 h.1) (fun k => absurd (k.1.symm.trans g1) (by decide))))
  · skip
    obtain ⟨c, hc, rfl⟩ : ∃ j : Nat, j < n ∧ x = nI j := (inN_1 (x := x) (k := n) (lt31c hn12)).elim (fun k => absurd k.1 g1) (fun k => k.2)
    refine Rn.iload_n dX11_keeper_8 rfl ?_
    refine Rn.iconstv (v := 1) dX11_keeper_9 ic_1 ?_
    refine Rn.bipushv (v := 99) dX11_keeper_10 bp_99 ?_
    refine Rn.callS3 dX11_keeper_12 vX11_295 (tX11_isIn) (by decide) ⟨(Nat.le_of_ble_eq_true rfl), (Nat.le_of_ble_eq_true rfl), (Nat.le_of_ble_eq_true rfl)⟩ (fun h => by cases h) (fun v1 ly1 M1 ⟨q1, q2, q3⟩ => ?_)
    rw [q1, q2, q3]
    refine Rn.if_eq dX11_keeper_15 (fun g2 => ?_) (fun g2 => ?_)
    · skip
      refine Rn.iconstv (v := -1) dX11_keeper_60 ic_m1 ?_
      exact Rn.iret (ty := .int) dX11_keeper_61 rfl rfl (hQ.1 (fun h => inR_1.elim (fun k => k.2 h.2.1) (fun k => absurd (k.1.symm.trans g2) (by decide))))
    · skip
      have g2h : 1 ≤ F ∧ F ≤ 99 := (inR_1 (x := F) (lo := 1) (hi := 99)).elim (fun k => absurd k.1 g2) (fun k => k.2)
      refine Rn.iload_n dX11_keeper_18 rfl ?_
      refine Rn.iconstv (v := 1) dX11_keeper_19 ic_1 ?_
      refine Rn.iconstv (v := 5) dX11_keeper_20 ic_5 ?_
      refine Rn.callS3 dX11_keeper_21 vX11_295 (tX11_isIn) (by decide) ⟨(Nat.le_of_ble_eq_true rfl), (Nat.le_of_ble_eq_true rfl), (Nat.le_of_ble_eq_true rfl)⟩ (fun h => by cases h) (fun v1 ly1 M1 ⟨q1, q2, q3⟩ => ?_)
      rw [q1, q2, q3]
      refine Rn.if_eq dX11_keeper_24 (fun g3 => ?_) (fun g3 => ?_)
      · skip
        refine Rn.iconstv (v := -1) dX11_keeper_60 ic_m1 ?_
        exact Rn.iret (ty := .int) dX11_keeper_61 rfl rfl (hQ.1 (fun h => inR_1.elim (fun k => k.2 h.2.2.1) (fun k => absurd (k.1.symm.trans g3) (by decide))))
      · skip
        obtain ⟨N, hN1, hN2, rfl⟩ : ∃ j : Nat, 1 ≤ j ∧ j ≤ 5 ∧ z = nI j := (inR_1 (x := z) (lo := 1) (hi := 5)).elim (fun k => absurd k.1 g3) (fun k => nat_of (b := 5) (k := 5) rfl (by decide) k.2.1 k.2.2)
        refine Rn.iload dX11_keeper_27 rfl ?_
        refine Rn.callS1 dX11_keeper_29 vX11_259 (tX11_isCalm) (by decide) ⟨(Nat.le_of_ble_eq_true rfl), (Nat.le_of_ble_eq_true rfl), (Nat.le_of_ble_eq_true rfl)⟩ (fun h => by cases h) (fun v1 ly1 M1 ⟨q1, q2, q3⟩ => ?_)
        rw [q1, q2, q3]
        refine Rn.if_eq dX11_keeper_32 (fun g4 => ?_) (fun g4 => ?_)
        · skip
          refine Rn.iconstv (v := -1) dX11_keeper_60 ic_m1 ?_
          exact Rn.iret (ty := .int) dX11_keeper_61 rfl rfl (hQ.1 (fun h => inR_1.elim (fun k => k.2 h.2.2.2.1) (fun k => absurd (k.1.symm.trans g4) (by decide))))
        · skip
          have g4h : 1 ≤ y ∧ y ≤ 99 := (inR_1 (x := y) (lo := 1) (hi := 99)).elim (fun k => absurd k.1 g4) (fun k => k.2)
          refine Rn.iload dX11_keeper_35 rfl ?_
          refine Rn.iconstv (v := 0) dX11_keeper_37 ic_0 ?_
          refine Rn.iconstv (v := 1) dX11_keeper_38 ic_1 ?_
          refine Rn.callS3 dX11_keeper_39 vX11_295 (tX11_isIn) (by decide) ⟨(Nat.le_of_ble_eq_true rfl), (Nat.le_of_ble_eq_true rfl), (Nat.le_of_ble_eq_true rfl)⟩ (fun h => by cases h) (fun v1 ly1 M1 ⟨q1, q2, q3⟩ => ?_)
          rw [q1, q2, q3]
          refine Rn.if_eq dX11_keeper_42 (fun g5 => ?_) (fun g5 => ?_)
          · skip
            refine Rn.iconstv (v := -1) dX11_keeper_60 ic_m1 ?_
            exact Rn.iret (ty := .int) dX11_keeper_61 rfl rfl (hQ.1 (fun h => inR_1.elim (fun k => k.2 h.2.2.2.2.1) (fun k => absurd (k.1.symm.trans g5) (by decide))))
          · skip
            have g5h : 0 ≤ v ∧ v ≤ 1 := (inR_1 (x := v) (lo := 0) (hi := 1)).elim (fun k => absurd k.1 g5) (fun k => k.2)
            refine Rn.aload_n dX11_keeper_45 rfl ?_
            refine Rn.getR dX11_keeper_46 fX11_39 rfl (xc0 hX) (show M.2.2 0 5 = some 75 from (xp0_5 hX)) ?_
            refine Rn.getR dX11_keeper_49 fX11_215 rfl (xc75 hX) (show M.2.2 75 11 = some 87 from (xp75_11 hX)) ?_
            refine Rn.getI dX11_keeper_52 fX11_219 rfl (xc87 hX) ?_
            refine Rn.topI (y := nI nf) (hF.1) ?_
            refine Rn.bipushv (v := 8) dX11_keeper_55 bp_8 ?_
            refine Rn.icmp_lt dX11_keeper_57 (fun g9 => ?_) (fun g9 => ?_)
            · skip
              have hnf : nf < 8 := (nI_ltI (b := 8) (by omega) (by decide)).mp g9
              have hR := hQ.2 c N hc rfl g2h hN1 hN2 rfl g4h g5h hnf
              clear hQ
              refine Rn.iconstv (v := 0) dX11_keeper_62 ic_0 ?_
              refine Rn.istore (lv' := [some (.ref 0), some (.int (nI c)), some (.int F), some (.int (nI N)), some (.int y), some (.int v), some (.int 0), none, none, none]) dX11_keeper_63 (by decide) rfl ?_
              refine Rn.ldcw dX11_keeper_65 kX11_352 ?_
              refine Rn.istore (lv' := [some (.ref 0), some (.int (nI c)), some (.int F), some (.int (nI N)), some (.int y), some (.int v), some (.int 0), some (.int 2147483647), none, none]) dX11_keeper_68 (by decide) rfl ?_
              refine Rn.iconstv (v := 0) dX11_keeper_70 ic_0 ?_
              refine Rn.istore (lv' := [some (.ref 0), some (.int (nI c)), some (.int F), some (.int (nI N)), some (.int y), some (.int v), some (.int 0), some (.int 2147483647), some (.int 0), none]) dX11_keeper_71 (by decide) rfl ?_
              have loop : ∀ (k i : Nat) (N1 : Mm), i + k = n → quX M N1 → Rn G l mX11_keeper (8, 0, 0, false) 73 [some (.ref 0), some (.int (nI c)), some (.int F), some (.int (nI N)), some (.int y), some (.int v), some (.int ((kpS (fun q => pmG (TG M.1 pl n nw (fun k => M.1 (pl + 7 + k)) (pl + 18) nu (pl + 21) nv (M.1 75 4) 0 1 (rfC (M.1 pl 3) (upd (M.1 88) nf (nI q)) (upd (M.1 89) nf y) (fun _ => 0) (nf + 1))) c F (vS M.1 75) n N (2 ^ N)) i).1)), some (.int ((kpS (fun q => pmG (TG M.1 pl n nw (fun k => M.1 (pl + 7 + k)) (pl + 18) nu (pl + 21) nv (M.1 75 4) 0 1 (rfC (M.1 pl 3) (upd (M.1 88) nf (nI q)) (upd (M.1 89) nf y) (fun _ => 0) (nf + 1))) c F (vS M.1 75) n N (2 ^ N)) i).2)), some (.int (nI i)), none] [] ly N1 Q := by
                intro k
                induction k with
                | zero =>
                  intro i N1 hi hq1
                  have hXN1 := (hq1).xw hX
                  have hplN1 : N1.2.2 0 3 = some pl := ((hq1).2.2 0 3 (by decide)).trans hpl
                  have hnN1 : N1.1 pl 0 = nI n := (congrFun ((hq1).p0 hp7) 0).trans hn
                  have hw1N1 : N1.1 (pl + 1) 0 = nI nw := (congrFun ((hq1).pk hp7 (k := 1) (by decide)) 0).trans hw1
                  refine Rn.iload dX11_keeper_73 rfl ?_
                  refine Rn.aload_n dX11_keeper_75 rfl ?_
                  refine Rn.getR dX11_keeper_76 fX11_27 rfl (xc0 hXN1) (show N1.2.2 0 3 = some pl from hplN1) ?_
                  refine Rn.getI dX11_keeper_79 fX11_209 rfl (pc0 hXN1 hp7) ?_
                  refine Rn.topI (y := nI n) (hnN1) ?_
                  refine Rn.icmp_ge dX11_keeper_82 (fun hc2 => ?_) (fun hc2 => ?_)
                  · skip
                    have ei : i = n := by omega
                    rw [ei]
                    refine Rn.iload dX11_keeper_119 rfl ?_
                    refine Rn.if_ne dX11_keeper_121 (fun hv => ?_) (fun hv => ?_)
                    · skip
                      refine Rn.iload dX11_keeper_129 rfl ?_
                      exact Rn.iret (ty := .int) dX11_keeper_131 rfl rfl (by have h := hR N1 hq1; rw [if_neg hv] at h; exact h)
                    · skip
                      refine Rn.iload dX11_keeper_124 rfl ?_
                      refine Rn.goto dX11_keeper_126 ?_
                      exact Rn.iret (ty := .int) dX11_keeper_131 rfl rfl (by have h := hR N1 hq1; rw [if_pos hv] at h; exact h)
                  · skip
                    exact absurd (nI_le (a := n) (b := i) (by omega) (by omega)) hc2
                | succ k ih =>
                  intro i N1 hi hq1
                  have hXN1 := (hq1).xw hX
                  have hplN1 : N1.2.2 0 3 = some pl := ((hq1).2.2 0 3 (by decide)).trans hpl
                  have hnN1 : N1.1 pl 0 = nI n := (congrFun ((hq1).p0 hp7) 0).trans hn
                  have hw1N1 : N1.1 (pl + 1) 0 = nI nw := (congrFun ((hq1).pk hp7 (k := 1) (by decide)) 0).trans hw1
                  refine Rn.iload dX11_keeper_73 rfl ?_
                  refine Rn.aload_n dX11_keeper_75 rfl ?_
                  refine Rn.getR dX11_keeper_76 fX11_27 rfl (xc0 hXN1) (show N1.2.2 0 3 = some pl from hplN1) ?_
                  refine Rn.getI dX11_keeper_79 fX11_209 rfl (pc0 hXN1 hp7) ?_
                  refine Rn.topI (y := nI n) (hnN1) ?_
                  refine Rn.icmp_ge dX11_keeper_82 (fun hc2 => ?_) (fun hc2 => ?_)
                  · skip
                    exact absurd hc2 (nI_ge (a := i) (b := n) (by omega) (by omega))
                  · skip
                    refine Rn.aload_n dX11_keeper_85 rfl ?_
                    refine Rn.iload_n dX11_keeper_86 rfl ?_
                    refine Rn.iload_n dX11_keeper_87 rfl ?_
                    refine Rn.iload_n dX11_keeper_88 rfl ?_
                    refine Rn.iload dX11_keeper_89 rfl ?_
                    refine Rn.iload dX11_keeper_91 rfl ?_
                    refine Rn.callV5 dX11_keeper_93 vX11_345 (xc0 hXN1) (by decide) rfl (tX11_pumped_s (Q := fun v0 ly0 M0 => v0 = some (.int (pmG (TG M.1 pl n nw (fun k => M.1 (pl + 7 + k)) (pl + 18) nu (pl + 21) nv (M.1 75 4) 0 1 (rfC (M.1 pl 3) (upd (M.1 88) nf (nI i)) (upd (M.1 89) nf y) (fun _ => 0) (nf + 1))) c F (vS M.1 75) n N (2 ^ N))) ∧ ly0 = ly ∧ quX M M0) (q := i) hq1 hc (by omega) hnf (by omega) hXS0 hF (fun K h1 h2 => ⟨rfl, rfl, h1⟩)) (by decide) ⟨(Nat.le_of_ble_eq_true rfl), (Nat.le_of_ble_eq_true rfl), (Nat.le_of_ble_eq_true rfl)⟩ (fun h => by cases h) (fun v1 ly1 N2 ⟨q1, q2, hq2⟩ => ?_)
                    rw [q1, q2]
                    have hXN2 := (hq2).xw hX
                    have hplN2 : N2.2.2 0 3 = some pl := ((hq2).2.2 0 3 (by decide)).trans hpl
                    have hnN2 : N2.1 pl 0 = nI n := (congrFun ((hq2).p0 hp7) 0).trans hn
                    have hw1N2 : N2.1 (pl + 1) 0 = nI nw := (congrFun ((hq2).pk hp7 (k := 1) (by decide)) 0).trans hw1
                    refine Rn.istore (lv' := [some (.ref 0), some (.int (nI c)), some (.int F), some (.int (nI N)), some (.int y), some (.int v), some (.int ((kpS (fun q => pmG (TG M.1 pl n nw (fun k => M.1 (pl + 7 + k)) (pl + 18) nu (pl + 21) nv (M.1 75 4) 0 1 (rfC (M.1 pl 3) (upd (M.1 88) nf (nI q)) (upd (M.1 89) nf y) (fun _ => 0) (nf + 1))) c F (vS M.1 75) n N (2 ^ N)) i).1)), some (.int ((kpS (fun q => pmG (TG M.1 pl n nw (fun k => M.1 (pl + 7 + k)) (pl + 18) nu (pl + 21) nv (M.1 75 4) 0 1 (rfC (M.1 pl 3) (upd (M.1 88) nf (nI q)) (upd (M.1 89) nf y) (fun _ => 0) (nf + 1))) c F (vS M.1 75) n N (2 ^ N)) i).2)), some (.int (nI i)), some (.int (pmG (TG M.1 pl n nw (fun k => M.1 (pl + 7 + k)) (pl + 18) nu (pl + 21) nv (M.1 75 4) 0 1 (rfC (M.1 pl 3) (upd (M.1 88) nf (nI i)) (upd (M.1 89) nf y) (fun _ => 0) (nf + 1))) c F (vS M.1 75) n N (2 ^ N)))]) dX11_keeper_96 (by decide) rfl ?_
                    refine Rn.iload dX11_keeper_98 rfl ?_
                    refine Rn.iload dX11_keeper_100 rfl ?_
                    refine Rn.icmp_ge dX11_keeper_102 (fun hd => ?_) (fun hd => ?_)
                    · skip
                      have e : kpS (fun q => pmG (TG M.1 pl n nw (fun k => M.1 (pl + 7 + k)) (pl + 18) nu (pl + 21) nv (M.1 75 4) 0 1 (rfC (M.1 pl 3) (upd (M.1 88) nf (nI q)) (upd (M.1 89) nf y) (fun _ => 0) (nf + 1))) c F (vS M.1 75) n N (2 ^ N)) (i + 1) = kpS (fun q => pmG (TG M.1 pl n nw (fun k => M.1 (pl + 7 + k)) (pl + 18) nu (pl + 21) nv (M.1 75 4) 0 1 (rfC (M.1 pl 3) (upd (M.1 88) nf (nI q)) (upd (M.1 89) nf y) (fun _ => 0) (nf + 1))) c F (vS M.1 75) n N (2 ^ N)) i := if_pos hd
                      refine Rn.forget (lv' := [some (.ref 0), some (.int (nI c)), some (.int F), some (.int (nI N)), some (.int y), some (.int v), some (.int ((kpS (fun q => pmG (TG M.1 pl n nw (fun k => M.1 (pl + 7 + k)) (pl + 18) nu (pl + 21) nv (M.1 75 4) 0 1 (rfC (M.1 pl 3) (upd (M.1 88) nf (nI q)) (upd (M.1 89) nf y) (fun _ => 0) (nf + 1))) c F (vS M.1 75) n N (2 ^ N)) i).1)), some (.int ((kpS (fun q => pmG (TG M.1 pl n nw (fun k => M.1 (pl + 7 + k)) (pl + 18) nu (pl + 21) nv (M.1 75 4) 0 1 (rfC (M.1 pl 3) (upd (M.1 88) nf (nI q)) (upd (M.1 89) nf y) (fun _ => 0) (nf + 1))) c F (vS M.1 75) n N (2 ^ N)) i).2)), some (.int (nI i)), none]) (⟨rfl, ⟨rfl, ⟨rfl, ⟨rfl, ⟨rfl, ⟨rfl, ⟨rfl, ⟨rfl, ⟨rfl, trivial⟩⟩⟩⟩⟩⟩⟩⟩⟩) ?_
                      rw [← e]
                      refine Rn.iincN (lv' := [some (.ref 0), some (.int (nI c)), some (.int F), some (.int (nI N)), some (.int y), some (.int v), some (.int ((kpS (fun q => pmG (TG M.1 pl n nw (fun k => M.1 (pl + 7 + k)) (pl + 18) nu (pl + 21) nv (M.1 75 4) 0 1 (rfC (M.1 pl 3) (upd (M.1 88) nf (nI q)) (upd (M.1 89) nf y) (fun _ => 0) (nf + 1))) c F (vS M.1 75) n N (2 ^ N)) (i + 1)).1)), some (.int ((kpS (fun q => pmG (TG M.1 pl n nw (fun k => M.1 (pl + 7 + k)) (pl + 18) nu (pl + 21) nv (M.1 75 4) 0 1 (rfC (M.1 pl 3) (upd (M.1 88) nf (nI q)) (upd (M.1 89) nf y) (fun _ => 0) (nf + 1))) c F (vS M.1 75) n N (2 ^ N)) (i + 1)).2)), some (.int (nI (i + 1))), none]) dX11_keeper_113 rfl (by decide) rfl ?_
                      refine Rn.goto dX11_keeper_116 ?_
                      exact ih (i + 1) N2 (by omega) hq2
                    · skip
                      have e : kpS (fun q => pmG (TG M.1 pl n nw (fun k => M.1 (pl + 7 + k)) (pl + 18) nu (pl + 21) nv (M.1 75 4) 0 1 (rfC (M.1 pl 3) (upd (M.1 88) nf (nI q)) (upd (M.1 89) nf y) (fun _ => 0) (nf + 1))) c F (vS M.1 75) n N (2 ^ N)) (i + 1) = (nI i, pmG (TG M.1 pl n nw (fun k => M.1 (pl + 7 + k)) (pl + 18) nu (pl + 21) nv (M.1 75 4) 0 1 (rfC (M.1 pl 3) (upd (M.1 88) nf (nI i)) (upd (M.1 89) nf y) (fun _ => 0) (nf + 1))) c F (vS M.1 75) n N (2 ^ N)) := if_neg hd
                      refine Rn.iload dX11_keeper_105 rfl ?_
                      refine Rn.istore (lv' := [some (.ref 0), some (.int (nI c)), some (.int F), some (.int (nI N)), some (.int y), some (.int v), some (.int ((kpS (fun q => pmG (TG M.1 pl n nw (fun k => M.1 (pl + 7 + k)) (pl + 18) nu (pl + 21) nv (M.1 75 4) 0 1 (rfC (M.1 pl 3) (upd (M.1 88) nf (nI q)) (upd (M.1 89) nf y) (fun _ => 0) (nf + 1))) c F (vS M.1 75) n N (2 ^ N)) i).1)), some (.int (pmG (TG M.1 pl n nw (fun k => M.1 (pl + 7 + k)) (pl + 18) nu (pl + 21) nv (M.1 75 4) 0 1 (rfC (M.1 pl 3) (upd (M.1 88) nf (nI i)) (upd (M.1 89) nf y) (fun _ => 0) (nf + 1))) c F (vS M.1 75) n N (2 ^ N))), some (.int (nI i)), some (.int (pmG (TG M.1 pl n nw (fun k => M.1 (pl + 7 + k)) (pl + 18) nu (pl + 21) nv (M.1 75 4) 0 1 (rfC (M.1 pl 3) (upd (M.1 88) nf (nI i)) (upd (M.1 89) nf y) (fun _ => 0) (nf + 1))) c F (vS M.1 75) n N (2 ^ N)))]) dX11_keeper_107 (by decide) rfl ?_
                      refine Rn.iload dX11_keeper_109 rfl ?_
                      refine Rn.istore (lv' := [some (.ref 0), some (.int (nI c)), some (.int F), some (.int (nI N)), some (.int y), some (.int v), some (.int (nI i)), some (.int (pmG (TG M.1 pl n nw (fun k => M.1 (pl + 7 + k)) (pl + 18) nu (pl + 21) nv (M.1 75 4) 0 1 (rfC (M.1 pl 3) (upd (M.1 88) nf (nI i)) (upd (M.1 89) nf y) (fun _ => 0) (nf + 1))) c F (vS M.1 75) n N (2 ^ N))), some (.int (nI i)), some (.int (pmG (TG M.1 pl n nw (fun k => M.1 (pl + 7 + k)) (pl + 18) nu (pl + 21) nv (M.1 75 4) 0 1 (rfC (M.1 pl 3) (upd (M.1 88) nf (nI i)) (upd (M.1 89) nf y) (fun _ => 0) (nf + 1))) c F (vS M.1 75) n N (2 ^ N)))]) dX11_keeper_111 (by decide) rfl ?_
                      refine Rn.forget (lv' := [some (.ref 0), some (.int (nI c)), some (.int F), some (.int (nI N)), some (.int y), some (.int v), some (.int (nI i)), some (.int (pmG (TG M.1 pl n nw (fun k => M.1 (pl + 7 + k)) (pl + 18) nu (pl + 21) nv (M.1 75 4) 0 1 (rfC (M.1 pl 3) (upd (M.1 88) nf (nI i)) (upd (M.1 89) nf y) (fun _ => 0) (nf + 1))) c F (vS M.1 75) n N (2 ^ N))), some (.int (nI i)), none]) (⟨rfl, ⟨rfl, ⟨rfl, ⟨rfl, ⟨rfl, ⟨rfl, ⟨rfl, ⟨rfl, ⟨rfl, trivial⟩⟩⟩⟩⟩⟩⟩⟩⟩) ?_
                      refine Rn.lveq (lv2 := [some (.ref 0), some (.int (nI c)), some (.int F), some (.int (nI N)), some (.int y), some (.int v), some (.int ((kpS (fun q => pmG (TG M.1 pl n nw (fun k => M.1 (pl + 7 + k)) (pl + 18) nu (pl + 21) nv (M.1 75 4) 0 1 (rfC (M.1 pl 3) (upd (M.1 88) nf (nI q)) (upd (M.1 89) nf y) (fun _ => 0) (nf + 1))) c F (vS M.1 75) n N (2 ^ N)) (i + 1)).1)), some (.int ((kpS (fun q => pmG (TG M.1 pl n nw (fun k => M.1 (pl + 7 + k)) (pl + 18) nu (pl + 21) nv (M.1 75 4) 0 1 (rfC (M.1 pl 3) (upd (M.1 88) nf (nI q)) (upd (M.1 89) nf y) (fun _ => 0) (nf + 1))) c F (vS M.1 75) n N (2 ^ N)) (i + 1)).2)), some (.int (nI i)), none]) (by rw [e]) ?_
                      refine Rn.iincN (lv' := [some (.ref 0), some (.int (nI c)), some (.int F), some (.int (nI N)), some (.int y), some (.int v), some (.int ((kpS (fun q => pmG (TG M.1 pl n nw (fun k => M.1 (pl + 7 + k)) (pl + 18) nu (pl + 21) nv (M.1 75 4) 0 1 (rfC (M.1 pl 3) (upd (M.1 88) nf (nI q)) (upd (M.1 89) nf y) (fun _ => 0) (nf + 1))) c F (vS M.1 75) n N (2 ^ N)) (i + 1)).1)), some (.int ((kpS (fun q => pmG (TG M.1 pl n nw (fun k => M.1 (pl + 7 + k)) (pl + 18) nu (pl + 21) nv (M.1 75 4) 0 1 (rfC (M.1 pl 3) (upd (M.1 88) nf (nI q)) (upd (M.1 89) nf y) (fun _ => 0) (nf + 1))) c F (vS M.1 75) n N (2 ^ N)) (i + 1)).2)), some (.int (nI (i + 1))), none]) dX11_keeper_113 rfl (by decide) rfl ?_
                      refine Rn.goto dX11_keeper_116 ?_
                      exact ih (i + 1) N2 (by omega) hq2
              exact loop n 0 M (by omega) quX.rf
            · skip
              refine Rn.iconstv (v := -1) dX11_keeper_60 ic_m1 ?_
              exact Rn.iret (ty := .int) dX11_keeper_61 rfl rfl (hQ.1 (fun h => g9 (nI_lt (b := 8) h.2.2.2.2.2 (by decide))))
