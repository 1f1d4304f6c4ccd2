/-- times go by: what is as it was -/
def btF (M N : Mm) : Prop := N.2.2 = M.2.2 ∧ (∀ a, (a < 75 ∨ 91 < a ∨ a = 87 ∨ a = 88 ∨ a = 89 ∨ a = 90) → a ≠ 126 → N.1 a = M.1 a) ∧ (∀ j, ¬ j = 7 → ¬ j = 14 → ¬ j = 15 → N.1 75 j = M.1 75 j)
/-- the heights' row behind k times -/
def htS (T : Sc → Sc) (s : Sc) (n t0 : Nat) (h : Nat → Int32) : Nat → Nat → Int32
  | 0 => h
  | k + 1 => upd (htS T s n t0 h k) ((t0 + k) % 60) (gr (itF (fun _ => T) (k + 1) s).1 n)
theorem it_time {I : Nat → Nat → Int32} {pl n nw nu nv : Nat} {het bl upo : Int32} {ca : Nat → Int32} {s : Sc} {t0 : Nat} (h : s.2.2.2.2.2.2.1 = nI t0) : ∀ k : Nat, (itF (fun _ => TX I pl n nw nu nv het bl upo ca) k s).2.2.2.2.2.2.1 = nI (t0 + k)
  | 0 => h
  | k + 1 => by
    show (itF (fun _ => TX I pl n nw nu nv het bl upo ca) k s).2.2.2.2.2.2.1 + 1 = nI (t0 + (k + 1))
    rw [it_time h k, nI_1]; rfl
theorem passN {G : Gx} {l : Launch} {ly : Ly} {M N : Mm} {pl n nw nu nv : Nat} (hXS : XS ly M pl n nw nu nv) (hf : btF M N) {Q : Qt} (hQ : ∀ K : Mm, btF M K → K.1 126 = N.1 126 → vS K.1 75 = TX M.1 pl n nw nu nv (M.1 75 4) (M.1 75 16) (M.1 75 17) (M.1 90) (vS N.1 75) → Q none ly K) : Mt G l mX9_pass (5, 0, 0, false) [.ref 75] ly N Q := by
  obtain ⟨hX, hpl, hp7, ⟨n0, n1, n2, n3⟩, ⟨hn, hn2, hn12⟩, ⟨hw1, hw2, hw6⟩, ⟨hu1, hu2, hv1, hv2⟩, hgl, hbb⟩ := hXS
  obtain ⟨hR, hI, h75⟩ := hf
  have hX' : XW ly N.2.2 := by rw [hR]; exact hX
  have e : ∀ k, k < 34 → N.1 (pl + k) = M.1 (pl + k) := fun k hk => hI (pl + k) (by omega) (by omega)
  refine tX9_pass (M := N) (a := 75) (p := pl) (c := pl + 7) (u := pl + 18) (v := pl + 21) (n := n) (nu := nu) (nv := nv) (nw := nw) (xScene75 hX') (by rw [hR]; exact n0) (pc0 hX' hp7) (by omega) ((congrFun (e 0 (by omega)) 0).trans hn) hn12 (by rw [hR]; exact n1) (iPlan.crowd hX' hp7) (by omega) (by rw [hR]; exact n2) (iPlan.push hX' hp7) (by omega) (by rw [hR]; exact n3) (iPlan.side hX' hp7) (by omega) ((congrFun (e 18 (by omega)) 0).trans hu1) hu2 ((congrFun (e 21 (by omega)) 0).trans hv1) hv2 ((congrFun (e 7 (by omega)) 0).trans hw2) hw6 (by rw [show N.1 pl = M.1 pl from e 0 (by omega)]; exact hgl) ?_
  intro I L g1 g2 g3
  refine hQ _ ⟨hR, fun a ha h1 => (g1 a (by omega)).trans (hI a ha h1), fun j a b c => (g2 j a b c).trans (h75 j a b c)⟩ (g1 126 (by omega)) ?_
  show vS I 75 = _
  rw [g3]
  unfold TX
  rw [show N.1 pl = M.1 pl from e 0 (by omega), h75 4 (by decide) (by decide) (by decide), h75 16 (by decide) (by decide) (by decide), h75 17 (by decide) (by decide) (by decide), hI (75 + 15) (by omega) (by omega), show N.1 (pl + 7 + 1) = M.1 (pl + 8) from e 8 (by omega), show N.1 (pl + 7 + 2) = M.1 (pl + 9) from e 9 (by omega), show N.1 (pl + 7 + 3) = M.1 (pl + 10) from e 10 (by omega), show N.1 (pl + 7 + 4) = M.1 (pl + 11) from e 11 (by omega), show N.1 (pl + 7 + 5) = M.1 (pl + 12) from e 12 (by omega), show N.1 (pl + 18 + 1) = M.1 (pl + 19) from e 19 (by omega), show N.1 (pl + 21 + 1) = M.1 (pl + 22) from e 22 (by omega)]
theorem tX11_beats {G : Gx} {l : Launch} {ly : Ly} {M : Mm} {pl n nw nu nv : Nat} {t0 : Nat} {x : Int32} (ht : M.1 75 14 = nI t0 ∧ t0 ≤ 9999) (hXS : XS ly M pl n nw nu nv) {Q : Qt} (hQ : ((x < 0 ∨ 200 < x ∨ 9999 - nI t0 < x) → Q (some (.int (-1))) ly M) ∧ (∀ N : Nat, N ≤ 200 → x = nI N → t0 + N ≤ 9999 → ∀ K : Mm, K.2.2 = M.2.2 → (∀ a, (a < 75 ∨ 91 < a ∨ a = 87 ∨ a = 88 ∨ a = 89 ∨ a = 90) → a ≠ 126 → a ≠ 134 → K.1 a = M.1 a) → (∀ j, ¬ j = 7 → ¬ j = 14 → ¬ j = 15 → K.1 75 j = M.1 75 j) → vS K.1 75 = itF (fun _ => TX M.1 pl n nw nu nv (M.1 75 4) (M.1 75 16) (M.1 75 17) (M.1 90)) N (vS M.1 75) → K.1 126 = htS (TX M.1 pl n nw nu nv (M.1 75 4) (M.1 75 16) (M.1 75 17) (M.1 90)) (vS M.1 75) n t0 (M.1 126) N → K.1 134 = (if N = 0 then M.1 134 else upd (M.1 134) 0 0) → Q (some (.int (nI (t0 + N)))) ly K)) : Mt G l mX11_beats (6, 0, 0, false) [.ref 0, .int x] ly M Q := by
  have hXS0 := hXS
  obtain ⟨hX, hpl, hp7, ⟨n0, n1, n2, n3⟩, ⟨hn, hn2, hn12⟩, ⟨hw1, hw2, hw6⟩, ⟨hu1, hu2, hv1, hv2⟩, hgl, hbb⟩ := hXS
  refine Mt.of (lv := [some (.ref 0), some (.int x), none, none]) rfl ?_
  refine Rn.iload_n dX11_beats_0 rfl ?_
  refine Rn.if_lt dX11_beats_1 (fun g1 => ?_) (fun g1 => ?_)
  · skip
    refine Rn.iconstv (v := -1) dX11_beats_26 ic_m1 ?_
    exact Rn.iret (ty := .int) dX11_beats_27 rfl rfl (hQ.1 (Or.inl g1))
  · skip
    refine Rn.iload_n dX11_beats_4 rfl ?_
    refine Rn.sipushv (v := 200) dX11_beats_5 sp_200 ?_
    refine Rn.icmp_gt dX11_beats_8 (fun g2 => ?_) (fun g2 => ?_)
    · skip
      refine Rn.iconstv (v := -1) dX11_beats_26 ic_m1 ?_
      exact Rn.iret (ty := .int) dX11_beats_27 rfl rfl (hQ.1 (Or.inr (Or.inl g2)))
    · skip
      refine Rn.iload_n dX11_beats_11 rfl ?_
      refine Rn.sipushv (v := 9999) dX11_beats_12 sp_9999 ?_
      refine Rn.aload_n dX11_beats_15 rfl ?_
      refine Rn.getR dX11_beats_16 fX11_39 rfl (xc0 hX) (show M.2.2 0 5 = some 75 from (xp0_5 hX)) ?_
      refine Rn.getI dX11_beats_19 fX11_227 rfl (xc75 hX) ?_
      refine Rn.topI (y := nI t0) (ht.1) ?_
      refine Rn.isub dX11_beats_22 ?_
      refine Rn.icmp_le dX11_beats_23 (fun g3 => ?_) (fun g3 => ?_)
      · skip
        obtain ⟨N, hN, rfl⟩ := nat_of0 (b := 200) (k := 200) rfl (by decide) (Int32.not_lt.mp g1) (Int32.not_lt.mp g2)
        have htN : t0 + N ≤ 9999 := by
          have e : (9999 : Int32) - nI t0 = nI (9999 - t0) := by rw [show (9999 : Int32) = nI ((9999 - t0) + t0) by rw [Nat.sub_add_cancel ht.2]; rfl, ← nI_add]; exact Int32.add_sub_cancel _ _
          rw [e] at g3
          have := (nI_leI (by omega) (by omega)).mp g3
          omega
        have hR := hQ.2 N hN rfl htN
        clear hQ
        refine Rn.iconstv (v := 0) dX11_beats_28 ic_0 ?_
        refine Rn.istore_n (lv' := [some (.ref 0), some (.int (nI N)), some (.int 0), none]) dX11_beats_29 (by decide) rfl ?_
        have loop : ∀ (k i : Nat) (N1 : Mm), i + k = N → btF M N1 → vS N1.1 75 = itF (fun _ => TX M.1 pl n nw nu nv (M.1 75 4) (M.1 75 16) (M.1 75 17) (M.1 90)) i (vS M.1 75) → N1.1 126 = htS (TX M.1 pl n nw nu nv (M.1 75 4) (M.1 75 16) (M.1 75 17) (M.1 90)) (vS M.1 75) n t0 (M.1 126) i → Rn G l mX11_beats (6, 0, 0, false) 30 [some (.ref 0), some (.int (nI N)), some (.int (nI i)), none] [] ly N1 Q := by
          intro k
          induction k with
          | zero =>
            intro i N1 hi hf hv hh
            have ei := it_time (I := M.1) (pl := pl) (n := n) (nw := nw) (nu := nu) (nv := nv) (het := M.1 75 4) (bl := M.1 75 16) (upo := M.1 75 17) (ca := M.1 90) (s := vS M.1 75) ht.1 i
            rw [← hv] at ei
            have hXN1 : XW ly N1.2.2 := by rw [hf.1]; exact hX
            have hplN1 : N1.2.2 0 3 = some pl := by rw [hf.1]; exact hpl
            refine Rn.iload_n dX11_beats_30 rfl ?_
            refine Rn.iload_n dX11_beats_31 rfl ?_
            refine Rn.icmp_ge dX11_beats_32 (fun hc => ?_) (fun hc => ?_)
            · skip
              have e0 : i = N := by omega
              rw [e0] at hv hh ei
              refine Rn.iload_n dX11_beats_82 rfl ?_
              refine Rn.if_le dX11_beats_83 (fun hz => ?_) (fun hz => ?_)
              · skip
                have hN0 : N = 0 := by have h0 : ¬ 0 < N := fun h => nI_nle h (by omega) hz; omega
                refine Rn.aload_n dX11_beats_93 rfl ?_
                refine Rn.getR dX11_beats_94 fX11_39 rfl (xc0 hXN1) (show N1.2.2 0 5 = some 75 from (xp0_5 hXN1)) ?_
                refine Rn.getI dX11_beats_97 fX11_227 rfl (xc75 hXN1) ?_
                refine Rn.topI (y := nI (t0 + N)) (ei) ?_
                exact Rn.iret (ty := .int) dX11_beats_100 rfl rfl (hR N1 hf.1 (fun a h1 h2 _ => hf.2.1 a h1 h2) hf.2.2 hv hh (by rw [if_pos hN0]; exact hf.2.1 134 (by omega) (by omega)))
              · skip
                have hN0 : ¬ N = 0 := fun e => hz (by rw [e]; decide)
                refine Rn.aload_n dX11_beats_86 rfl ?_
                refine Rn.getR dX11_beats_87 fX11_66 rfl (xc0 hXN1) (show N1.2.2 0 12 = some 134 from (xp0_12 hXN1)) ?_
                refine Rn.callV0 dX11_beats_90 vX11_110 (xc134 hXN1) (by decide) rfl (tX1_clear (a := 134) (xDeeds hXN1)) (by decide) ⟨(Nat.le_of_ble_eq_true rfl), (Nat.le_of_ble_eq_true rfl), (Nat.le_of_ble_eq_true rfl)⟩ (fun h => by cases h) (fun v1 ly1 M1 ⟨q1, q2, q3⟩ => ?_)
                rw [q1, q2, q3]
                show Rn G l mX11_beats (6, 0, 0, false) 93 [some (.ref 0), some (.int (nI N)), some (.int (nI i)), none] [] ly (sI N1 134 (upd (N1.1 134) 0 0)) Q
                refine Rn.aload_n dX11_beats_93 rfl ?_
                refine Rn.getR dX11_beats_94 fX11_39 rfl (xc0 hXN1) (show N1.2.2 0 5 = some 75 from (xp0_5 hXN1)) ?_
                refine Rn.getI dX11_beats_97 fX11_227 rfl (xc75 hXN1) ?_
                refine Rn.topI (y := nI (t0 + N)) (ei) ?_
                exact Rn.iret (ty := .int) dX11_beats_100 rfl rfl (hR _ hf.1 (fun a h1 h2 h3 => (sI_ne h3).trans (hf.2.1 a h1 h2)) hf.2.2 hv hh (by rw [if_neg hN0, sI_at, hf.2.1 134 (by omega) (by omega)]))
            · skip
              exact absurd (nI_le (a := N) (b := i) (by omega) (by omega)) hc
          | succ k ih =>
            intro i N1 hi hf hv hh
            have ei := it_time (I := M.1) (pl := pl) (n := n) (nw := nw) (nu := nu) (nv := nv) (het := M.1 75 4) (bl := M.1 75 16) (upo := M.1 75 17) (ca := M.1 90) (s := vS M.1 75) ht.1 i
            rw [← hv] at ei
            have hXN1 : XW ly N1.2.2 := by rw [hf.1]; exact hX
            have hplN1 : N1.2.2 0 3 = some pl := by rw [hf.1]; exact hpl
            refine Rn.iload_n dX11_beats_30 rfl ?_
            refine Rn.iload_n dX11_beats_31 rfl ?_
            refine Rn.icmp_ge dX11_beats_32 (fun hc => ?_) (fun hc => ?_)
            · skip
              exact absurd hc (nI_ge (a := i) (b := N) (by omega) (by omega))
            · skip
              refine Rn.aload_n dX11_beats_35 rfl ?_
              refine Rn.getR dX11_beats_36 fX11_39 rfl (xc0 hXN1) (show N1.2.2 0 5 = some 75 from (xp0_5 hXN1)) ?_
              refine Rn.getI dX11_beats_39 fX11_227 rfl (xc75 hXN1) ?_
              refine Rn.topI (y := nI (t0 + i)) (ei) ?_
              refine Rn.callS1 dX11_beats_42 vX11_248 (tX11_slotOf) (by decide) ⟨(Nat.le_of_ble_eq_true rfl), (Nat.le_of_ble_eq_true rfl), (Nat.le_of_ble_eq_true rfl)⟩ (fun h => by cases h) (fun v1 ly1 M1 ⟨q1, q2, q3⟩ => ?_)
              rw [q1, q2, q3]
              refine Rn.topI (y := nI ((t0 + i) % 60)) (fmd60 (by omega)) ?_
              refine Rn.istore_n (lv' := [some (.ref 0), some (.int (nI N)), some (.int (nI i)), some (.int (nI ((t0 + i) % 60)))]) dX11_beats_45 (by decide) rfl ?_
              refine Rn.aload_n dX11_beats_46 rfl ?_
              refine Rn.getR dX11_beats_47 fX11_39 rfl (xc0 hXN1) (show N1.2.2 0 5 = some 75 from (xp0_5 hXN1)) ?_
              refine Rn.callV0 dX11_beats_50 vX11_251 (xc75 hXN1) (by decide) rfl (passN (Q := fun v0 ly0 M0 => v0 = none ∧ ly0 = ly ∧ btF M M0 ∧ M0.1 126 = N1.1 126 ∧ vS M0.1 75 = itF (fun _ => TX M.1 pl n nw nu nv (M.1 75 4) (M.1 75 16) (M.1 75 17) (M.1 90)) (i + 1) (vS M.1 75)) hXS0 hf (fun K a b c => ⟨rfl, rfl, a, b, by rw [c, hv]; rfl⟩)) (by decide) ⟨(Nat.le_of_ble_eq_true rfl), (Nat.le_of_ble_eq_true rfl), (Nat.le_of_ble_eq_true rfl)⟩ (fun h => by cases h) (fun v1 ly1 N2 ⟨q1, q2, hf2, h126, hv2⟩ => ?_)
              rw [q1, q2]
              have hXN2 : XW ly N2.2.2 := by rw [hf2.1]; exact hX
              have hplN2 : N2.2.2 0 3 = some pl := by rw [hf2.1]; exact hpl
              refine Rn.aload_n dX11_beats_53 rfl ?_
              refine Rn.getR dX11_beats_54 fX11_49 rfl (xc0 hXN2) (show N2.2.2 0 9 = some 126 from (xp0_9 hXN2)) ?_
              refine Rn.iload_n dX11_beats_57 rfl ?_
              refine Rn.aload_n dX11_beats_58 rfl ?_
              refine Rn.getR dX11_beats_59 fX11_39 rfl (xc0 hXN2) (show N2.2.2 0 5 = some 75 from (xp0_5 hXN2)) ?_
              refine Rn.getR dX11_beats_62 fX11_165 rfl (xc75 hXN2) (show N2.2.2 75 5 = some 76 from (xp75_5 hXN2)) ?_
              refine Rn.aload_n dX11_beats_65 rfl ?_
              refine Rn.getR dX11_beats_66 fX11_27 rfl (xc0 hXN2) (show N2.2.2 0 3 = some pl from hplN2) ?_
              refine Rn.getI dX11_beats_69 fX11_209 rfl (pc0 hXN2 hp7) ?_
              refine Rn.topI (y := nI n) ((congrFun (hf2.2.1 pl (by omega) (by omega)) 0).trans hn) ?_
              refine Rn.callV1 dX11_beats_72 vX11_245 (xc76 hXN2) (by decide) rfl (tX10_greatest (a := 76) (n := n) ⟨xc76 hXN2, xc77 hXN2, xc78 hXN2, xc79 hXN2, xp76_0 hXN2, xp76_1 hXN2, xp76_2 hXN2⟩ hn12) (by decide) ⟨(Nat.le_of_ble_eq_true rfl), (Nat.le_of_ble_eq_true rfl), (Nat.le_of_ble_eq_true rfl)⟩ (fun h => by cases h) (fun v1 ly1 M1 ⟨q1, q2, q3⟩ => ?_)
              rw [q1, q2, q3]
              refine Rn.topI (y := gr (itF (fun _ => TX M.1 pl n nw nu nv (M.1 75 4) (M.1 75 16) (M.1 75 17) (M.1 90)) (i + 1) (vS M.1 75)).1 n) (by rw [← hv2]; rfl) ?_
              refine Rn.iastN (k0 := ((t0 + i) % 60)) dX11_beats_75 (xc126 hXN2) (by omega) (by decide) ?_
              refine Rn.forget (lv' := [some (.ref 0), some (.int (nI N)), some (.int (nI i)), none]) (⟨rfl, ⟨rfl, ⟨rfl, trivial⟩⟩⟩) ?_
              refine Rn.iincN (lv' := [some (.ref 0), some (.int (nI N)), some (.int (nI (i + 1))), none]) dX11_beats_76 rfl (by decide) rfl ?_
              refine Rn.goto dX11_beats_79 ?_
              exact ih (i + 1) _ (by omega) ⟨hf2.1, fun a h1 h2 => (sI_ne h2).trans (hf2.2.1 a h1 h2), hf2.2.2⟩ hv2 (by rw [sI_at, h126, hh]; rfl)
        exact loop N 0 M (by omega) ⟨rfl, fun _ _ _ => rfl, fun _ _ _ _ => rfl⟩ rfl rfl
      · skip
        refine Rn.iconstv (v := -1) dX11_beats_26 ic_m1 ?_
        exact Rn.iret (ty := .int) dX11_beats_27 rfl rfl (hQ.1 (Or.inr (Or.inr (Int32.not_le.mp g3))))
theorem tX11_law {G : Gx} {l : Launch} {ly : Ly} {M : Mm} {pl n nw nu nv : Nat} {x y z v : Int32} (hXS : XS ly M pl n nw nu nv) {Q : Qt} (hQ : (¬ ((0 ≤ x ∧ x ≤ 1) ∧ (∃ j : Nat, j < nw ∧ y = nI j) ∧ (∃ j : Nat, j < n ∧ z = nI j) ∧ (0 ≤ v ∧ v ≤ 1)) → Q (some (.long erL)) ly M) ∧ (∀ w c : Nat, (0 ≤ x ∧ x ≤ 1) → w < nw → y = nI w → c < n → z = nI c → (0 ≤ v ∧ v ≤ 1) → ∀ K : Mm, quX M K → Q (some (.long (if x = 0 then valL (nmv (M.1 (pl + 8) w) (M.1 75 14) (nI c) (M.1 77 c) v (M.1 75 4)) (M.1 (pl + 19)) nu else valL (nmv (M.1 (pl + 8) w) (M.1 75 14) (nI c) (M.1 77 c) v (M.1 75 4)) (M.1 (pl + 22)) nv))) ly K)) : Mt G l mX11_law (4, 0, 0, false) [.ref 0, .int x, .int y, .int z, .int v] ly M Q := by
  have hXS0 := hXS
  obtain ⟨hX, hpl, hp7, ⟨n0, n1, n2, n3⟩, ⟨hn, hn2, hn12⟩, ⟨hw1, hw2, hw6⟩, ⟨hu1, hu2, hv1, hv2⟩, hgl, hbb⟩ := hXS
  refine Mt.of (lv := [some (.ref 0), some (.int x), some (.int y), some (.int z), some (.int v)]) rfl ?_
  refine Rn.iload_n dX11_law_0 rfl ?_
  refine Rn.if_lt dX11_law_1 (fun g1 => ?_) (fun g1 => ?_)
  · skip
    refine Rn.ldc2 dX11_law_36 kX11_190 ?_
    exact Rn.lret dX11_law_39 rfl (hQ.1 (fun h => absurd g1 (Int32.not_lt.mpr h.1.1)))
  · skip
    refine Rn.iload_n dX11_law_4 rfl ?_
    refine Rn.iconstv (v := 1) dX11_law_5 ic_1 ?_
    refine Rn.icmp_gt dX11_law_6 (fun g2 => ?_) (fun g2 => ?_)
    · skip
      refine Rn.ldc2 dX11_law_36 kX11_190 ?_
      exact Rn.lret dX11_law_39 rfl (hQ.1 (fun h => absurd g2 (Int32.not_lt.mpr h.1.2)))
    · skip
      refine Rn.aload_n dX11_law_9 rfl ?_
      refine Rn.iload_n dX11_law_10 rfl ?_
      refine Rn.callV1 dX11_law_11 vX11_125 (xc0 hX) (by decide) rfl (tX11_isWalker hX hpl hp7) (by decide) ⟨(Nat.le_of_ble_eq_true rfl), (Nat.le_of_ble_eq_true rfl), (Nat.le_of_ble_eq_true rfl)⟩ (fun h => by cases h) (fun v1 ly1 M1 ⟨q1, q2, q3⟩ => ?_)
      rw [q1, q2, q3]
      refine Rn.topI (y := inN y (nI nw)) (by rw [hw1]) ?_
      refine Rn.if_eq dX11_law_14 (fun g11 => ?_) (fun g11 => ?_)
      · skip
        refine Rn.ldc2 dX11_law_36 kX11_190 ?_
        exact Rn.lret dX11_law_39 rfl (hQ.1 (fun h => (inN_1 (x := y) (k := nw) (lt31 hw6)).elim (fun k => k.2 h.2.1) (fun k => absurd (k.1.symm.trans g11) (by decide))))
      · skip
        obtain ⟨w, hw, rfl⟩ : ∃ j : Nat, j < nw ∧ y = nI j := (inN_1 (x := y) (k := nw) (lt31 hw6)).elim (fun k => absurd k.1 g11) (fun k => k.2)
        refine Rn.aload_n dX11_law_17 rfl ?_
        refine Rn.iload_n dX11_law_18 rfl ?_
        refine Rn.callV1 dX11_law_19 vX11_159 (xc0 hX) (by decide) rfl (tX11_isCell hX hpl hp7) (by decide) ⟨(Nat.le_of_ble_eq_true rfl), (Nat.le_of_ble_eq_true rfl), (Nat.le_of_ble_eq_true rfl)⟩ (fun h => by cases h) (fun v1 ly1 M1 ⟨q1, q2, q3⟩ => ?_)
        rw [q1, q2, q3]
        refine Rn.topI (y := inN z (nI n)) (by rw [hn]) ?_
        refine Rn.if_eq dX11_law_22 (fun g12 => ?_) (fun g12 => ?_)
        · skip
          refine Rn.ldc2 dX11_law_36 kX11_190 ?_
          exact Rn.lret dX11_law_39 rfl (hQ.1 (fun h => (inN_1 (x := z) (k := n) (lt31c hn12)).elim (fun k => k.2 h.2.2.1) (fun k => absurd (k.1.symm.trans g12) (by decide))))
        · skip
          obtain ⟨c, hc, rfl⟩ : ∃ j : Nat, j < n ∧ z = nI j := (inN_1 (x := z) (k := n) (lt31c hn12)).elim (fun k => absurd k.1 g12) (fun k => k.2)
          refine Rn.iload dX11_law_25 rfl ?_
          refine Rn.if_lt dX11_law_27 (fun g5 => ?_) (fun g5 => ?_)
          · skip
            refine Rn.ldc2 dX11_law_36 kX11_190 ?_
            exact Rn.lret dX11_law_39 rfl (hQ.1 (fun h => absurd g5 (Int32.not_lt.mpr h.2.2.2.1)))
          · skip
            refine Rn.iload dX11_law_30 rfl ?_
            refine Rn.iconstv (v := 1) dX11_law_32 ic_1 ?_
            refine Rn.icmp_le dX11_law_33 (fun g6 => ?_) (fun g6 => ?_)
            · skip
              have hR := hQ.2 w c ⟨Int32.not_lt.mp g1, Int32.not_lt.mp g2⟩ hw rfl hc rfl ⟨Int32.not_lt.mp g5, g6⟩
              clear hQ
              refine Rn.aload_n dX11_law_40 rfl ?_
              refine Rn.getR dX11_law_41 fX11_39 rfl (xc0 hX) (show M.2.2 0 5 = some 75 from (xp0_5 hX)) ?_
              refine Rn.aload_n dX11_law_44 rfl ?_
              refine Rn.getR dX11_law_45 fX11_27 rfl (xc0 hX) (show M.2.2 0 3 = some pl from hpl) ?_
              refine Rn.getR dX11_law_48 fX11_142 rfl (pc0 hX hp7) (show M.2.2 pl 11 = some (pl + 7) from (pp0_11 hX hp7)) ?_
              refine Rn.getR dX11_law_51 fX11_145 rfl (pc7 hX hp7) (show M.2.2 (pl + 7) 1 = some (pl + 8) from (pp7_1 hX hp7)) ?_
              refine Rn.iload_n dX11_law_54 rfl ?_
              refine Rn.ialdN (k0 := w) dX11_law_55 (pc8 hX hp7) (by omega) (by decide) ?_
              refine Rn.iload_n dX11_law_56 rfl ?_
              refine Rn.iload dX11_law_57 rfl ?_
              refine Rn.callV3 dX11_law_59 vX11_192 (xc75 hX) (by decide) rfl (tX9_nameValues (a := 75) (xScene75 hX) (by omega)) (by decide) ⟨(Nat.le_of_ble_eq_true rfl), (Nat.le_of_ble_eq_true rfl), (Nat.le_of_ble_eq_true rfl)⟩ (fun h => by cases h) (fun v1 ly1 M1 ⟨q1, q2, q3⟩ => ?_)
              rw [q1, q2, q3]
              show Rn G l mX11_law (4, 0, 0, false) 62 [some (.ref 0), some (.int x), some (.int (nI w)), some (.int (nI c)), some (.int v)] [] ly (sI M 91 (upd (upd (upd (upd (upd (upd (M.1 91) 0 (M.1 (pl + 8) w)) 1 (M.1 75 14)) 2 (nI c)) 3 (M.1 77 c)) 4 v) 5 (M.1 75 4))) Q
              refine Rn.iload_n dX11_law_62 rfl ?_
              refine Rn.if_ne dX11_law_63 (fun g7 => ?_) (fun g7 => ?_)
              · skip
                refine Rn.aload_n dX11_law_86 rfl ?_
                refine Rn.getR dX11_law_87 fX11_27 rfl (xc0 hX) (show M.2.2 0 3 = some pl from hpl) ?_
                refine Rn.getR dX11_law_90 fX11_206 rfl (pc0 hX hp7) (show M.2.2 pl 16 = some (pl + 21) from (pp0_16 hX hp7)) ?_
                refine Rn.aload_n dX11_law_93 rfl ?_
                refine Rn.getR dX11_law_94 fX11_39 rfl (xc0 hX) (show M.2.2 0 5 = some 75 from (xp0_5 hX)) ?_
                refine Rn.getR dX11_law_97 fX11_199 rfl (xc75 hX) (show M.2.2 75 13 = some 91 from (xp75_13 hX)) ?_
                refine Rn.callV1 dX11_law_100 vX11_202 (pc21 hX hp7) (by decide) rfl (tX5_value (Q := fun v0 ly0 M0 => ly0 = ly ∧ quX M M0 ∧ v0 = some (.long (valL (nmv (M.1 (pl + 8) w) (M.1 75 14) (nI c) (M.1 77 c) v (M.1 75 4)) (M.1 (pl + 22)) nv))) (M := sI M 91 (upd (upd (upd (upd (upd (upd (M.1 91) 0 (M.1 (pl + 8) w)) 1 (M.1 75 14)) 2 (nI c)) 3 (M.1 77 c)) 4 v) 5 (M.1 75 4))) (a := pl + 21) (q := 91) (n := nv) (iPlan.side (M := sI M 91 (upd (upd (upd (upd (upd (upd (M.1 91) 0 (M.1 (pl + 8) w)) 1 (M.1 75 14)) 2 (nI c)) 3 (M.1 77 c)) 4 v) 5 (M.1 75 4))) hX hp7) (xc91 hX) ((congrFun (sI_ne (show pl + 21 ≠ 91 by omega)) 0).trans hv1) hv2 (fun f => ⟨rfl, ⟨fun k _ h _ _ _ _ => sI_ne h, fun j _ => rfl, fun _ _ _ => rfl⟩, by rw [sI_ne (show pl + 21 + 1 ≠ 91 by omega), sI_at]; exact congrArg (fun x => some (Value.long x)) (valL_congr nmv_up)⟩)) (by decide) ⟨(Nat.le_of_ble_eq_true rfl), (Nat.le_of_ble_eq_true rfl), (Nat.le_of_ble_eq_true rfl)⟩ (fun h => by cases h) (fun v1 ly1 K ⟨q2, hq, q1⟩ => ?_)
                rw [q1, q2]
                exact Rn.lret dX11_law_103 rfl (by have h := hR K hq; rw [if_neg g7] at h; exact h)
              · skip
                refine Rn.aload_n dX11_law_66 rfl ?_
                refine Rn.getR dX11_law_67 fX11_27 rfl (xc0 hX) (show M.2.2 0 3 = some pl from hpl) ?_
                refine Rn.getR dX11_law_70 fX11_196 rfl (pc0 hX hp7) (show M.2.2 pl 15 = some (pl + 18) from (pp0_15 hX hp7)) ?_
                refine Rn.aload_n dX11_law_73 rfl ?_
                refine Rn.getR dX11_law_74 fX11_39 rfl (xc0 hX) (show M.2.2 0 5 = some 75 from (xp0_5 hX)) ?_
                refine Rn.getR dX11_law_77 fX11_199 rfl (xc75 hX) (show M.2.2 75 13 = some 91 from (xp75_13 hX)) ?_
                refine Rn.callV1 dX11_law_80 vX11_202 (pc18 hX hp7) (by decide) rfl (tX5_value (Q := fun v0 ly0 M0 => ly0 = ly ∧ quX M M0 ∧ v0 = some (.long (valL (nmv (M.1 (pl + 8) w) (M.1 75 14) (nI c) (M.1 77 c) v (M.1 75 4)) (M.1 (pl + 19)) nu))) (M := sI M 91 (upd (upd (upd (upd (upd (upd (M.1 91) 0 (M.1 (pl + 8) w)) 1 (M.1 75 14)) 2 (nI c)) 3 (M.1 77 c)) 4 v) 5 (M.1 75 4))) (a := pl + 18) (q := 91) (n := nu) (iPlan.push (M := sI M 91 (upd (upd (upd (upd (upd (upd (M.1 91) 0 (M.1 (pl + 8) w)) 1 (M.1 75 14)) 2 (nI c)) 3 (M.1 77 c)) 4 v) 5 (M.1 75 4))) hX hp7) (xc91 hX) ((congrFun (sI_ne (show pl + 18 ≠ 91 by omega)) 0).trans hu1) hu2 (fun f => ⟨rfl, ⟨fun k _ h _ _ _ _ => sI_ne h, fun j _ => rfl, fun _ _ _ => rfl⟩, by rw [sI_ne (show pl + 18 + 1 ≠ 91 by omega), sI_at]; exact congrArg (fun x => some (Value.long x)) (valL_congr nmv_up)⟩)) (by decide) ⟨(Nat.le_of_ble_eq_true rfl), (Nat.le_of_ble_eq_true rfl), (Nat.le_of_ble_eq_true rfl)⟩ (fun h => by cases h) (fun v1 ly1 K ⟨q2, hq, q1⟩ => ?_)
                rw [q1, q2]
                refine Rn.goto dX11_law_83 ?_
                exact Rn.lret dX11_law_103 rfl (by have h := hR K hq; rw [if_pos g7] at h; exact h)
            · skip
              refine Rn.ldc2 dX11_law_36 kX11_190 ?_
              exact Rn.lret dX11_law_39 rfl (hQ.1 (fun h => g6 h.2.2.2.2))
def pcI (x : Int32) : Int32 :=
  let a := x - (((Int32.toUInt32 x) >>> ((Int32.toUInt32 1) &&& Int32.toUInt32 31)).toInt32 &&& 1431655765)
  let b := (a &&& 858993459) + (((Int32.toUInt32 a) >>> ((Int32.toUInt32 2) &&& Int32.toUInt32 31)).toInt32 &&& 858993459)
  let c := (b + ((Int32.toUInt32 b) >>> ((Int32.toUInt32 4) &&& Int32.toUInt32 31)).toInt32) &&& 252645135
  let d := c + ((Int32.toUInt32 c) >>> ((Int32.toUInt32 8) &&& Int32.toUInt32 31)).toInt32
  let e := d + ((Int32.toUInt32 d) >>> ((Int32.toUInt32 16) &&& Int32.toUInt32 31)).toInt32
  e &&& 63
def shL (x : Int64) (k : Int32) : Int64 := ((Int64.toUInt64 x) >>> ((Int64.toUInt64 (Int32.toInt64 k)) &&& Int64.toUInt64 63)).toInt64
def pcL (x : Int64) : Int32 :=
  let a := x - (shL x 1 &&& 6148914691236517205)
  let b := (a &&& 3689348814741910323) + (shL a 2 &&& 3689348814741910323)
  let c := (b + shL b 4) &&& 1085102592571150095
  let d := c + shL c 8
  let e := d + shL d 16
  let f := e + shL e 32
  f.toInt32 &&& 127
theorem tJ6_bitCount {G : Gx} {l : Launch} {ly : Ly} {M : Mm} {x : Int32} : Mt G l mJ6_bitCount_0f7a4 (1, 0, 0, false) [.int x] ly M (Is (some (.int (pcI x))) ly M) := by
  refine Mt.is (fun Q hQ => ?_)
  refine Mt.of (lv := [some (.int x)]) rfl ?_
  refine Rn.iload_n dJ6_bitCount_0f7a4_0 rfl ?_
  refine Rn.iload_n dJ6_bitCount_0f7a4_1 rfl ?_
  refine Rn.iconstv (v := 1) dJ6_bitCount_0f7a4_2 ic_1 ?_
  refine Rn.iushr dJ6_bitCount_0f7a4_3 ?_
  refine Rn.ldcw dJ6_bitCount_0f7a4_4 kJ6_265 ?_
  refine Rn.iand dJ6_bitCount_0f7a4_7 ?_
  refine Rn.isub dJ6_bitCount_0f7a4_8 ?_
  refine Rn.istore_n (lv' := [some (.int (x - ((((Int32.toUInt32 x) >>> ((Int32.toUInt32 1) &&& Int32.toUInt32 31)).toInt32) &&& 1431655765)))]) dJ6_bitCount_0f7a4_9 (by decide) rfl ?_
  refine Rn.iload_n dJ6_bitCount_0f7a4_10 rfl ?_
  refine Rn.ldcw dJ6_bitCount_0f7a4_11 kJ6_266 ?_
  refine Rn.iand dJ6_bitCount_0f7a4_14 ?_
  refine Rn.iload_n dJ6_bitCount_0f7a4_15 rfl ?_
  refine Rn.iconstv (v := 2) dJ6_bitCount_0f7a4_16 ic_2 ?_
  refine Rn.iushr dJ6_bitCount_0f7a4_17 ?_
  refine Rn.ldcw dJ6_bitCount_0f7a4_18 kJ6_266 ?_
  refine Rn.iand dJ6_bitCount_0f7a4_21 ?_
  refine Rn.iadd dJ6_bitCount_0f7a4_22 ?_
  refine Rn.istore_n (lv' := [some (.int (((x - ((((Int32.toUInt32 x) >>> ((Int32.toUInt32 1) &&& Int32.toUInt32 31)).toInt32) &&& 1431655765)) &&& 858993459) + ((((Int32.toUInt32 (x - ((((Int32.toUInt32 x) >>> ((Int32.toUInt32 1) &&& Int32.toUInt32 31)).toInt32) &&& 1431655765))) >>> ((Int32.toUInt32 2) &&& Int32.toUInt32 31)).toInt32) &&& 858993459)))]) dJ6_bitCount_0f7a4_23 (by decide) rfl ?_
  refine Rn.iload_n dJ6_bitCount_0f7a4_24 rfl ?_
  refine Rn.iload_n dJ6_bitCount_0f7a4_25 rfl ?_
  refine Rn.iconstv (v := 4) dJ6_bitCount_0f7a4_26 ic_4 ?_
  refine Rn.iushr dJ6_bitCount_0f7a4_27 ?_
  refine Rn.iadd dJ6_bitCount_0f7a4_28 ?_
  refine Rn.ldcw dJ6_bitCount_0f7a4_29 kJ6_267 ?_
  refine Rn.iand dJ6_bitCount_0f7a4_32 ?_
  refine Rn.istore_n (lv' := [some (.int (((((x - ((((Int32.toUInt32 x) >>> ((Int32.toUInt32 1) &&& Int32.toUInt32 31)).toInt32) &&& 1431655765)) &&& 858993459) + ((((Int32.toUInt32 (x - ((((Int32.toUInt32 x) >>> ((Int32.toUInt32 1) &&& Int32.toUInt32 31)).toInt32) &&& 1431655765))) >>> ((Int32.toUInt32 2) &&& Int32.toUInt32 31)).toInt32) &&& 858993459)) + (((Int32.toUInt32 (((x - ((((Int32.toUInt32 x) >>> ((Int32.toUInt32 1) &&& Int32.toUInt32 31)).toInt32) &&& 1431655765)) &&& 858993459) + ((((Int32.toUInt32 (x - ((((Int32.toUInt32 x) >>> ((Int32.toUInt32 1) &&& Int32.toUInt32 31)).toInt32) &&& 1431655765))) >>> ((Int32.toUInt32 2) &&& Int32.toUInt32 31)).toInt32) &&& 858993459))) >>> ((Int32.toUInt32 4) &&& Int32.toUInt32 31)).toInt32)) &&& 252645135))]) dJ6_bitCount_0f7a4_33 (by decide) rfl ?_
  refine Rn.iload_n dJ6_bitCount_0f7a4_34 rfl ?_
  refine Rn.iload_n dJ6_bitCount_0f7a4_35 rfl ?_
  refine Rn.bipushv (v := 8) dJ6_bitCount_0f7a4_36 bp_8 ?_
  refine Rn.iushr dJ6_bitCount_0f7a4_38 ?_
  refine Rn.iadd dJ6_bitCount_0f7a4_39 ?_
  refine Rn.istore_n (lv' := [some (.int ((((((x - ((((Int32.toUInt32 x) >>> ((Int32.toUInt32 1) &&& Int32.toUInt32 31)).toInt32) &&& 1431655765)) &&& 858993459) + ((((Int32.toUInt32 (x - ((((Int32.toUInt32 x) >>> ((Int32.toUInt32 1) &&& Int32.toUInt32 31)).toInt32) &&& 1431655765))) >>> ((Int32.toUInt32 2) &&& Int32.toUInt32 31)).toInt32) &&& 858993459)) + (((Int32.toUInt32 (((x - ((((Int32.toUInt32 x) >>> ((Int32.toUInt32 1) &&& Int32.toUInt32 31)).toInt32) &&& 1431655765)) &&& 858993459) + ((((Int32.toUInt32 (x - ((((Int32.toUInt32 x) >>> ((Int32.toUInt32 1) &&& Int32.toUInt32 31)).toInt32) &&& 1431655765))) >>> ((Int32.toUInt32 2) &&& Int32.toUInt32 31)).toInt32) &&& 858993459))) >>> ((Int32.toUInt32 4) &&& Int32.toUInt32 31)).toInt32)) &&& 252645135) + (((Int32.toUInt32 (((((x - ((((Int32.toUInt32 x) >>> ((Int32.toUInt32 1) &&& Int32.toUInt32 31)).toInt32) &&& 1431655765)) &&& 858993459) + ((((Int32.toUInt32 (x - ((((Int32.toUInt32 x) >>> ((Int32.toUInt32 1) &&& Int32.toUInt32 31)).toInt32) &&& 1431655765))) >>> ((Int32.toUInt32 2) &&& Int32.toUInt32 31)).toInt32) &&& 858993459)) + (((Int32.toUInt32 (((x - ((((Int32.toUInt32 x) >>> ((Int32.toUInt32 1) &&& Int32.toUInt32 31)).toInt32) &&& 1431655765)) &&& 858993459) + ((((Int32.toUInt32 (x - ((((Int32.toUInt32 x) >>> ((Int32.toUInt32 1) &&& Int32.toUInt32 31)).toInt32) &&& 1431655765))) >>> ((Int32.toUInt32 2) &&& Int32.toUInt32 31)).toInt32) &&& 858993459))) >>> ((Int32.toUInt32 4) &&& Int32.toUInt32 31)).toInt32)) &&& 252645135)) >>> ((Int32.toUInt32 8) &&& Int32.toUInt32 31)).toInt32)))]) dJ6_bitCount_0f7a4_40 (by decide) rfl ?_
  refine Rn.iload_n dJ6_bitCount_0f7a4_41 rfl ?_
  refine Rn.iload_n dJ6_bitCount_0f7a4_42 rfl ?_
  refine Rn.bipushv (v := 16) dJ6_bitCount_0f7a4_43 bp_16 ?_
  refine Rn.iushr dJ6_bitCount_0f7a4_45 ?_
  refine Rn.iadd dJ6_bitCount_0f7a4_46 ?_
  refine Rn.istore_n (lv' := [some (.int (((((((x - ((((Int32.toUInt32 x) >>> ((Int32.toUInt32 1) &&& Int32.toUInt32 31)).toInt32) &&& 1431655765)) &&& 858993459) + ((((Int32.toUInt32 (x - ((((Int32.toUInt32 x) >>> ((Int32.toUInt32 1) &&& Int32.toUInt32 31)).toInt32) &&& 1431655765))) >>> ((Int32.toUInt32 2) &&& Int32.toUInt32 31)).toInt32) &&& 858993459)) + (((Int32.toUInt32 (((x - ((((Int32.toUInt32 x) >>> ((Int32.toUInt32 1) &&& Int32.toUInt32 31)).toInt32) &&& 1431655765)) &&& 858993459) + ((((Int32.toUInt32 (x - ((((Int32.toUInt32 x) >>> ((Int32.toUInt32 1) &&& Int32.toUInt32 31)).toInt32) &&& 1431655765))) >>> ((Int32.toUInt32 2) &&& Int32.toUInt32 31)).toInt32) &&& 858993459))) >>> ((Int32.toUInt32 4) &&& Int32.toUInt32 31)).toInt32)) &&& 252645135) + (((Int32.toUInt32 (((((x - ((((Int32.toUInt32 x) >>> ((Int32.toUInt32 1) &&& Int32.toUInt32 31)).toInt32) &&& 1431655765)) &&& 858993459) + ((((Int32.toUInt32 (x - ((((Int32.toUInt32 x) >>> ((Int32.toUInt32 1) &&& Int32.toUInt32 31)).toInt32) &&& 1431655765))) >>> ((Int32.toUInt32 2) &&& Int32.toUInt32 31)).toInt32) &&& 858993459)) + (((Int32.toUInt32 (((x - ((((Int32.toUInt32 x) >>> ((Int32.toUInt32 1) &&& Int32.toUInt32 31)).toInt32) &&& 1431655765)) &&& 858993459) + ((((Int32.toUInt32 (x - ((((Int32.toUInt32 x) >>> ((Int32.toUInt32 1) &&& Int32.toUInt32 31)).toInt32) &&& 1431655765))) >>> ((Int32.toUInt32 2) &&& Int32.toUInt32 31)).toInt32) &&& 858993459))) >>> ((Int32.toUInt32 4) &&& Int32.toUInt32 31)).toInt32)) &&& 252645135)) >>> ((Int32.toUInt32 8) &&& Int32.toUInt32 31)).toInt32)) + (((Int32.toUInt32 ((((((x - ((((Int32.toUInt32 x) >>> ((Int32.toUInt32 1) &&& Int32.toUInt32 31)).toInt32) &&& 1431655765)) &&& 858993459) + ((((Int32.toUInt32 (x - ((((Int32.toUInt32 x) >>> ((Int32.toUInt32 1) &&& Int32.toUInt32 31)).toInt32) &&& 1431655765))) >>> ((Int32.toUInt32 2) &&& Int32.toUInt32 31)).toInt32) &&& 858993459)) + (((Int32.toUInt32 (((x - ((((Int32.toUInt32 x) >>> ((Int32.toUInt32 1) &&& Int32.toUInt32 31)).toInt32) &&& 1431655765)) &&& 858993459) + ((((Int32.toUInt32 (x - ((((Int32.toUInt32 x) >>> ((Int32.toUInt32 1) &&& Int32.toUInt32 31)).toInt32) &&& 1431655765))) >>> ((Int32.toUInt32 2) &&& Int32.toUInt32 31)).toInt32) &&& 858993459))) >>> ((Int32.toUInt32 4) &&& Int32.toUInt32 31)).toInt32)) &&& 252645135) + (((Int32.toUInt32 (((((x - ((((Int32.toUInt32 x) >>> ((Int32.toUInt32 1) &&& Int32.toUInt32 31)).toInt32) &&& 1431655765)) &&& 858993459) + ((((Int32.toUInt32 (x - ((((Int32.toUInt32 x) >>> ((Int32.toUInt32 1) &&& Int32.toUInt32 31)).toInt32) &&& 1431655765))) >>> ((Int32.toUInt32 2) &&& Int32.toUInt32 31)).toInt32) &&& 858993459)) + (((Int32.toUInt32 (((x - ((((Int32.toUInt32 x) >>> ((Int32.toUInt32 1) &&& Int32.toUInt32 31)).toInt32) &&& 1431655765)) &&& 858993459) + ((((Int32.toUInt32 (x - ((((Int32.toUInt32 x) >>> ((Int32.toUInt32 1) &&& Int32.toUInt32 31)).toInt32) &&& 1431655765))) >>> ((Int32.toUInt32 2) &&& Int32.toUInt32 31)).toInt32) &&& 858993459))) >>> ((Int32.toUInt32 4) &&& Int32.toUInt32 31)).toInt32)) &&& 252645135)) >>> ((Int32.toUInt32 8) &&& Int32.toUInt32 31)).toInt32))) >>> ((Int32.toUInt32 16) &&& Int32.toUInt32 31)).toInt32)))]) dJ6_bitCount_0f7a4_47 (by decide) rfl ?_
  refine Rn.iload_n dJ6_bitCount_0f7a4_48 rfl ?_
  refine Rn.bipushv (v := 63) dJ6_bitCount_0f7a4_49 bp_63 ?_
  refine Rn.iand dJ6_bitCount_0f7a4_51 ?_
  exact Rn.iret (ty := .int) dJ6_bitCount_0f7a4_52 rfl rfl hQ
theorem tJ13_bitCount {G : Gx} {l : Launch} {ly : Ly} {M : Mm} {x : Int64} : Mt G l mJ13_bitCount_95d88 (1, 0, 0, false) [.long x] ly M (Is (some (.int (pcL x))) ly M) := by
  refine Mt.is (fun Q hQ => ?_)
  refine Mt.of (lv := [some (.long x), none]) rfl ?_
  refine Rn.lload_n dJ13_bitCount_95d88_0 rfl ?_
  refine Rn.lload_n dJ13_bitCount_95d88_1 rfl ?_
  refine Rn.iconstv (v := 1) dJ13_bitCount_95d88_2 ic_1 ?_
  refine Rn.lushr dJ13_bitCount_95d88_3 ?_
  refine Rn.ldc2 dJ13_bitCount_95d88_4 kJ13_314 ?_
  refine Rn.land dJ13_bitCount_95d88_7 ?_
  refine Rn.lsub dJ13_bitCount_95d88_8 ?_
  refine Rn.lstore_n (lv' := [some (.long (x - ((((Int64.toUInt64 x) >>> ((Int64.toUInt64 (Int32.toInt64 1)) &&& Int64.toUInt64 63)).toInt64) &&& 6148914691236517205))), none]) dJ13_bitCount_95d88_9 (by decide) rfl ?_
  refine Rn.lload_n dJ13_bitCount_95d88_10 rfl ?_
  refine Rn.ldc2 dJ13_bitCount_95d88_11 kJ13_316 ?_
  refine Rn.land dJ13_bitCount_95d88_14 ?_
  refine Rn.lload_n dJ13_bitCount_95d88_15 rfl ?_
  refine Rn.iconstv (v := 2) dJ13_bitCount_95d88_16 ic_2 ?_
  refine Rn.lushr dJ13_bitCount_95d88_17 ?_
  refine Rn.ldc2 dJ13_bitCount_95d88_18 kJ13_316 ?_
  refine Rn.land dJ13_bitCount_95d88_21 ?_
  refine Rn.ladd dJ13_bitCount_95d88_22 ?_
  refine Rn.lstore_n (lv' := [some (.long (((x - ((((Int64.toUInt64 x) >>> ((Int64.toUInt64 (Int32.toInt64 1)) &&& Int64.toUInt64 63)).toInt64) &&& 6148914691236517205)) &&& 3689348814741910323) + ((((Int64.toUInt64 (x - ((((Int64.toUInt64 x) >>> ((Int64.toUInt64 (Int32.toInt64 1)) &&& Int64.toUInt64 63)).toInt64) &&& 6148914691236517205))) >>> ((Int64.toUInt64 (Int32.toInt64 2)) &&& Int64.toUInt64 63)).toInt64) &&& 3689348814741910323))), none]) dJ13_bitCount_95d88_23 (by decide) rfl ?_
  refine Rn.lload_n dJ13_bitCount_95d88_24 rfl ?_
  refine Rn.lload_n dJ13_bitCount_95d88_25 rfl ?_
  refine Rn.iconstv (v := 4) dJ13_bitCount_95d88_26 ic_4 ?_
  refine Rn.lushr dJ13_bitCount_95d88_27 ?_
  refine Rn.ladd dJ13_bitCount_95d88_28 ?_
  refine Rn.ldc2 dJ13_bitCount_95d88_29 kJ13_318 ?_
  refine Rn.land dJ13_bitCount_95d88_32 ?_
  refine Rn.lstore_n (lv' := [some (.long (((((x - ((((Int64.toUInt64 x) >>> ((Int64.toUInt64 (Int32.toInt64 1)) &&& Int64.toUInt64 63)).toInt64) &&& 6148914691236517205)) &&& 3689348814741910323) + ((((Int64.toUInt64 (x - ((((Int64.toUInt64 x) >>> ((Int64.toUInt64 (Int32.toInt64 1)) &&& Int64.toUInt64 63)).toInt64) &&& 6148914691236517205))) >>> ((Int64.toUInt64 (Int32.toInt64 2)) &&& Int64.toUInt64 63)).toInt64) &&& 3689348814741910323)) + (((Int64.toUInt64 (((x - ((((Int64.toUInt64 x) >>> ((Int64.toUInt64 (Int32.toInt64 1)) &&& Int64.toUInt64 63)).toInt64) &&& 6148914691236517205)) &&& 3689348814741910323) + ((((Int64.toUInt64 (x - ((((Int64.toUInt64 x) >>> ((Int64.toUInt64 (Int32.toInt64 1)) &&& Int64.toUInt64 63)).toInt64) &&& 6148914691236517205))) >>> ((Int64.toUInt64 (Int32.toInt64 2)) &&& Int64.toUInt64 63)).toInt64) &&& 3689348814741910323))) >>> ((Int64.toUInt64 (Int32.toInt64 4)) &&& Int64.toUInt64 63)).toInt64)) &&& 1085102592571150095)), none]) dJ13_bitCount_95d88_33 (by decide) rfl ?_
  refine Rn.lload_n dJ13_bitCount_95d88_34 rfl ?_
  refine Rn.lload_n dJ13_bitCount_95d88_35 rfl ?_
  refine Rn.bipushv (v := 8) dJ13_bitCount_95d88_36 bp_8 ?_
  refine Rn.lushr dJ13_bitCount_95d88_38 ?_
  refine Rn.ladd dJ13_bitCount_95d88_39 ?_
  refine Rn.lstore_n (lv' := [some (.long ((((((x - ((((Int64.toUInt64 x) >>> ((Int64.toUInt64 (Int32.toInt64 1)) &&& Int64.toUInt64 63)).toInt64) &&& 6148914691236517205)) &&& 3689348814741910323) + ((((Int64.toUInt64 (x - ((((Int64.toUInt64 x) >>> ((Int64.toUInt64 (Int32.toInt64 1)) &&& Int64.toUInt64 63)).toInt64) &&& 6148914691236517205))) >>> ((Int64.toUInt64 (Int32.toInt64 2)) &&& Int64.toUInt64 63)).toInt64) &&& 3689348814741910323)) + (((Int64.toUInt64 (((x - ((((Int64.toUInt64 x) >>> ((Int64.toUInt64 (Int32.toInt64 1)) &&& Int64.toUInt64 63)).toInt64) &&& 6148914691236517205)) &&& 3689348814741910323) + ((((Int64.toUInt64 (x - ((((Int64.toUInt64 x) >>> ((Int64.toUInt64 (Int32.toInt64 1)) &&& Int64.toUInt64 63)).toInt64) &&& 6148914691236517205))) >>> ((Int64.toUInt64 (Int32.toInt64 2)) &&& Int64.toUInt64 63)).toInt64) &&& 3689348814741910323))) >>> ((Int64.toUInt64 (Int32.toInt64 4)) &&& Int64.toUInt64 63)).toInt64)) &&& 1085102592571150095) + (((Int64.toUInt64 (((((x - ((((Int64.toUInt64 x) >>> ((Int64.toUInt64 (Int32.toInt64 1)) &&& Int64.toUInt64 63)).toInt64) &&& 6148914691236517205)) &&& 3689348814741910323) + ((((Int64.toUInt64 (x - ((((Int64.toUInt64 x) >>> ((Int64.toUInt64 (Int32.toInt64 1)) &&& Int64.toUInt64 63)).toInt64) &&& 6148914691236517205))) >>> ((Int64.toUInt64 (Int32.toInt64 2)) &&& Int64.toUInt64 63)).toInt64) &&& 3689348814741910323)) + (((Int64.toUInt64 (((x - ((((Int64.toUInt64 x) >>> ((Int64.toUInt64 (Int32.toInt64 1)) &&& Int64.toUInt64 63)).toInt64) &&& 6148914691236517205)) &&& 3689348814741910323) + ((((Int64.toUInt64 (x - ((((Int64.toUInt64 x) >>> ((Int64.toUInt64 (Int32.toInt64 1)) &&& Int64.toUInt64 63)).toInt64) &&& 6148914691236517205))) >>> ((Int64.toUInt64 (Int32.toInt64 2)) &&& Int64.toUInt64 63)).toInt64) &&& 3689348814741910323))) >>> ((Int64.toUInt64 (Int32.toInt64 4)) &&& Int64.toUInt64 63)).toInt64)) &&& 1085102592571150095)) >>> ((Int64.toUInt64 (Int32.toInt64 8)) &&& Int64.toUInt64 63)).toInt64))), none]) dJ13_bitCount_95d88_40 (by decide) rfl ?_
  refine Rn.lload_n dJ13_bitCount_95d88_41 rfl ?_
  refine Rn.lload_n dJ13_bitCount_95d88_42 rfl ?_
  refine Rn.bipushv (v := 16) dJ13_bitCount_95d88_43 bp_16 ?_
  refine Rn.lushr dJ13_bitCount_95d88_45 ?_
  refine Rn.ladd dJ13_bitCount_95d88_46 ?_
  refine Rn.lstore_n (lv' := [some (.long (((((((x - ((((Int64.toUInt64 x) >>> ((Int64.toUInt64 (Int32.toInt64 1)) &&& Int64.toUInt64 63)).toInt64) &&& 6148914691236517205)) &&& 3689348814741910323) + ((((Int64.toUInt64 (x - ((((Int64.toUInt64 x) >>> ((Int64.toUInt64 (Int32.toInt64 1)) &&& Int64.toUInt64 63)).toInt64) &&& 6148914691236517205))) >>> ((Int64.toUInt64 (Int32.toInt64 2)) &&& Int64.toUInt64 63)).toInt64) &&& 3689348814741910323)) + (((Int64.toUInt64 (((x - ((((Int64.toUInt64 x) >>> ((Int64.toUInt64 (Int32.toInt64 1)) &&& Int64.toUInt64 63)).toInt64) &&& 6148914691236517205)) &&& 3689348814741910323) + ((((Int64.toUInt64 (x - ((((Int64.toUInt64 x) >>> ((Int64.toUInt64 (Int32.toInt64 1)) &&& Int64.toUInt64 63)).toInt64) &&& 6148914691236517205))) >>> ((Int64.toUInt64 (Int32.toInt64 2)) &&& Int64.toUInt64 63)).toInt64) &&& 3689348814741910323))) >>> ((Int64.toUInt64 (Int32.toInt64 4)) &&& Int64.toUInt64 63)).toInt64)) &&& 1085102592571150095) + (((Int64.toUInt64 (((((x - ((((Int64.toUInt64 x) >>> ((Int64.toUInt64 (Int32.toInt64 1)) &&& Int64.toUInt64 63)).toInt64) &&& 6148914691236517205)) &&& 3689348814741910323) + ((((Int64.toUInt64 (x - ((((Int64.toUInt64 x) >>> ((Int64.toUInt64 (Int32.toInt64 1)) &&& Int64.toUInt64 63)).toInt64) &&& 6148914691236517205))) >>> ((Int64.toUInt64 (Int32.toInt64 2)) &&& Int64.toUInt64 63)).toInt64) &&& 3689348814741910323)) + (((Int64.toUInt64 (((x - ((((Int64.toUInt64 x) >>> ((Int64.toUInt64 (Int32.toInt64 1)) &&& Int64.toUInt64 63)).toInt64) &&& 6148914691236517205)) &&& 3689348814741910323) + ((((Int64.toUInt64 (x - ((((Int64.toUInt64 x) >>> ((Int64.toUInt64 (Int32.toInt64 1)) &&& Int64.toUInt64 63)).toInt64) &&& 6148914691236517205))) >>> ((Int64.toUInt64 (Int32.toInt64 2)) &&& Int64.toUInt64 63)).toInt64) &&& 3689348814741910323))) >>> ((Int64.toUInt64 (Int32.toInt64 4)) &&& Int64.toUInt64 63)).toInt64)) &&& 1085102592571150095)) >>> ((Int64.toUInt64 (Int32.toInt64 8)) &&& Int64.toUInt64 63)).toInt64)) + (((Int64.toUInt64 ((((((x - ((((Int64.toUInt64 x) >>> ((Int64.toUInt64 (Int32.toInt64 1)) &&& Int64.toUInt64 63)).toInt64) &&& 6148914691236517205)) &&& 3689348814741910323) + ((((Int64.toUInt64 (x - ((((Int64.toUInt64 x) >>> ((Int64.toUInt64 (Int32.toInt64 1)) &&& Int64.toUInt64 63)).toInt64) &&& 6148914691236517205))) >>> ((Int64.toUInt64 (Int32.toInt64 2)) &&& Int64.toUInt64 63)).toInt64) &&& 3689348814741910323)) + (((Int64.toUInt64 (((x - ((((Int64.toUInt64 x) >>> ((Int64.toUInt64 (Int32.toInt64 1)) &&& Int64.toUInt64 63)).toInt64) &&& 6148914691236517205)) &&& 3689348814741910323) + ((((Int64.toUInt64 (x - ((((Int64.toUInt64 x) >>> ((Int64.toUInt64 (Int32.toInt64 1)) &&& Int64.toUInt64 63)).toInt64) &&& 6148914691236517205))) >>> ((Int64.toUInt64 (Int32.toInt64 2)) &&& Int64.toUInt64 63)).toInt64) &&& 3689348814741910323))) >>> ((Int64.toUInt64 (Int32.toInt64 4)) &&& Int64.toUInt64 63)).toInt64)) &&& 1085102592571150095) + (((Int64.toUInt64 (((((x - ((((Int64.toUInt64 x) >>> ((Int64.toUInt64 (Int32.toInt64 1)) &&& Int64.toUInt64 63)).toInt64) &&& 6148914691236517205)) &&& 3689348814741910323) + ((((Int64.toUInt64 (x - ((((Int64.toUInt64 x) >>> ((Int64.toUInt64 (Int32.toInt64 1)) &&& Int64.toUInt64 63)).toInt64) &&& 6148914691236517205))) >>> ((Int64.toUInt64 (Int32.toInt64 2)) &&& Int64.toUInt64 63)).toInt64) &&& 3689348814741910323)) + (((Int64.toUInt64 (((x - ((((Int64.toUInt64 x) >>> ((Int64.toUInt64 (Int32.toInt64 1)) &&& Int64.toUInt64 63)).toInt64) &&& 6148914691236517205)) &&& 3689348814741910323) + ((((Int64.toUInt64 (x - ((((Int64.toUInt64 x) >>> ((Int64.toUInt64 (Int32.toInt64 1)) &&& Int64.toUInt64 63)).toInt64) &&& 6148914691236517205))) >>> ((Int64.toUInt64 (Int32.toInt64 2)) &&& Int64.toUInt64 63)).toInt64) &&& 3689348814741910323))) >>> ((Int64.toUInt64 (Int32.toInt64 4)) &&& Int64.toUInt64 63)).toInt64)) &&& 1085102592571150095)) >>> ((Int64.toUInt64 (Int32.toInt64 8)) &&& Int64.toUInt64 63)).toInt64))) >>> ((Int64.toUInt64 (Int32.toInt64 16)) &&& Int64.toUInt64 63)).toInt64))), none]) dJ13_bitCount_95d88_47 (by decide) rfl ?_
  refine Rn.lload_n dJ13_bitCount_95d88_48 rfl ?_
  refine Rn.lload_n dJ13_bitCount_95d88_49 rfl ?_
  refine Rn.bipushv (v := 32) dJ13_bitCount_95d88_50 bp_32 ?_
  refine Rn.lushr dJ13_bitCount_95d88_52 ?_
  refine Rn.ladd dJ13_bitCount_95d88_53 ?_
  refine Rn.lstore_n (lv' := [some (.long ((((((((x - ((((Int64.toUInt64 x) >>> ((Int64.toUInt64 (Int32.toInt64 1)) &&& Int64.toUInt64 63)).toInt64) &&& 6148914691236517205)) &&& 3689348814741910323) + ((((Int64.toUInt64 (x - ((((Int64.toUInt64 x) >>> ((Int64.toUInt64 (Int32.toInt64 1)) &&& Int64.toUInt64 63)).toInt64) &&& 6148914691236517205))) >>> ((Int64.toUInt64 (Int32.toInt64 2)) &&& Int64.toUInt64 63)).toInt64) &&& 3689348814741910323)) + (((Int64.toUInt64 (((x - ((((Int64.toUInt64 x) >>> ((Int64.toUInt64 (Int32.toInt64 1)) &&& Int64.toUInt64 63)).toInt64) &&& 6148914691236517205)) &&& 3689348814741910323) + ((((Int64.toUInt64 (x - ((((Int64.toUInt64 x) >>> ((Int64.toUInt64 (Int32.toInt64 1)) &&& Int64.toUInt64 63)).toInt64) &&& 6148914691236517205))) >>> ((Int64.toUInt64 (Int32.toInt64 2)) &&& Int64.toUInt64 63)).toInt64) &&& 3689348814741910323))) >>> ((Int64.toUInt64 (Int32.toInt64 4)) &&& Int64.toUInt64 63)).toInt64)) &&& 1085102592571150095) + (((Int64.toUInt64 (((((x - ((((Int64.toUInt64 x) >>> ((Int64.toUInt64 (Int32.toInt64 1)) &&& Int64.toUInt64 63)).toInt64) &&& 6148914691236517205)) &&& 3689348814741910323) + ((((Int64.toUInt64 (x - ((((Int64.toUInt64 x) >>> ((Int64.toUInt64 (Int32.toInt64 1)) &&& Int64.toUInt64 63)).toInt64) &&& 6148914691236517205))) >>> ((Int64.toUInt64 (Int32.toInt64 2)) &&& Int64.toUInt64 63)).toInt64) &&& 3689348814741910323)) + (((Int64.toUInt64 (((x - ((((Int64.toUInt64 x) >>> ((Int64.toUInt64 (Int32.toInt64 1)) &&& Int64.toUInt64 63)).toInt64) &&& 6148914691236517205)) &&& 3689348814741910323) + ((((Int64.toUInt64 (x - ((((Int64.toUInt64 x) >>> ((Int64.toUInt64 (Int32.toInt64 1)) &&& Int64.toUInt64 63)).toInt64) &&& 6148914691236517205))) >>> ((Int64.toUInt64 (Int32.toInt64 2)) &&& Int64.toUInt64 63)).toInt64) &&& 3689348814741910323))) >>> ((Int64.toUInt64 (Int32.toInt64 4)) &&& Int64.toUInt64 63)).toInt64)) &&& 1085102592571150095)) >>> ((Int64.toUInt64 (Int32.toInt64 8)) &&& Int64.toUInt64 63)).toInt64)) + (((Int64.toUInt64 ((((((x - ((((Int64.toUInt64 x) >>> ((Int64.toUInt64 (Int32.toInt64 1)) &&& Int64.toUInt64 63)).toInt64) &&& 6148914691236517205)) &&& 3689348814741910323) + ((((Int64.toUInt64 (x - ((((Int64.toUInt64 x) >>> ((Int64.toUInt64 (Int32.toInt64 1)) &&& Int64.toUInt64 63)).toInt64) &&& 6148914691236517205))) >>> ((Int64.toUInt64 (Int32.toInt64 2)) &&& Int64.toUInt64 63)).toInt64) &&& 3689348814741910323)) + (((Int64.toUInt64 (((x - ((((Int64.toUInt64 x) >>> ((Int64.toUInt64 (Int32.toInt64 1)) &&& Int64.toUInt64 63)).toInt64) &&& 6148914691236517205)) &&& 3689348814741910323) + ((((Int64.toUInt64 (x - ((((Int64.toUInt64 x) >>> ((Int64.toUInt64 (Int32.toInt64 1)) &&& Int64.toUInt64 63)).toInt64) &&& 6148914691236517205))) >>> ((Int64.toUInt64 (Int32.toInt64 2)) &&& Int64.toUInt64 63)).toInt64) &&& 3689348814741910323))) >>> ((Int64.toUInt64 (Int32.toInt64 4)) &&& Int64.toUInt64 63)).toInt64)) &&& 1085102592571150095) + (((Int64.toUInt64 (((((x - ((((Int64.toUInt64 x) >>> ((Int64.toUInt64 (Int32.toInt64 1)) &&& Int64.toUInt64 63)).toInt64) &&& 6148914691236517205)) &&& 3689348814741910323) + ((((Int64.toUInt64 (x - ((((Int64.toUInt64 x) >>> ((Int64.toUInt64 (Int32.toInt64 1)) &&& Int64.toUInt64 63)).toInt64) &&& 6148914691236517205))) >>> ((Int64.toUInt64 (Int32.toInt64 2)) &&& Int64.toUInt64 63)).toInt64) &&& 3689348814741910323)) + (((Int64.toUInt64 (((x - ((((Int64.toUInt64 x) >>> ((Int64.toUInt64 (Int32.toInt64 1)) &&& Int64.toUInt64 63)).toInt64) &&& 6148914691236517205)) &&& 3689348814741910323) + ((((Int64.toUInt64 (x - ((((Int64.toUInt64 x) >>> ((Int64.toUInt64 (Int32.toInt64 1)) &&& Int64.toUInt64 63)).toInt64) &&& 6148914691236517205))) >>> ((Int64.toUInt64 (Int32.toInt64 2)) &&& Int64.toUInt64 63)).toInt64) &&& 3689348814741910323))) >>> ((Int64.toUInt64 (Int32.toInt64 4)) &&& Int64.toUInt64 63)).toInt64)) &&& 1085102592571150095)) >>> ((Int64.toUInt64 (Int32.toInt64 8)) &&& Int64.toUInt64 63)).toInt64))) >>> ((Int64.toUInt64 (Int32.toInt64 16)) &&& Int64.toUInt64 63)).toInt64)) + (((Int64.toUInt64 (((((((x - ((((Int64.toUInt64 x) >>> ((Int64.toUInt64 (Int32.toInt64 1)) &&& Int64.toUInt64 63)).toInt64) &&& 6148914691236517205)) &&& 3689348814741910323) + ((((Int64.toUInt64 (x - ((((Int64.toUInt64 x) >>> ((Int64.toUInt64 (Int32.toInt64 1)) &&& Int64.toUInt64 63)).toInt64) &&& 6148914691236517205))) >>> ((Int64.toUInt64 (Int32.toInt64 2)) &&& Int64.toUInt64 63)).toInt64) &&& 3689348814741910323)) + (((Int64.toUInt64 (((x - ((((Int64.toUInt64 x) >>> ((Int64.toUInt64 (Int32.toInt64 1)) &&& Int64.toUInt64 63)).toInt64) &&& 6148914691236517205)) &&& 3689348814741910323) + ((((Int64.toUInt64 (x - ((((Int64.toUInt64 x) >>> ((Int64.toUInt64 (Int32.toInt64 1)) &&& Int64.toUInt64 63)).toInt64) &&& 6148914691236517205))) >>> ((Int64.toUInt64 (Int32.toInt64 2)) &&& Int64.toUInt64 63)).toInt64) &&& 3689348814741910323))) >>> ((Int64.toUInt64 (Int32.toInt64 4)) &&& Int64.toUInt64 63)).toInt64)) &&& 1085102592571150095) + (((Int64.toUInt64 (((((x - ((((Int64.toUInt64 x) >>> ((Int64.toUInt64 (Int32.toInt64 1)) &&& Int64.toUInt64 63)).toInt64) &&& 6148914691236517205)) &&& 3689348814741910323) + ((((Int64.toUInt64 (x - ((((Int64.toUInt64 x) >>> ((Int64.toUInt64 (Int32.toInt64 1)) &&& Int64.toUInt64 63)).toInt64) &&& 6148914691236517205))) >>> ((Int64.toUInt64 (Int32.toInt64 2)) &&& Int64.toUInt64 63)).toInt64) &&& 3689348814741910323)) + (((Int64.toUInt64 (((x - ((((Int64.toUInt64 x) >>> ((Int64.toUInt64 (Int32.toInt64 1)) &&& Int64.toUInt64 63)).toInt64) &&& 6148914691236517205)) &&& 3689348814741910323) + ((((Int64.toUInt64 (x - ((((Int64.toUInt64 x) >>> ((Int64.toUInt64 (Int32.toInt64 1)) &&& Int64.toUInt64 63)).toInt64) &&& 6148914691236517205))) >>> ((Int64.toUInt64 (Int32.toInt64 2)) &&& Int64.toUInt64 63)).toInt64) &&& 3689348814741910323))) >>> ((Int64.toUInt64 (Int32.toInt64 4)) &&& Int64.toUInt64 63)).toInt64)) &&& 1085102592571150095)) >>> ((Int64.toUInt64 (Int32.toInt64 8)) &&& Int64.toUInt64 63)).toInt64)) + (((Int64.toUInt64 ((((((x - ((((Int64.toUInt64 x) >>> ((Int64.toUInt64 (Int32.toInt64 1)) &&& Int64.toUInt64 63)).toInt64) &&& 6148914691236517205)) &&& 3689348814741910323) + ((((Int64.toUInt64 (x - ((((Int64.toUInt64 x) >>> ((Int64.toUInt64 (Int32.toInt64 1)) &&& Int64.toUInt64 63)).toInt64) &&& 6148914691236517205))) >>> ((Int64.toUInt64 (Int32.toInt64 2)) &&& Int64.toUInt64 63)).toInt64) &&& 3689348814741910323)) + (((Int64.toUInt64 (((x - ((((Int64.toUInt64 x) >>> ((Int64.toUInt64 (Int32.toInt64 1)) &&& Int64.toUInt64 63)).toInt64) &&& 6148914691236517205)) &&& 3689348814741910323) + ((((Int64.toUInt64 (x - ((((Int64.toUInt64 x) >>> ((Int64.toUInt64 (Int32.toInt64 1)) &&& Int64.toUInt64 63)).toInt64) &&& 6148914691236517205))) >>> ((Int64.toUInt64 (Int32.toInt64 2)) &&& Int64.toUInt64 63)).toInt64) &&& 3689348814741910323))) >>> ((Int64.toUInt64 (Int32.toInt64 4)) &&& Int64.toUInt64 63)).toInt64)) &&& 1085102592571150095) + (((Int64.toUInt64 (((((x - ((((Int64.toUInt64 x) >>> ((Int64.toUInt64 (Int32.toInt64 1)) &&& Int64.toUInt64 63)).toInt64) &&& 6148914691236517205)) &&& 3689348814741910323) + ((((Int64.toUInt64 (x - ((((Int64.toUInt64 x) >>> ((Int64.toUInt64 (Int32.toInt64 1)) &&& Int64.toUInt64 63)).toInt64) &&& 6148914691236517205))) >>> ((Int64.toUInt64 (Int32.toInt64 2)) &&& Int64.toUInt64 63)).toInt64) &&& 3689348814741910323)) + (((Int64.toUInt64 (((x - ((((Int64.toUInt64 x) >>> ((Int64.toUInt64 (Int32.toInt64 1)) &&& Int64.toUInt64 63)).toInt64) &&& 6148914691236517205)) &&& 3689348814741910323) + ((((Int64.toUInt64 (x - ((((Int64.toUInt64 x) >>> ((Int64.toUInt64 (Int32.toInt64 1)) &&& Int64.toUInt64 63)).toInt64) &&& 6148914691236517205))) >>> ((Int64.toUInt64 (Int32.toInt64 2)) &&& Int64.toUInt64 63)).toInt64) &&& 3689348814741910323))) >>> ((Int64.toUInt64 (Int32.toInt64 4)) &&& Int64.toUInt64 63)).toInt64)) &&& 1085102592571150095)) >>> ((Int64.toUInt64 (Int32.toInt64 8)) &&& Int64.toUInt64 63)).toInt64))) >>> ((Int64.toUInt64 (Int32.toInt64 16)) &&& Int64.toUInt64 63)).toInt64))) >>> ((Int64.toUInt64 (Int32.toInt64 32)) &&& Int64.toUInt64 63)).toInt64))), none]) dJ13_bitCount_95d88_54 (by decide) rfl ?_
  refine Rn.lload_n dJ13_bitCount_95d88_55 rfl ?_
  refine Rn.l2i dJ13_bitCount_95d88_56 ?_
  refine Rn.bipushv (v := 127) dJ13_bitCount_95d88_57 bp_127 ?_
  refine Rn.iand dJ13_bitCount_95d88_59 ?_
  exact Rn.iret (ty := .int) dJ13_bitCount_95d88_60 rfl rfl hQ
def cntF (M : Mm) (pl n : Nat) (x : Int32) : Int32 := if x = 0 then M.1 pl 0 else if x = 1 then M.1 (pl + 1) 0 else if x = 2 then M.1 87 0 else if x = 3 then M.1 (pl + 1) 2 else if x = 4 then M.1 (pl + 1) 3 else if x = 5 then M.1 pl 8 else if x = 6 then M.1 75 14 else if x = 7 then M.1 128 0 else if x = 8 then knN (M.1 128 1) (M.1 128 0) else if x = 9 then M.1 134 0 else if x = 10 then pcI (M.1 75 7) else if x = 11 then (if M.1 75 16 = 0 then 0 else 1) else if x = 12 then gr (M.1 77) n else if x = 13 then gr (M.1 81) n else -1
theorem tX11_countSway {G : Gx} {l : Launch} {ly : Ly} {M : Mm} {pl n nw nu nv : Nat} {x : Int32} (hno : ¬ x = 0 ∧ ¬ x = 1 ∧ ¬ x = 2 ∧ ¬ x = 3 ∧ ¬ x = 4 ∧ ¬ x = 5 ∧ ¬ x = 6 ∧ ¬ x = 7 ∧ ¬ x = 8 ∧ ¬ x = 9) (hXS : XS ly M pl n nw nu nv) {Q : Qt} (hQ : Q (some (.int (cntF M pl n x))) ly M) : Mt G l mX11_countSway (3, 0, 0, false) [.ref 0, .int x] ly M Q := by
  have hXS0 := hXS
  obtain ⟨hX, hpl, hp7, ⟨n0, n1, n2, n3⟩, ⟨hn, hn2, hn12⟩, ⟨hw1, hw2, hw6⟩, ⟨hu1, hu2, hv1, hv2⟩, hgl, hbb⟩ := hXS
  refine Mt.of (lv := [some (.ref 0), some (.int x)]) rfl ?_
  obtain ⟨m0, m1, m2, m3, m4, m5, m6, m7, m8, m9⟩ := hno
  unfold cntF at hQ
  rw [if_neg m0, if_neg m1, if_neg m2, if_neg m3, if_neg m4, if_neg m5, if_neg m6, if_neg m7, if_neg m8, if_neg m9] at hQ
  refine Rn.iload_n dX11_countSway_0 rfl ?_
  by_cases c10 : x = 10
  · skip
    rw [c10]
    refine Rn.tableIn (off := 31) (tgt := 32) dX11_countSway_1 (by decide) (by decide) (by decide) (by decide) ?_
    rw [if_pos c10] at hQ
    refine Rn.aload_n dX11_countSway_32 rfl ?_
    refine Rn.getR dX11_countSway_33 fX11_39 rfl (xc0 hX) (show M.2.2 0 5 = some 75 from (xp0_5 hX)) ?_
    refine Rn.getI dX11_countSway_36 fX11_183 rfl (xc75 hX) ?_
    refine Rn.callS1 dX11_countSway_39 vX11_239 (tJ6_bitCount) (by decide) ⟨(Nat.le_of_ble_eq_true rfl), (Nat.le_of_ble_eq_true rfl), (Nat.le_of_ble_eq_true rfl)⟩ (fun h => by cases h) (fun v1 ly1 M1 ⟨q1, q2, q3⟩ => ?_)
    rw [q1, q2, q3]
    exact Rn.iret (ty := .int) dX11_countSway_42 rfl rfl hQ
  · skip
    by_cases c11 : x = 11
    · skip
      rw [c11]
      refine Rn.tableIn (off := 42) (tgt := 43) dX11_countSway_1 (by decide) (by decide) (by decide) (by decide) ?_
      rw [if_neg c10, if_pos c11] at hQ
      refine Rn.aload_n dX11_countSway_43 rfl ?_
      refine Rn.getR dX11_countSway_44 fX11_39 rfl (xc0 hX) (show M.2.2 0 5 = some 75 from (xp0_5 hX)) ?_
      refine Rn.getI dX11_countSway_47 fX11_242 rfl (xc75 hX) ?_
      refine Rn.if_eq dX11_countSway_50 (fun hb => ?_) (fun hb => ?_)
      · skip
        rw [if_pos hb] at hQ
        refine Rn.iconstv (v := 0) dX11_countSway_57 ic_0 ?_
        exact Rn.iret (ty := .int) dX11_countSway_58 rfl rfl hQ
      · skip
        rw [if_neg hb] at hQ
        refine Rn.iconstv (v := 1) dX11_countSway_53 ic_1 ?_
        refine Rn.goto dX11_countSway_54 ?_
        exact Rn.iret (ty := .int) dX11_countSway_58 rfl rfl hQ
    · skip
      by_cases c12 : x = 12
      · skip
        rw [c12]
        refine Rn.tableIn (off := 58) (tgt := 59) dX11_countSway_1 (by decide) (by decide) (by decide) (by decide) ?_
        rw [if_neg c10, if_neg c11, if_pos c12] at hQ
        refine Rn.aload_n dX11_countSway_59 rfl ?_
        refine Rn.getR dX11_countSway_60 fX11_39 rfl (xc0 hX) (show M.2.2 0 5 = some 75 from (xp0_5 hX)) ?_
        refine Rn.getR dX11_countSway_63 fX11_165 rfl (xc75 hX) (show M.2.2 75 5 = some 76 from (xp75_5 hX)) ?_
        refine Rn.aload_n dX11_countSway_66 rfl ?_
        refine Rn.getR dX11_countSway_67 fX11_27 rfl (xc0 hX) (show M.2.2 0 3 = some pl from hpl) ?_
        refine Rn.getI dX11_countSway_70 fX11_209 rfl (pc0 hX hp7) ?_
        refine Rn.topI (y := nI n) (hn) ?_
        refine Rn.callV1 dX11_countSway_73 vX11_245 (xc76 hX) (by decide) rfl (tX10_greatest (a := 76) (n := n) ⟨xc76 hX, xc77 hX, xc78 hX, xc79 hX, xp76_0 hX, xp76_1 hX, xp76_2 hX⟩ hn12) (by decide) ⟨(Nat.le_of_ble_eq_true rfl), (Nat.le_of_ble_eq_true rfl), (Nat.le_of_ble_eq_true rfl)⟩ (fun h => by cases h) (fun v1 ly1 M1 ⟨q1, q2, q3⟩ => ?_)
        rw [q1, q2, q3]
        exact Rn.iret (ty := .int) dX11_countSway_76 rfl rfl hQ
      · skip
        by_cases c13 : x = 13
        · skip
          rw [c13]
          refine Rn.tableIn (off := 76) (tgt := 77) dX11_countSway_1 (by decide) (by decide) (by decide) (by decide) ?_
          rw [if_neg c10, if_neg c11, if_neg c12, if_pos c13] at hQ
          refine Rn.aload_n dX11_countSway_77 rfl ?_
          refine Rn.getR dX11_countSway_78 fX11_39 rfl (xc0 hX) (show M.2.2 0 5 = some 75 from (xp0_5 hX)) ?_
          refine Rn.getR dX11_countSway_81 fX11_177 rfl (xc75 hX) (show M.2.2 75 6 = some 80 from (xp75_6 hX)) ?_
          refine Rn.aload_n dX11_countSway_84 rfl ?_
          refine Rn.getR dX11_countSway_85 fX11_27 rfl (xc0 hX) (show M.2.2 0 3 = some pl from hpl) ?_
          refine Rn.getI dX11_countSway_88 fX11_209 rfl (pc0 hX hp7) ?_
          refine Rn.topI (y := nI n) (hn) ?_
          refine Rn.callV1 dX11_countSway_91 vX11_245 (xc80 hX) (by decide) rfl (tX10_greatest (a := 80) (n := n) ⟨xc80 hX, xc81 hX, xc82 hX, xc83 hX, xp80_0 hX, xp80_1 hX, xp80_2 hX⟩ hn12) (by decide) ⟨(Nat.le_of_ble_eq_true rfl), (Nat.le_of_ble_eq_true rfl), (Nat.le_of_ble_eq_true rfl)⟩ (fun h => by cases h) (fun v1 ly1 M1 ⟨q1, q2, q3⟩ => ?_)
          rw [q1, q2, q3]
          exact Rn.iret (ty := .int) dX11_countSway_94 rfl rfl hQ
        · skip
          have n10 : Int32.toInt x ≠ 10 := fun h => c10 (Int32.toInt_inj.mp (h.trans (by decide)))
          have n11 : Int32.toInt x ≠ 11 := fun h => c11 (Int32.toInt_inj.mp (h.trans (by decide)))
          have n12 : Int32.toInt x ≠ 12 := fun h => c12 (Int32.toInt_inj.mp (h.trans (by decide)))
          have n13 : Int32.toInt x ≠ 13 := fun h => c13 (Int32.toInt_inj.mp (h.trans (by decide)))
          refine Rn.tableOut (tgt := 95) dX11_countSway_1 (by omega) (by decide) ?_
          rw [if_neg c10, if_neg c11, if_neg c12, if_neg c13] at hQ
          refine Rn.iconstv (v := -1) dX11_countSway_95 ic_m1 ?_
          exact Rn.iret (ty := .int) dX11_countSway_96 rfl rfl hQ
theorem tX11_count {G : Gx} {l : Launch} {ly : Ly} {M : Mm} {pl n nw nu nv : Nat} {x : Int32} (hXS : XS ly M pl n nw nu nv) {Q : Qt} (hQ : Q (some (.int (cntF M pl n x))) ly M) : Mt G l mX11_count (4, 0, 0, false) [.ref 0, .int x] ly M Q := by
  have hXS0 := hXS
  obtain ⟨hX, hpl, hp7, ⟨n0, n1, n2, n3⟩, ⟨hn, hn2, hn12⟩, ⟨hw1, hw2, hw6⟩, ⟨hu1, hu2, hv1, hv2⟩, hgl, hbb⟩ := hXS
  refine Mt.of (lv := [some (.ref 0), some (.int x)]) rfl ?_
  refine Rn.iload_n dX11_count_0 rfl ?_
  by_cases c0 : x = 0
  · skip
    rw [c0]
    refine Rn.tableIn (off := 55) (tgt := 56) dX11_count_1 (by decide) (by decide) (by decide) (by decide) ?_
    unfold cntF at hQ
    rw [if_pos c0] at hQ
    refine Rn.aload_n dX11_count_56 rfl ?_
    refine Rn.getR dX11_count_57 fX11_27 rfl (xc0 hX) (show M.2.2 0 3 = some pl from hpl) ?_
    refine Rn.getI dX11_count_60 fX11_209 rfl (pc0 hX hp7) ?_
    exact Rn.iret (ty := .int) dX11_count_63 rfl rfl hQ
  · skip
    by_cases c1 : x = 1
    · skip
      rw [c1]
      refine Rn.tableIn (off := 63) (tgt := 64) dX11_count_1 (by decide) (by decide) (by decide) (by decide) ?_
      unfold cntF at hQ
      rw [if_neg c0, if_pos c1] at hQ
      refine Rn.aload_n dX11_count_64 rfl ?_
      refine Rn.getR dX11_count_65 fX11_27 rfl (xc0 hX) (show M.2.2 0 3 = some pl from hpl) ?_
      refine Rn.getR dX11_count_68 fX11_212 rfl (pc0 hX hp7) (show M.2.2 pl 9 = some (pl + 1) from (pp0_9 hX hp7)) ?_
      refine Rn.iconstv (v := 0) dX11_count_71 ic_0 ?_
      refine Rn.iald dX11_count_72 (pc1 hX hp7) (by unfold vp_in; decide) ?_
      refine Rn.topI (y := M.1 (pl + 1) 0) (rfl) ?_
      exact Rn.iret (ty := .int) dX11_count_73 rfl rfl hQ
    · skip
      by_cases c2 : x = 2
      · skip
        rw [c2]
        refine Rn.tableIn (off := 73) (tgt := 74) dX11_count_1 (by decide) (by decide) (by decide) (by decide) ?_
        unfold cntF at hQ
        rw [if_neg c0, if_neg c1, if_pos c2] at hQ
        refine Rn.aload_n dX11_count_74 rfl ?_
        refine Rn.getR dX11_count_75 fX11_39 rfl (xc0 hX) (show M.2.2 0 5 = some 75 from (xp0_5 hX)) ?_
        refine Rn.getR dX11_count_78 fX11_215 rfl (xc75 hX) (show M.2.2 75 11 = some 87 from (xp75_11 hX)) ?_
        refine Rn.getI dX11_count_81 fX11_219 rfl (xc87 hX) ?_
        exact Rn.iret (ty := .int) dX11_count_84 rfl rfl hQ
      · skip
        by_cases c3 : x = 3
        · skip
          rw [c3]
          refine Rn.tableIn (off := 84) (tgt := 85) dX11_count_1 (by decide) (by decide) (by decide) (by decide) ?_
          unfold cntF at hQ
          rw [if_neg c0, if_neg c1, if_neg c2, if_pos c3] at hQ
          refine Rn.aload_n dX11_count_85 rfl ?_
          refine Rn.getR dX11_count_86 fX11_27 rfl (xc0 hX) (show M.2.2 0 3 = some pl from hpl) ?_
          refine Rn.getR dX11_count_89 fX11_212 rfl (pc0 hX hp7) (show M.2.2 pl 9 = some (pl + 1) from (pp0_9 hX hp7)) ?_
          refine Rn.iconstv (v := 2) dX11_count_92 ic_2 ?_
          refine Rn.iald dX11_count_93 (pc1 hX hp7) (by unfold vp_in; decide) ?_
          refine Rn.topI (y := M.1 (pl + 1) 2) (rfl) ?_
          exact Rn.iret (ty := .int) dX11_count_94 rfl rfl hQ
        · skip
          by_cases c4 : x = 4
          · skip
            rw [c4]
            refine Rn.tableIn (off := 94) (tgt := 95) dX11_count_1 (by decide) (by decide) (by decide) (by decide) ?_
            unfold cntF at hQ
            rw [if_neg c0, if_neg c1, if_neg c2, if_neg c3, if_pos c4] at hQ
            refine Rn.aload_n dX11_count_95 rfl ?_
            refine Rn.getR dX11_count_96 fX11_27 rfl (xc0 hX) (show M.2.2 0 3 = some pl from hpl) ?_
            refine Rn.getR dX11_count_99 fX11_212 rfl (pc0 hX hp7) (show M.2.2 pl 9 = some (pl + 1) from (pp0_9 hX hp7)) ?_
            refine Rn.iconstv (v := 3) dX11_count_102 ic_3 ?_
            refine Rn.iald dX11_count_103 (pc1 hX hp7) (by unfold vp_in; decide) ?_
            refine Rn.topI (y := M.1 (pl + 1) 3) (rfl) ?_
            exact Rn.iret (ty := .int) dX11_count_104 rfl rfl hQ
          · skip
            by_cases c5 : x = 5
            · skip
              rw [c5]
              refine Rn.tableIn (off := 104) (tgt := 105) dX11_count_1 (by decide) (by decide) (by decide) (by decide) ?_
              unfold cntF at hQ
              rw [if_neg c0, if_neg c1, if_neg c2, if_neg c3, if_neg c4, if_pos c5] at hQ
              refine Rn.aload_n dX11_count_105 rfl ?_
              refine Rn.getR dX11_count_106 fX11_27 rfl (xc0 hX) (show M.2.2 0 3 = some pl from hpl) ?_
              refine Rn.getI dX11_count_109 fX11_224 rfl (pc0 hX hp7) ?_
              exact Rn.iret (ty := .int) dX11_count_112 rfl rfl hQ
            · skip
              by_cases c6 : x = 6
              · skip
                rw [c6]
                refine Rn.tableIn (off := 112) (tgt := 113) dX11_count_1 (by decide) (by decide) (by decide) (by decide) ?_
                unfold cntF at hQ
                rw [if_neg c0, if_neg c1, if_neg c2, if_neg c3, if_neg c4, if_neg c5, if_pos c6] at hQ
                refine Rn.aload_n dX11_count_113 rfl ?_
                refine Rn.getR dX11_count_114 fX11_39 rfl (xc0 hX) (show M.2.2 0 5 = some 75 from (xp0_5 hX)) ?_
                refine Rn.getI dX11_count_117 fX11_227 rfl (xc75 hX) ?_
                exact Rn.iret (ty := .int) dX11_count_120 rfl rfl hQ
              · skip
                by_cases c7 : x = 7
                · skip
                  rw [c7]
                  refine Rn.tableIn (off := 120) (tgt := 121) dX11_count_1 (by decide) (by decide) (by decide) (by decide) ?_
                  unfold cntF at hQ
                  rw [if_neg c0, if_neg c1, if_neg c2, if_neg c3, if_neg c4, if_neg c5, if_neg c6, if_pos c7] at hQ
                  refine Rn.aload_n dX11_count_121 rfl ?_
                  refine Rn.getR dX11_count_122 fX11_59 rfl (xc0 hX) (show M.2.2 0 11 = some 128 from (xp0_11 hX)) ?_
                  refine Rn.getI dX11_count_125 fX11_230 rfl (xc128 hX) ?_
                  exact Rn.iret (ty := .int) dX11_count_128 rfl rfl hQ
                · skip
                  by_cases c8 : x = 8
                  · skip
                    rw [c8]
                    refine Rn.tableIn (off := 128) (tgt := 129) dX11_count_1 (by decide) (by decide) (by decide) (by decide) ?_
                    unfold cntF at hQ
                    rw [if_neg c0, if_neg c1, if_neg c2, if_neg c3, if_neg c4, if_neg c5, if_neg c6, if_neg c7, if_pos c8] at hQ
                    refine Rn.aload_n dX11_count_129 rfl ?_
                    refine Rn.getR dX11_count_130 fX11_59 rfl (xc0 hX) (show M.2.2 0 11 = some 128 from (xp0_11 hX)) ?_
                    refine Rn.callV0 dX11_count_133 vX11_231 (xc128 hX) (by decide) rfl (tX4_knownSize (a := 128) (xGroans hX)) (by decide) ⟨(Nat.le_of_ble_eq_true rfl), (Nat.le_of_ble_eq_true rfl), (Nat.le_of_ble_eq_true rfl)⟩ (fun h => by cases h) (fun v1 ly1 M1 ⟨q1, q2, q3⟩ => ?_)
                    rw [q1, q2, q3]
                    exact Rn.iret (ty := .int) dX11_count_136 rfl rfl hQ
                  · skip
                    by_cases c9 : x = 9
                    · skip
                      rw [c9]
                      refine Rn.tableIn (off := 136) (tgt := 137) dX11_count_1 (by decide) (by decide) (by decide) (by decide) ?_
                      unfold cntF at hQ
                      rw [if_neg c0, if_neg c1, if_neg c2, if_neg c3, if_neg c4, if_neg c5, if_neg c6, if_neg c7, if_neg c8, if_pos c9] at hQ
                      refine Rn.aload_n dX11_count_137 rfl ?_
                      refine Rn.getR dX11_count_138 fX11_66 rfl (xc0 hX) (show M.2.2 0 12 = some 134 from (xp0_12 hX)) ?_
                      refine Rn.getI dX11_count_141 fX11_235 rfl (xc134 hX) ?_
                      exact Rn.iret (ty := .int) dX11_count_144 rfl rfl hQ
                    · skip
                      have n0 : Int32.toInt x ≠ 0 := fun h => c0 (Int32.toInt_inj.mp (h.trans (by decide)))
                      have n1 : Int32.toInt x ≠ 1 := fun h => c1 (Int32.toInt_inj.mp (h.trans (by decide)))
                      have n2 : Int32.toInt x ≠ 2 := fun h => c2 (Int32.toInt_inj.mp (h.trans (by decide)))
                      have n3 : Int32.toInt x ≠ 3 := fun h => c3 (Int32.toInt_inj.mp (h.trans (by decide)))
                      have n4 : Int32.toInt x ≠ 4 := fun h => c4 (Int32.toInt_inj.mp (h.trans (by decide)))
                      have n5 : Int32.toInt x ≠ 5 := fun h => c5 (Int32.toInt_inj.mp (h.trans (by decide)))
                      have n6 : Int32.toInt x ≠ 6 := fun h => c6 (Int32.toInt_inj.mp (h.trans (by decide)))
                      have n7 : Int32.toInt x ≠ 7 := fun h => c7 (Int32.toInt_inj.mp (h.trans (by decide)))
                      have n8 : Int32.toInt x ≠ 8 := fun h => c8 (Int32.toInt_inj.mp (h.trans (by decide)))
                      have n9 : Int32.toInt x ≠ 9 := fun h => c9 (Int32.toInt_inj.mp (h.trans (by decide)))
                      refine Rn.tableOut (tgt := 145) dX11_count_1 (by omega) (by decide) ?_
                      refine Rn.aload_n dX11_count_145 rfl ?_
                      refine Rn.iload_n dX11_count_146 rfl ?_
                      refine Rn.callV1 dX11_count_147 vX11_236 (xc0 hX) (by decide) rfl (tX11_countSway (Q := fun v0 ly0 M0 => ∃ y, v0 = some (.int y) ∧ Q (some (.int y)) ly0 M0) ⟨c0, c1, c2, c3, c4, c5, c6, c7, c8, c9⟩ hXS0 ⟨_, rfl, hQ⟩) (by decide) ⟨(Nat.le_of_ble_eq_true rfl), (Nat.le_of_ble_eq_true rfl), (Nat.le_of_ble_eq_true rfl)⟩ (fun h => by cases h) (fun v1 ly1 M1 ⟨y, q1, hq⟩ => ?_)
                      rw [q1]
                      exact Rn.iret (ty := .int) dX11_count_150 rfl rfl hq
theorem tX11_began {G : Gx} {l : Launch} {ly : Ly} {M : Mm} {pl n nw nu nv nf : Nat} {ng m L : Nat} (hg : gOk M ng m L) (hXS : XS ly M pl n nw nu nv) (hF : M.1 87 0 = nI nf ∧ nf ≤ 8 ∧ ∀ i, i < nf → vp_in (M.1 88 i) 12) {Q : Qt} (hQ : ∀ M' : Mm, quX M M' → Q (some (.int (pcL (bgS (fun i => soB (TG M.1 pl n nw (fun k => M.1 (pl + 7 + k)) (pl + 18) nu (pl + 21) nv (M.1 75 4) 0 1 (M.1 90)) (zsc (M.1 75 15) (lvO (nI i) (fun _ => 0) 6)) (kbX M m) (M.1 129) (M.1 130) (M.1 131) (M.1 132) ng L) (2 ^ nw))))) ly M') : Mt G l mX11_began (8, 0, 0, false) [.ref 0] ly M Q := by
  have hXS0 := hXS
  obtain ⟨hX, hpl, hp7, ⟨n0, n1, n2, n3⟩, ⟨hn, hn2, hn12⟩, ⟨hw1, hw2, hw6⟩, ⟨hu1, hu2, hv1, hv2⟩, hgl, hbb⟩ := hXS
  refine Mt.of (lv := [some (.ref 0)]) rfl ?_
  refine Rn.aload_n dX11_began_0 rfl ?_
  refine Rn.callV0 dX11_began_1 vX11_365 (xc0 hX) (by decide) rfl (tX11_beginners (Q := fun v0 ly0 M0 => v0 = some (.long (bgS (fun i => soB (TG M.1 pl n nw (fun k => M.1 (pl + 7 + k)) (pl + 18) nu (pl + 21) nv (M.1 75 4) 0 1 (M.1 90)) (zsc (M.1 75 15) (lvO (nI i) (fun _ => 0) 6)) (kbX M m) (M.1 129) (M.1 130) (M.1 131) (M.1 132) ng L) (2 ^ nw))) ∧ ly0 = ly ∧ quX M M0) hg hXS0 hF (fun K h => ⟨rfl, rfl, h⟩)) (by decide) ⟨(Nat.le_of_ble_eq_true rfl), (Nat.le_of_ble_eq_true rfl), (Nat.le_of_ble_eq_true rfl)⟩ (fun h => by cases h) (fun v1 ly1 N1 ⟨q1, q2, hq1⟩ => ?_)
  rw [q1, q2]
  refine Rn.callS1 dX11_began_4 vX11_369 (tJ13_bitCount) (by decide) ⟨(Nat.le_of_ble_eq_true rfl), (Nat.le_of_ble_eq_true rfl), (Nat.le_of_ble_eq_true rfl)⟩ (fun h => by cases h) (fun v1 ly1 M1 ⟨q1, q2, q3⟩ => ?_)
  rw [q1, q2, q3]
  exact Rn.iret (ty := .int) dX11_began_7 rfl rfl (hQ N1 hq1)
