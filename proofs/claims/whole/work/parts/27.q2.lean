/-- did all sides of k times on stay within the bound? -/
def wiS (T : Sc → Sc) (s : Sc) (n : Nat) (bd : Int32) : Nat → Int32
  | 0 => 1
  | k + 1 => wiS T s n bd k &&& (if bd < gr (itF (fun _ => T) (k + 1) s).2.2.1 n then 0 else 1)
theorem wiS_01 {T : Sc → Sc} {s : Sc} {n : Nat} {bd : Int32} : ∀ k : Nat, wiS T s n bd k = 0 ∨ wiS T s n bd k = 1
  | 0 => Or.inr rfl
  | k + 1 => by
    unfold wiS
    rcases wiS_01 (T := T) (s := s) (n := n) (bd := bd) k with h | h
    · rw [h]; split
      · exact Or.inl rfl
      · exact Or.inl rfl
    · rw [h]; split
      · exact Or.inl rfl
      · exact Or.inr rfl
theorem wiS_in {T : Sc → Sc} {s : Sc} {n k : Nat} {bd : Int32} (h : ¬ bd < gr (itF (fun _ => T) (k + 1) s).2.2.1 n) : wiS T s n bd (k + 1) = wiS T s n bd k := by
  show wiS T s n bd k &&& (if bd < gr (itF (fun _ => T) (k + 1) s).2.2.1 n then 0 else 1) = _
  rw [if_neg h]
  rcases wiS_01 (T := T) (s := s) (n := n) (bd := bd) k with e | e <;> rw [e] <;> rfl
theorem wiS_out {T : Sc → Sc} {s : Sc} {n k : Nat} {bd : Int32} (h : bd < gr (itF (fun _ => T) (k + 1) s).2.2.1 n) : wiS T s n bd (k + 1) = 0 := by
  show wiS T s n bd k &&& (if bd < gr (itF (fun _ => T) (k + 1) s).2.2.1 n then 0 else 1) = _
  rw [if_pos h]
  rcases wiS_01 (T := T) (s := s) (n := n) (bd := bd) k with e | e <;> rw [e] <;> rfl
theorem nar01 {x : Int32} (h : x = 0 ∨ x = 1) : narrow .boolean (.int x) = .int x := by rcases h with rfl | rfl <;> rfl
theorem tX11_sides {G : Gx} {l : Launch} {ly : Ly} {M : Mm} {pl n nw nu nv nf N : Nat} {bd : Int32} {N0 : Mm} {s : Sc} (hN : N < 1000) (hXS : XS ly M pl n nw nu nv) (hT0 : Tr ly M N0 pl n (pl + 7) nw (fun k => M.1 (pl + 7 + k)) (pl + 18) nu (pl + 21) nv (M.1 75 4) 1 0 (M.1 90) nf (M.1 88) (M.1 89) s) {Q : Qt} (hQ : ∀ K : Mm, Tr ly M K pl n (pl + 7) nw (fun k => M.1 (pl + 7 + k)) (pl + 18) nu (pl + 21) nv (M.1 75 4) 1 0 (M.1 90) nf (M.1 88) (M.1 89) (itF (fun _ => TG M.1 pl n nw (fun k => M.1 (pl + 7 + k)) (pl + 18) nu (pl + 21) nv (M.1 75 4) 1 0 (M.1 90)) N s) → Q (some (.int (wiS (TG M.1 pl n nw (fun k => M.1 (pl + 7 + k)) (pl + 18) nu (pl + 21) nv (M.1 75 4) 1 0 (M.1 90)) s n bd N))) ly K) : Mt G l mX11_sidesStayWithin (6, 0, 0, false) [.ref 0, .int (nI N), .int bd] ly N0 Q := by
  have hXS0 := hXS
  obtain ⟨hX, hpl, hp7, ⟨n0, n1, n2, n3⟩, ⟨hn, hn2, hn12⟩, ⟨hw1, hw2, hw6⟩, ⟨hu1, hu2, hv1, hv2⟩, hgl, hbb⟩ := hXS
  refine Mt.of (lv := [some (.ref 0), some (.int (nI N)), some (.int bd), none, none]) rfl ?_
  have hXN0 := (hT0.1).xw hX
  have hplN0 : N0.2.2 0 3 = some pl := ((hT0.1).2.2 0 3 (by decide)).trans hpl
  have hnN0 : N0.1 pl 0 = nI n := (congrFun ((hT0.1).p0 hp7) 0).trans hn
  have hw1N0 : N0.1 (pl + 1) 0 = nI nw := (congrFun ((hT0.1).pk hp7 (k := 1) (by decide)) 0).trans hw1
  refine Rn.iconstv (v := 1) dX11_sidesStayWithin_0 ic_1 ?_
  refine Rn.istore_n (lv' := [some (.ref 0), some (.int (nI N)), some (.int bd), some (.int 1), none]) dX11_sidesStayWithin_1 (by decide) rfl ?_
  refine Rn.iconstv (v := 0) dX11_sidesStayWithin_2 ic_0 ?_
  refine Rn.istore (lv' := [some (.ref 0), some (.int (nI N)), some (.int bd), some (.int 1), some (.int 0)]) dX11_sidesStayWithin_3 (by decide) rfl ?_
  have loop : ∀ (k i : Nat) (N1 : Mm), i + k = N → Tr ly M N1 pl n (pl + 7) nw (fun k => M.1 (pl + 7 + k)) (pl + 18) nu (pl + 21) nv (M.1 75 4) 1 0 (M.1 90) nf (M.1 88) (M.1 89) (itF (fun _ => TG M.1 pl n nw (fun k => M.1 (pl + 7 + k)) (pl + 18) nu (pl + 21) nv (M.1 75 4) 1 0 (M.1 90)) i s) → Rn G l mX11_sidesStayWithin (6, 0, 0, false) 5 [some (.ref 0), some (.int (nI N)), some (.int bd), some (.int (wiS (TG M.1 pl n nw (fun k => M.1 (pl + 7 + k)) (pl + 18) nu (pl + 21) nv (M.1 75 4) 1 0 (M.1 90)) s n bd i)), some (.int (nI i))] [] ly N1 Q := by
    intro k
    induction k with
    | zero =>
      intro i N1 hi hT1
      refine Rn.iload dX11_sidesStayWithin_5 rfl ?_
      refine Rn.iload_n dX11_sidesStayWithin_7 rfl ?_
      refine Rn.icmp_ge dX11_sidesStayWithin_8 (fun hc => ?_) (fun hc => ?_)
      · skip
        obtain rfl : i = N := by omega
        refine Rn.iload_n dX11_sidesStayWithin_47 rfl ?_
        exact Rn.iret (ty := .boolean) dX11_sidesStayWithin_48 rfl (nar01 (wiS_01 _)) (hQ N1 hT1)
      · exact absurd (nI_le (a := N) (b := i) (by omega) (by omega)) hc
    | succ k ih =>
      intro i N1 hi hT1
      refine Rn.iload dX11_sidesStayWithin_5 rfl ?_
      refine Rn.iload_n dX11_sidesStayWithin_7 rfl ?_
      refine Rn.icmp_ge dX11_sidesStayWithin_8 (fun hc => ?_) (fun hc => ?_)
      · exact absurd hc (nI_ge (a := i) (b := N) (by omega) (by omega))
      · skip
        have hXN1 := (hT1.1).xw hX
        have hplN1 : N1.2.2 0 3 = some pl := ((hT1.1).2.2 0 3 (by decide)).trans hpl
        have hnN1 : N1.1 pl 0 = nI n := (congrFun ((hT1.1).p0 hp7) 0).trans hn
        have hw1N1 : N1.1 (pl + 1) 0 = nI nw := (congrFun ((hT1.1).pk hp7 (k := 1) (by decide)) 0).trans hw1
        refine Rn.aload_n dX11_sidesStayWithin_11 rfl ?_
        refine Rn.getR dX11_sidesStayWithin_12 fX11_43 rfl (xc0 hXN1) (show N1.2.2 0 6 = some 92 from (xp0_6 hXN1)) ?_
        refine Rn.callV0 dX11_sidesStayWithin_15 vX11_251 (xc92 hXN1) (by decide) rfl (trPass (Q := fun v0 ly0 M0 => v0 = none ∧ ly0 = ly ∧ Tr ly M M0 pl n (pl + 7) nw (fun k => M.1 (pl + 7 + k)) (pl + 18) nu (pl + 21) nv (M.1 75 4) 1 0 (M.1 90) nf (M.1 88) (M.1 89) (itF (fun _ => TG M.1 pl n nw (fun k => M.1 (pl + 7 + k)) (pl + 18) nu (pl + 21) nv (M.1 75 4) 1 0 (M.1 90)) (i + 1) s) ∧ quT N1 M0) hXS0.ok hT1 (fun K h u => ⟨rfl, rfl, h, u⟩)) (by decide) ⟨(Nat.le_of_ble_eq_true rfl), (Nat.le_of_ble_eq_true rfl), (Nat.le_of_ble_eq_true rfl)⟩ (fun h => by cases h) (fun v1 ly1 N2 ⟨q1, q2, hT2, hU2⟩ => ?_)
        rw [q1, q2]
        have hXN2 := (hT2.1).xw hX
        have hplN2 : N2.2.2 0 3 = some pl := ((hT2.1).2.2 0 3 (by decide)).trans hpl
        have hnN2 : N2.1 pl 0 = nI n := (congrFun ((hT2.1).p0 hp7) 0).trans hn
        have hw1N2 : N2.1 (pl + 1) 0 = nI nw := (congrFun ((hT2.1).pk hp7 (k := 1) (by decide)) 0).trans hw1
        refine Rn.aload_n dX11_sidesStayWithin_18 rfl ?_
        refine Rn.getR dX11_sidesStayWithin_19 fX11_43 rfl (xc0 hXN2) (show N2.2.2 0 6 = some 92 from (xp0_6 hXN2)) ?_
        refine Rn.getR dX11_sidesStayWithin_22 fX11_177 rfl (xc92 hXN2) (show N2.2.2 92 6 = some 97 from (xp92_6 hXN2)) ?_
        refine Rn.aload_n dX11_sidesStayWithin_25 rfl ?_
        refine Rn.getR dX11_sidesStayWithin_26 fX11_27 rfl (xc0 hXN2) (show N2.2.2 0 3 = some pl from hplN2) ?_
        refine Rn.getI dX11_sidesStayWithin_29 fX11_209 rfl (pc0 hXN2 hp7) ?_
        refine Rn.topI (y := nI n) (hnN2) ?_
        refine Rn.callV1 dX11_sidesStayWithin_32 vX11_245 (xc97 hXN2) (by decide) rfl (trGs hXS0.ok hT2) (by decide) ⟨(Nat.le_of_ble_eq_true rfl), (Nat.le_of_ble_eq_true rfl), (Nat.le_of_ble_eq_true rfl)⟩ (fun h => by cases h) (fun v1 ly1 M1 ⟨q1, q2, q3⟩ => ?_)
        rw [q1, q2, q3]
        refine Rn.iload_n dX11_sidesStayWithin_35 rfl ?_
        refine Rn.icmp_le dX11_sidesStayWithin_36 (fun hd => ?_) (fun hd => ?_)
        · skip
          have e : wiS (TG M.1 pl n nw (fun k => M.1 (pl + 7 + k)) (pl + 18) nu (pl + 21) nv (M.1 75 4) 1 0 (M.1 90)) s n bd (i + 1) = wiS (TG M.1 pl n nw (fun k => M.1 (pl + 7 + k)) (pl + 18) nu (pl + 21) nv (M.1 75 4) 1 0 (M.1 90)) s n bd i := wiS_in (Int32.not_lt.mpr hd)
          rw [← e]
          refine Rn.iincN (lv' := [some (.ref 0), some (.int (nI N)), some (.int bd), some (.int (wiS (TG M.1 pl n nw (fun k => M.1 (pl + 7 + k)) (pl + 18) nu (pl + 21) nv (M.1 75 4) 1 0 (M.1 90)) s n bd (i + 1))), some (.int (nI (i + 1)))]) dX11_sidesStayWithin_41 rfl (by decide) rfl ?_
          refine Rn.goto dX11_sidesStayWithin_44 ?_
          exact ih (i + 1) N2 (by omega) hT2
        · skip
          refine Rn.iconstv (v := 0) dX11_sidesStayWithin_39 ic_0 ?_
          refine Rn.topI (y := wiS (TG M.1 pl n nw (fun k => M.1 (pl + 7 + k)) (pl + 18) nu (pl + 21) nv (M.1 75 4) 1 0 (M.1 90)) s n bd (i + 1)) ((wiS_out (Int32.not_le.mp hd)).symm) ?_
          refine Rn.istore_n (lv' := [some (.ref 0), some (.int (nI N)), some (.int bd), some (.int (wiS (TG M.1 pl n nw (fun k => M.1 (pl + 7 + k)) (pl + 18) nu (pl + 21) nv (M.1 75 4) 1 0 (M.1 90)) s n bd (i + 1))), some (.int (nI i))]) dX11_sidesStayWithin_40 (by decide) rfl ?_
          refine Rn.iincN (lv' := [some (.ref 0), some (.int (nI N)), some (.int bd), some (.int (wiS (TG M.1 pl n nw (fun k => M.1 (pl + 7 + k)) (pl + 18) nu (pl + 21) nv (M.1 75 4) 1 0 (M.1 90)) s n bd (i + 1))), some (.int (nI (i + 1)))]) dX11_sidesStayWithin_41 rfl (by decide) rfl ?_
          refine Rn.goto dX11_sidesStayWithin_44 ?_
          exact ih (i + 1) N2 (by omega) hT2
  exact loop N 0 N0 (by omega) hT0
def chS (s : Sc) (x : Int32) : Sc := (s.1, s.2.1, s.2.2.1, s.2.2.2.1, s.2.2.2.2.1, s.2.2.2.2.2.1, s.2.2.2.2.2.2.1, x)
/-- ten gales: how many were held, the chance then -/
def galS (T : Sc → Sc) (s : Sc) (n N : Nat) (bd x : Int32) : Nat → Int32 × Int32
  | 0 => (0, x)
  | d + 1 => ((if wiS T (chS s (galS T s n N bd x d).2) n bd N = 0 then (galS T s n N bd x d).1 else (galS T s n N bd x d).1 + 1), (itF (fun _ => T) N (chS s (galS T s n N bd x d).2)).2.2.2.2.2.2.2)
theorem tX11_gales {G : Gx} {l : Launch} {ly : Ly} {M : Mm} {pl n nw nu nv nf : Nat} {x y z : Int32} (hXS : XS ly M pl n nw nu nv) (hF : M.1 87 0 = nI nf ∧ nf ≤ 8 ∧ ∀ i, i < nf → vp_in (M.1 88 i) 12) {Q : Qt} (hQ : (¬ (0 ≤ x ∧ (1 ≤ y ∧ y ≤ 32) ∧ (0 ≤ z ∧ z ≤ 99999)) → Q (some (.int (-1))) ly M) ∧ (∀ N : Nat, 1 ≤ N → N ≤ 32 → y = nI N → 0 ≤ x → (0 ≤ z ∧ z ≤ 99999) → ∀ M' : Mm, quX M M' → Q (some (.int (galS (TG M.1 pl n nw (fun k => M.1 (pl + 7 + k)) (pl + 18) nu (pl + 21) nv (M.1 75 4) 1 0 (M.1 90)) (vS M.1 75) n N z x 10).1)) ly M')) : Mt G l mX11_gales (8, 0, 0, false) [.ref 0, .int x, .int y, .int z] ly M Q := by
  have hXS0 := hXS
  obtain ⟨hX, hpl, hp7, ⟨n0, n1, n2, n3⟩, ⟨hn, hn2, hn12⟩, ⟨hw1, hw2, hw6⟩, ⟨hu1, hu2, hv1, hv2⟩, hgl, hbb⟩ := hXS
  refine Mt.of (lv := [some (.ref 0), some (.int x), some (.int y), some (.int z), none, none, none]) rfl ?_
  refine Rn.iload_n dX11_gales_0 rfl ?_
  refine Rn.if_lt dX11_gales_1 (fun g0 => ?_) (fun g0 => ?_)
  · skip
    refine Rn.iconstv (v := -1) dX11_gales_25 ic_m1 ?_
    exact Rn.iret (ty := .int) dX11_gales_26 rfl rfl (hQ.1 (fun h => absurd g0 (Int32.not_lt.mpr h.1)))
  · skip
    refine Rn.iload_n dX11_gales_4 rfl ?_
    refine Rn.iconstv (v := 1) dX11_gales_5 ic_1 ?_
    refine Rn.bipushv (v := 32) dX11_gales_6 bp_32 ?_
    refine Rn.callS3 dX11_gales_8 vX11_295 (tX11_isIn) (by decide) ⟨(Nat.le_of_ble_eq_true rfl), (Nat.le_of_ble_eq_true rfl), (Nat.le_of_ble_eq_true rfl)⟩ (fun h => by cases h) (fun v1 ly1 M1 ⟨q1, q2, q3⟩ => ?_)
    rw [q1, q2, q3]
    refine Rn.if_eq dX11_gales_11 (fun g1 => ?_) (fun g1 => ?_)
    · skip
      refine Rn.iconstv (v := -1) dX11_gales_25 ic_m1 ?_
      exact Rn.iret (ty := .int) dX11_gales_26 rfl rfl (hQ.1 (fun h => inR_1.elim (fun k => k.2 h.2.1) (fun k => absurd (k.1.symm.trans g1) (by decide))))
    · skip
      obtain ⟨N, hN1, hN2, rfl⟩ : ∃ j : Nat, 1 ≤ j ∧ j ≤ 32 ∧ y = nI j := (inR_1 (x := y) (lo := 1) (hi := 32)).elim (fun k => absurd k.1 g1) (fun k => nat_of (b := 32) (k := 32) rfl (by decide) k.2.1 k.2.2)
      refine Rn.iload_n dX11_gales_14 rfl ?_
      refine Rn.iconstv (v := 0) dX11_gales_15 ic_0 ?_
      refine Rn.ldcw dX11_gales_16 kX11_355 ?_
      refine Rn.callS3 dX11_gales_19 vX11_295 (tX11_isIn) (by decide) ⟨(Nat.le_of_ble_eq_true rfl), (Nat.le_of_ble_eq_true rfl), (Nat.le_of_ble_eq_true rfl)⟩ (fun h => by cases h) (fun v1 ly1 M1 ⟨q1, q2, q3⟩ => ?_)
      rw [q1, q2, q3]
      refine Rn.if_ne dX11_gales_22 (fun g2 => ?_) (fun g2 => ?_)
      · skip
        have g2h : 0 ≤ z ∧ z ≤ 99999 := (inR_1 (x := z) (lo := 0) (hi := 99999)).elim (fun k => absurd k.1 g2) (fun k => k.2)
        refine Rn.iconstv (v := 0) dX11_gales_27 ic_0 ?_
        refine Rn.istore (lv' := [some (.ref 0), some (.int x), some (.int (nI N)), some (.int z), some (.int 0), none, none]) dX11_gales_28 (by decide) rfl ?_
        refine Rn.iload_n dX11_gales_30 rfl ?_
        refine Rn.istore (lv' := [some (.ref 0), some (.int x), some (.int (nI N)), some (.int z), some (.int 0), some (.int x), none]) dX11_gales_31 (by decide) rfl ?_
        refine Rn.iconstv (v := 0) dX11_gales_33 ic_0 ?_
        refine Rn.istore (lv' := [some (.ref 0), some (.int x), some (.int (nI N)), some (.int z), some (.int 0), some (.int x), some (.int 0)]) dX11_gales_34 (by decide) rfl ?_
        have hQ2 := hQ.2 N hN1 hN2 rfl (Int32.not_lt.mp g0) g2h
        have loop : ∀ (k i : Nat) (N1 : Mm), i + k = 10 → quX M N1 → Rn G l mX11_gales (8, 0, 0, false) 36 [some (.ref 0), some (.int x), some (.int (nI N)), some (.int z), some (.int ((galS (TG M.1 pl n nw (fun k => M.1 (pl + 7 + k)) (pl + 18) nu (pl + 21) nv (M.1 75 4) 1 0 (M.1 90)) (vS M.1 75) n N z x i).1)), some (.int ((galS (TG M.1 pl n nw (fun k => M.1 (pl + 7 + k)) (pl + 18) nu (pl + 21) nv (M.1 75 4) 1 0 (M.1 90)) (vS M.1 75) n N z x i).2)), some (.int (nI i))] [] ly N1 Q := by
          intro k
          induction k with
          | zero =>
            intro i N1 hi hq1
            refine Rn.iload dX11_gales_36 rfl ?_
            refine Rn.bipushv (v := 10) dX11_gales_38 bp_10 ?_
            refine Rn.icmp_ge dX11_gales_40 (fun hc => ?_) (fun hc => ?_)
            · skip
              obtain rfl : i = 10 := by omega
              refine Rn.iload dX11_gales_92 rfl ?_
              exact Rn.iret (ty := .int) dX11_gales_94 rfl rfl (hQ2 N1 hq1)
            · exact absurd (nI_le (a := 10) (b := i) (by omega) (by omega)) hc
          | succ k ih =>
            intro i N1 hi hq1
            refine Rn.iload dX11_gales_36 rfl ?_
            refine Rn.bipushv (v := 10) dX11_gales_38 bp_10 ?_
            refine Rn.icmp_ge dX11_gales_40 (fun hc => ?_) (fun hc => ?_)
            · exact absurd hc (nI_ge (a := i) (b := 10) (by omega) (by omega))
            · skip
              have hXN1 := (hq1).xw hX
              have hplN1 : N1.2.2 0 3 = some pl := ((hq1).2.2 0 3 (by decide)).trans hpl
              have hnN1 : N1.1 pl 0 = nI n := (congrFun ((hq1).p0 hp7) 0).trans hn
              have hw1N1 : N1.1 (pl + 1) 0 = nI nw := (congrFun ((hq1).pk hp7 (k := 1) (by decide)) 0).trans hw1
              refine Rn.aload_n dX11_gales_43 rfl ?_
              refine Rn.iconstv (v := 0) dX11_gales_44 ic_0 ?_
              refine Rn.callV1 dX11_gales_45 vX11_299 (xc0 hXN1) (by decide) rfl (trNow (Q := fun v0 ly0 M0 => v0 = none ∧ ly0 = ly ∧ Tr ly M M0 pl n (pl + 7) nw (fun k => M.1 (pl + 7 + k)) (pl + 18) nu (pl + 21) nv (M.1 75 4) 0 0 (M.1 90) nf (M.1 88) (M.1 89) (vS M.1 75) ∧ quT N1 M0) (Or.inl rfl) hXS0 hF.1 hq1 (fun K h u => ⟨rfl, rfl, h, u⟩)) (by decide) ⟨(Nat.le_of_ble_eq_true rfl), (Nat.le_of_ble_eq_true rfl), (Nat.le_of_ble_eq_true rfl)⟩ (fun h => by cases h) (fun v1 ly1 N2 ⟨q1, q2, hT2, hU2⟩ => ?_)
              rw [q1, q2]
              have hXN2 := (hT2.1).xw hX
              have hplN2 : N2.2.2 0 3 = some pl := ((hT2.1).2.2 0 3 (by decide)).trans hpl
              have hnN2 : N2.1 pl 0 = nI n := (congrFun ((hT2.1).p0 hp7) 0).trans hn
              have hw1N2 : N2.1 (pl + 1) 0 = nI nw := (congrFun ((hT2.1).pk hp7 (k := 1) (by decide)) 0).trans hw1
              refine Rn.aload_n dX11_gales_48 rfl ?_
              refine Rn.getR dX11_gales_49 fX11_43 rfl (xc0 hXN2) (show N2.2.2 0 6 = some 92 from (xp0_6 hXN2)) ?_
              refine Rn.iconstv (v := 1) dX11_gales_52 ic_1 ?_
              refine Rn.putZ dX11_gales_53 fX11_242 rfl rfl rfl (by decide) (xc92 hXN2) ?_
              have hT3m : Tr ly M (sI N2 92 (upd (N2.1 92) 16 1)) pl n (pl + 7) nw (fun k => M.1 (pl + 7 + k)) (pl + 18) nu (pl + 21) nv (M.1 75 4) 1 0 (M.1 90) nf (M.1 88) (M.1 89) (vS M.1 75) := Tr.s_bl hXS0.ok hT2 1
              revert hT3m
              generalize (sI N2 92 (upd (N2.1 92) 16 1)) = N3
              intro hT3m
              have hT3 : Tr ly M N3 pl n (pl + 7) nw (fun k => M.1 (pl + 7 + k)) (pl + 18) nu (pl + 21) nv (M.1 75 4) 1 0 (M.1 90) nf (M.1 88) (M.1 89) (vS M.1 75) := hT3m
              have hXN3 := (hT3.1).xw hX
              have hplN3 : N3.2.2 0 3 = some pl := ((hT3.1).2.2 0 3 (by decide)).trans hpl
              have hnN3 : N3.1 pl 0 = nI n := (congrFun ((hT3.1).p0 hp7) 0).trans hn
              have hw1N3 : N3.1 (pl + 1) 0 = nI nw := (congrFun ((hT3.1).pk hp7 (k := 1) (by decide)) 0).trans hw1
              refine Rn.aload_n dX11_gales_56 rfl ?_
              refine Rn.getR dX11_gales_57 fX11_43 rfl (xc0 hXN3) (show N3.2.2 0 6 = some 92 from (xp0_6 hXN3)) ?_
              refine Rn.iload dX11_gales_60 rfl ?_
              refine Rn.putI dX11_gales_62 fX11_390 rfl rfl rfl (xc92 hXN3) ?_
              have hT4m : Tr ly M (sI N3 92 (upd (N3.1 92) 15 ((galS (TG M.1 pl n nw (fun k => M.1 (pl + 7 + k)) (pl + 18) nu (pl + 21) nv (M.1 75 4) 1 0 (M.1 90)) (vS M.1 75) n N z x i).2))) pl n (pl + 7) nw (fun k => M.1 (pl + 7 + k)) (pl + 18) nu (pl + 21) nv (M.1 75 4) 1 0 (M.1 90) nf (M.1 88) (M.1 89) (chS (vS M.1 75) (galS (TG M.1 pl n nw (fun k => M.1 (pl + 7 + k)) (pl + 18) nu (pl + 21) nv (M.1 75 4) 1 0 (M.1 90)) (vS M.1 75) n N z x i).2) := Tr.s_ch hXS0.ok hT3 (galS (TG M.1 pl n nw (fun k => M.1 (pl + 7 + k)) (pl + 18) nu (pl + 21) nv (M.1 75 4) 1 0 (M.1 90)) (vS M.1 75) n N z x i).2
              revert hT4m
              generalize (sI N3 92 (upd (N3.1 92) 15 ((galS (TG M.1 pl n nw (fun k => M.1 (pl + 7 + k)) (pl + 18) nu (pl + 21) nv (M.1 75 4) 1 0 (M.1 90)) (vS M.1 75) n N z x i).2))) = N4
              intro hT4m
              have hT4 : Tr ly M N4 pl n (pl + 7) nw (fun k => M.1 (pl + 7 + k)) (pl + 18) nu (pl + 21) nv (M.1 75 4) 1 0 (M.1 90) nf (M.1 88) (M.1 89) (chS (vS M.1 75) (galS (TG M.1 pl n nw (fun k => M.1 (pl + 7 + k)) (pl + 18) nu (pl + 21) nv (M.1 75 4) 1 0 (M.1 90)) (vS M.1 75) n N z x i).2) := hT4m
              have hXN4 := (hT4.1).xw hX
              have hplN4 : N4.2.2 0 3 = some pl := ((hT4.1).2.2 0 3 (by decide)).trans hpl
              have hnN4 : N4.1 pl 0 = nI n := (congrFun ((hT4.1).p0 hp7) 0).trans hn
              have hw1N4 : N4.1 (pl + 1) 0 = nI nw := (congrFun ((hT4.1).pk hp7 (k := 1) (by decide)) 0).trans hw1
              refine Rn.aload_n dX11_gales_65 rfl ?_
              refine Rn.iload_n dX11_gales_66 rfl ?_
              refine Rn.iload_n dX11_gales_67 rfl ?_
              refine Rn.callV2 dX11_gales_68 vX11_393 (xc0 hXN4) (by decide) rfl (tX11_sides (Q := fun v0 ly0 M0 => v0 = some (.int (wiS (TG M.1 pl n nw (fun k => M.1 (pl + 7 + k)) (pl + 18) nu (pl + 21) nv (M.1 75 4) 1 0 (M.1 90)) (chS (vS M.1 75) (galS (TG M.1 pl n nw (fun k => M.1 (pl + 7 + k)) (pl + 18) nu (pl + 21) nv (M.1 75 4) 1 0 (M.1 90)) (vS M.1 75) n N z x i).2) n z N)) ∧ ly0 = ly ∧ Tr ly M M0 pl n (pl + 7) nw (fun k => M.1 (pl + 7 + k)) (pl + 18) nu (pl + 21) nv (M.1 75 4) 1 0 (M.1 90) nf (M.1 88) (M.1 89) (itF (fun _ => TG M.1 pl n nw (fun k => M.1 (pl + 7 + k)) (pl + 18) nu (pl + 21) nv (M.1 75 4) 1 0 (M.1 90)) N (chS (vS M.1 75) (galS (TG M.1 pl n nw (fun k => M.1 (pl + 7 + k)) (pl + 18) nu (pl + 21) nv (M.1 75 4) 1 0 (M.1 90)) (vS M.1 75) n N z x i).2))) (by omega) hXS0 hT4 (fun K h => ⟨rfl, rfl, h⟩)) (by decide) ⟨(Nat.le_of_ble_eq_true rfl), (Nat.le_of_ble_eq_true rfl), (Nat.le_of_ble_eq_true rfl)⟩ (fun h => by cases h) (fun v1 ly1 N5 ⟨q1, q2, hT5⟩ => ?_)
              rw [q1, q2]
              have hXN5 := (hT5.1).xw hX
              have hplN5 : N5.2.2 0 3 = some pl := ((hT5.1).2.2 0 3 (by decide)).trans hpl
              have hnN5 : N5.1 pl 0 = nI n := (congrFun ((hT5.1).p0 hp7) 0).trans hn
              have hw1N5 : N5.1 (pl + 1) 0 = nI nw := (congrFun ((hT5.1).pk hp7 (k := 1) (by decide)) 0).trans hw1
              refine Rn.if_eq dX11_gales_71 (fun hd => ?_) (fun hd => ?_)
              · skip
                have e4 : (galS (TG M.1 pl n nw (fun k => M.1 (pl + 7 + k)) (pl + 18) nu (pl + 21) nv (M.1 75 4) 1 0 (M.1 90)) (vS M.1 75) n N z x (i + 1)).1 = (galS (TG M.1 pl n nw (fun k => M.1 (pl + 7 + k)) (pl + 18) nu (pl + 21) nv (M.1 75 4) 1 0 (M.1 90)) (vS M.1 75) n N z x i).1 := if_pos hd
                rw [← e4]
                refine Rn.aload_n dX11_gales_77 rfl ?_
                refine Rn.getR dX11_gales_78 fX11_43 rfl (xc0 hXN5) (show N5.2.2 0 6 = some 92 from (xp0_6 hXN5)) ?_
                refine Rn.getI dX11_gales_81 fX11_390 rfl (xc92 hXN5) ?_
                refine Rn.topI (y := (galS (TG M.1 pl n nw (fun k => M.1 (pl + 7 + k)) (pl + 18) nu (pl + 21) nv (M.1 75 4) 1 0 (M.1 90)) (vS M.1 75) n N z x (i + 1)).2) (hT5.2.2.2.2.2.2.2.2.2.2.2.2.2) ?_
                refine Rn.istore (lv' := [some (.ref 0), some (.int x), some (.int (nI N)), some (.int z), some (.int ((galS (TG M.1 pl n nw (fun k => M.1 (pl + 7 + k)) (pl + 18) nu (pl + 21) nv (M.1 75 4) 1 0 (M.1 90)) (vS M.1 75) n N z x (i + 1)).1)), some (.int ((galS (TG M.1 pl n nw (fun k => M.1 (pl + 7 + k)) (pl + 18) nu (pl + 21) nv (M.1 75 4) 1 0 (M.1 90)) (vS M.1 75) n N z x (i + 1)).2)), some (.int (nI i))]) dX11_gales_84 (by decide) rfl ?_
                refine Rn.iincN (lv' := [some (.ref 0), some (.int x), some (.int (nI N)), some (.int z), some (.int ((galS (TG M.1 pl n nw (fun k => M.1 (pl + 7 + k)) (pl + 18) nu (pl + 21) nv (M.1 75 4) 1 0 (M.1 90)) (vS M.1 75) n N z x (i + 1)).1)), some (.int ((galS (TG M.1 pl n nw (fun k => M.1 (pl + 7 + k)) (pl + 18) nu (pl + 21) nv (M.1 75 4) 1 0 (M.1 90)) (vS M.1 75) n N z x (i + 1)).2)), some (.int (nI (i + 1)))]) dX11_gales_86 rfl (by decide) rfl ?_
                refine Rn.goto dX11_gales_89 ?_
                exact ih (i + 1) N5 (by omega) hT5.1
              · skip
                refine Rn.iincv (j' := 1) (lv' := [some (.ref 0), some (.int x), some (.int (nI N)), some (.int z), some (.int ((galS (TG M.1 pl n nw (fun k => M.1 (pl + 7 + k)) (pl + 18) nu (pl + 21) nv (M.1 75 4) 1 0 (M.1 90)) (vS M.1 75) n N z x i).1 + 1)), some (.int ((galS (TG M.1 pl n nw (fun k => M.1 (pl + 7 + k)) (pl + 18) nu (pl + 21) nv (M.1 75 4) 1 0 (M.1 90)) (vS M.1 75) n N z x i).2)), some (.int (nI i))]) dX11_gales_74 rfl rfl (by decide) rfl ?_
                have e4 : (galS (TG M.1 pl n nw (fun k => M.1 (pl + 7 + k)) (pl + 18) nu (pl + 21) nv (M.1 75 4) 1 0 (M.1 90)) (vS M.1 75) n N z x (i + 1)).1 = (galS (TG M.1 pl n nw (fun k => M.1 (pl + 7 + k)) (pl + 18) nu (pl + 21) nv (M.1 75 4) 1 0 (M.1 90)) (vS M.1 75) n N z x i).1 + 1 := if_neg hd
                rw [← e4]
                refine Rn.aload_n dX11_gales_77 rfl ?_
                refine Rn.getR dX11_gales_78 fX11_43 rfl (xc0 hXN5) (show N5.2.2 0 6 = some 92 from (xp0_6 hXN5)) ?_
                refine Rn.getI dX11_gales_81 fX11_390 rfl (xc92 hXN5) ?_
                refine Rn.topI (y := (galS (TG M.1 pl n nw (fun k => M.1 (pl + 7 + k)) (pl + 18) nu (pl + 21) nv (M.1 75 4) 1 0 (M.1 90)) (vS M.1 75) n N z x (i + 1)).2) (hT5.2.2.2.2.2.2.2.2.2.2.2.2.2) ?_
                refine Rn.istore (lv' := [some (.ref 0), some (.int x), some (.int (nI N)), some (.int z), some (.int ((galS (TG M.1 pl n nw (fun k => M.1 (pl + 7 + k)) (pl + 18) nu (pl + 21) nv (M.1 75 4) 1 0 (M.1 90)) (vS M.1 75) n N z x (i + 1)).1)), some (.int ((galS (TG M.1 pl n nw (fun k => M.1 (pl + 7 + k)) (pl + 18) nu (pl + 21) nv (M.1 75 4) 1 0 (M.1 90)) (vS M.1 75) n N z x (i + 1)).2)), some (.int (nI i))]) dX11_gales_84 (by decide) rfl ?_
                refine Rn.iincN (lv' := [some (.ref 0), some (.int x), some (.int (nI N)), some (.int z), some (.int ((galS (TG M.1 pl n nw (fun k => M.1 (pl + 7 + k)) (pl + 18) nu (pl + 21) nv (M.1 75 4) 1 0 (M.1 90)) (vS M.1 75) n N z x (i + 1)).1)), some (.int ((galS (TG M.1 pl n nw (fun k => M.1 (pl + 7 + k)) (pl + 18) nu (pl + 21) nv (M.1 75 4) 1 0 (M.1 90)) (vS M.1 75) n N z x (i + 1)).2)), some (.int (nI (i + 1)))]) dX11_gales_86 rfl (by decide) rfl ?_
                refine Rn.goto dX11_gales_89 ?_
                exact ih (i + 1) N5 (by omega) hT5.1
        exact loop 10 0 M (by omega) quX.rf
      · skip
        refine Rn.iconstv (v := -1) dX11_gales_25 ic_m1 ?_
        exact Rn.iret (ty := .int) dX11_gales_26 rfl rfl (hQ.1 (fun h => inR_1.elim (fun k => k.2 h.2.2) (fun k => absurd (k.1.symm.trans g2) (by decide))))
