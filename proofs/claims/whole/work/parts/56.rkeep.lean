/-- one more is fat on the bridge 3 -/
theorem Rf.gw {M N : Mm} {nw t nf : Nat} {x y : Int32} {s : Sc} {fc fk : Nat → Int32} (h : Rf M N nw t nf s fc fk) (hnf : nf < 12) : Rf M (sI (sI (sI N 181 (upd (N.1 181) (12 * 3 + nf) x)) 182 (upd (N.1 182) (12 * 3 + nf) y)) 180 (upd (N.1 180) 3 (nI (nf + 1)))) nw t (nf + 1) s (upd fc nf x) (upd fk nf y) := by
  obtain ⟨h1, h2, h3, ⟨f1, f2, f3, f4⟩, h5⟩ := h
  refine ⟨h1.tr ⟨rfl, fun a a1 a2 a3 a4 => (sI_ne (by omega)).trans ((sI_ne (by omega)).trans (sI_ne (by omega))), fun j a1 a2 a3 a4 a5 => rfl, fun a ha j a1 a2 => ?_, fun a ha j hj => ?_, fun a ha j hj => congrFun ((sI_ne (by omega)).trans ((sI_ne (by omega)).trans (sI_ne (by omega)))) j⟩, h2, h3, ⟨rfl, by omega, fun j hj => ?_, fun j hj => ?_⟩, h5⟩
  · by_cases e : a = 180
    · subst e; exact pk_un a2
    · exact congrFun ((sI_ne (by omega)).trans ((sI_ne (by omega)).trans (sI_ne (by omega)))) j
  · by_cases e : a = 181
    · subst e; exact pk_un (by omega)
    · by_cases e2 : a = 182
      · subst e2; exact pk_un (by omega)
      · exact congrFun ((sI_ne (by omega)).trans ((sI_ne (by omega)).trans (sI_ne (by omega)))) j
  · show upd (N.1 181) (12 * 3 + nf) x (12 * 3 + j) = upd fc nf x j
    by_cases e : j = nf
    · subst e; rw [pk_us, pk_us]
    · rw [pk_un (by omega), pk_un e]; exact f3 j (by omega)
  · show upd (N.1 182) (12 * 3 + nf) y (12 * 3 + j) = upd fk nf y j
    by_cases e : j = nf
    · subst e; rw [pk_us, pk_us]
    · rw [pk_un (by omega), pk_un e]; exact f4 j (by omega)
theorem pmG_le {T : Sc → Sc} {c : Nat} {F : Int32} {s : Sc} {n N : Nat} (hT : ∀ s, gr (T s).1 n ≤ 100000) (hN : 1 ≤ N) : ∀ k : Nat, pmG T c F s n N k ≤ 100000
  | 0 => show (-1 : Int32) ≤ 100000 by decide
  | k + 1 => by
    show (if gr (pmI T c (nI k) F s N).1 n ≤ pmG T c F s n N k then pmG T c F s n N k else gr (pmI T c (nI k) F s N).1 n) ≤ 100000
    split
    · exact pmG_le hT hN k
    · obtain ⟨m, rfl⟩ : ∃ m, N = m + 1 := ⟨N - 1, by omega⟩
      exact hT _
theorem kpS_1 {H : Nat → Int32} (h : H 0 ≤ 100000) : kpS H 1 = (nI 0, H 0) := if_neg (fun h2 => absurd (show (2147483647 : Int32) ≤ 100000 from Int32.le_trans h2 h) (by decide))
theorem kpS_pos {H : Nat → Int32} (h : H 0 ≤ 100000) : ∀ k : Nat, 1 ≤ k → ∃ j : Nat, j < k ∧ (kpS H k).1 = nI j
  | 0, h1 => absurd h1 (by omega)
  | 1, _ => ⟨0, by omega, by rw [kpS_1 h]⟩
  | k + 2, _ => by
    obtain ⟨j, h1, h2⟩ := kpS_pos h (k + 1) (by omega)
    show ∃ j : Nat, j < k + 2 ∧ (if (kpS H (k + 1)).2 ≤ H (k + 1) then kpS H (k + 1) else (nI (k + 1), H (k + 1))).1 = nI j
    split
    · exact ⟨j, by omega, h2⟩
    · exact ⟨k + 1, by omega, rfl⟩
theorem tX12_keeper {G : Gx} {l : Launch} {ly : Ly} {M : Mm} {x F z y v : Int32} {cak : Nat → Nat → Int32} {n nw t nf : Nat} {p : P4} {h0 c0 : Int32} {W : Wx} {lw : Nat → (Nat → Int32) × Nat} {s : Sc} {fc fk ca : Nat → Int32} (hS : RS M n nw t nf p h0 c0 W lw s fc fk) (hca : cas n nf c0 fc fk ca) (hn1 : 1 ≤ n) (hnf8 : nf ≤ 8) (hcak : ∀ q, q < n → nf < 8 → cas n (nf + 1) c0 (upd fc nf (nI q)) (upd fk nf y) (cak q)) (hR : RW ly M.2.2) {Q : Qt} (hQ : (¬ ((∃ j : Nat, j < n ∧ x = nI j) ∧ (1 ≤ F ∧ F ≤ 99) ∧ (1 ≤ z ∧ z ≤ 5) ∧ (1 ≤ y ∧ y ≤ 99) ∧ (0 ≤ v ∧ v ≤ 1) ∧ nf < 8) → ∀ K, qR M K → Q (some (.int (-1))) ly K) ∧ (∀ c N : Nat, c < n → x = nI c → (1 ≤ F ∧ F ≤ 99) → 1 ≤ N → N ≤ 5 → z = nI N → (1 ≤ y ∧ y ≤ 99) → (0 ≤ v ∧ v ≤ 1) → nf < 8 → ∀ K, qR M K → Q (some (.int (if v = 0 then (kpS (fun q => pmG (TR n nw p h0 0 (cak q) W (fun m => valL m (lw 0).1 (lw 0).2) (fun m => valL m (lw 1).1 (lw 1).2)) c F s n N (2 ^ N)) n).1 else (kpS (fun q => pmG (TR n nw p h0 0 (cak q) W (fun m => valL m (lw 0).1 (lw 0).2) (fun m => valL m (lw 1).1 (lw 1).2)) c F s n N (2 ^ N)) n).2))) ly K)) : Mt G l mX12_keeper (9, 0, 0, false) [.ref 149, .int x, .int F, .int z, .int y, .int v] ly M Q := by
  refine Mt.of (lv := [some (.ref 149), some (.int x), some (.int F), some (.int z), some (.int y), some (.int v), none, none, none]) rfl ?_
  refine Rn.aload_n dX12_keeper_0 rfl ?_
  refine Rn.iconstv (v := 0) dX12_keeper_1 ic_0 ?_
  refine Rn.putI dX12_keeper_2 fX12_169 rfl rfl rfl (rc149 hR) ?_
  refine Rn.aload_n dX12_keeper_5 rfl ?_
  refine Rn.iload_n dX12_keeper_6 rfl ?_
  refine Rn.callV1 dX12_keeper_7 vX12_403 (rc149 hR) (by decide) rfl (tX12_isCell (M := sI M 149 (upd (M.1 149) 0 0)) hR) (by decide) ⟨(Nat.le_of_ble_eq_true rfl), (Nat.le_of_ble_eq_true rfl), (Nat.le_of_ble_eq_true rfl)⟩ (fun h => by cases h) (fun v1 ly1 M1 ⟨q1, q2, q3⟩ => ?_)
  rw [q1, q2, q3]
  refine Rn.topI (y := inN x (nI n)) (congrArg (inN x) hS.n.1) ?_
  refine Rn.if_eq dX12_keeper_10 (fun g1 => ?_) (fun g1 => ?_)
  · skip
    refine Rn.iconstv (v := -1) dX12_keeper_58 ic_m1 ?_
    exact Rn.iret (ty := .int) dX12_keeper_59 rfl rfl (hQ.1 (fun h => (inN_1 (x := x) (k := n) (lt31c hS.n.2)).elim (fun k => k.2 h.1) (fun k => absurd (k.1.symm.trans g1) (by decide))) _ qR.rf.f0)
  · skip
    obtain ⟨c, hc, rfl⟩ : ∃ j : Nat, j < n ∧ x = nI j := (inN_1 (x := x) (k := n) (lt31c hS.n.2)).elim (fun k => absurd k.1 g1) (fun k => k.2)
    refine Rn.iload_n dX12_keeper_13 rfl ?_
    refine Rn.callS1 dX12_keeper_14 vX12_508 (tX12_isForce) (by decide) ⟨(Nat.le_of_ble_eq_true rfl), (Nat.le_of_ble_eq_true rfl), (Nat.le_of_ble_eq_true rfl)⟩ (fun h => by cases h) (fun v1 ly1 M1 ⟨q1, q2, q3⟩ => ?_)
    rw [q1, q2, q3]
    refine Rn.if_eq dX12_keeper_17 (fun g2 => ?_) (fun g2 => ?_)
    · skip
      refine Rn.iconstv (v := -1) dX12_keeper_58 ic_m1 ?_
      exact Rn.iret (ty := .int) dX12_keeper_59 rfl rfl (hQ.1 (fun h => inR_1.elim (fun k => k.2 h.2.1) (fun k => absurd (k.1.symm.trans g2) (by decide))) _ qR.rf.f0)
    · skip
      have g2h : 1 ≤ F ∧ F ≤ 99 := (inR_1 (x := F) (lo := 1) (hi := 99)).elim (fun k => absurd k.1 g2) (fun k => k.2)
      refine Rn.iload_n dX12_keeper_20 rfl ?_
      refine Rn.iconstv (v := 5) dX12_keeper_21 ic_5 ?_
      refine Rn.callS2 dX12_keeper_22 vX12_480 (tX12_isLong) (by decide) ⟨(Nat.le_of_ble_eq_true rfl), (Nat.le_of_ble_eq_true rfl), (Nat.le_of_ble_eq_true rfl)⟩ (fun h => by cases h) (fun v1 ly1 M1 ⟨q1, q2, q3⟩ => ?_)
      rw [q1, q2, q3]
      refine Rn.if_eq dX12_keeper_25 (fun g3 => ?_) (fun g3 => ?_)
      · skip
        refine Rn.iconstv (v := -1) dX12_keeper_58 ic_m1 ?_
        exact Rn.iret (ty := .int) dX12_keeper_59 rfl rfl (hQ.1 (fun h => inR_1.elim (fun k => k.2 h.2.2.1) (fun k => absurd (k.1.symm.trans g3) (by decide))) _ qR.rf.f0)
      · skip
        obtain ⟨N, hN1, hN2, rfl⟩ : ∃ j : Nat, 1 ≤ j ∧ j ≤ 5 ∧ z = nI j := (inR_1 (x := z) (lo := 1) (hi := 5)).elim (fun k => absurd k.1 g3) (fun k => nat_of (b := 5) (k := 5) rfl (by decide) k.2.1 k.2.2)
        refine Rn.iload dX12_keeper_28 rfl ?_
        refine Rn.callS1 dX12_keeper_30 vX12_464 (tX12_isCalm) (by decide) ⟨(Nat.le_of_ble_eq_true rfl), (Nat.le_of_ble_eq_true rfl), (Nat.le_of_ble_eq_true rfl)⟩ (fun h => by cases h) (fun v1 ly1 M1 ⟨q1, q2, q3⟩ => ?_)
        rw [q1, q2, q3]
        refine Rn.if_eq dX12_keeper_33 (fun g4 => ?_) (fun g4 => ?_)
        · skip
          refine Rn.iconstv (v := -1) dX12_keeper_58 ic_m1 ?_
          exact Rn.iret (ty := .int) dX12_keeper_59 rfl rfl (hQ.1 (fun h => inR_1.elim (fun k => k.2 h.2.2.2.1) (fun k => absurd (k.1.symm.trans g4) (by decide))) _ qR.rf.f0)
        · skip
          have g4h : 1 ≤ y ∧ y ≤ 99 := (inR_1 (x := y) (lo := 1) (hi := 99)).elim (fun k => absurd k.1 g4) (fun k => k.2)
          refine Rn.iload dX12_keeper_36 rfl ?_
          refine Rn.if_lt dX12_keeper_38 (fun g1v => ?_) (fun g1v => ?_)
          · skip
            refine Rn.iconstv (v := -1) dX12_keeper_58 ic_m1 ?_
            exact Rn.iret (ty := .int) dX12_keeper_59 rfl rfl (hQ.1 (fun h => absurd g1v (Int32.not_lt.mpr h.2.2.2.2.1.1)) _ qR.rf.f0)
          · skip
            refine Rn.iload dX12_keeper_41 rfl ?_
            refine Rn.iconstv (v := 1) dX12_keeper_43 ic_1 ?_
            refine Rn.icmp_gt dX12_keeper_44 (fun g2v => ?_) (fun g2v => ?_)
            · skip
              refine Rn.iconstv (v := -1) dX12_keeper_58 ic_m1 ?_
              exact Rn.iret (ty := .int) dX12_keeper_59 rfl rfl (hQ.1 (fun h => absurd g2v (Int32.not_lt.mpr h.2.2.2.2.1.2)) _ qR.rf.f0)
            · skip
              refine Rn.aload_n dX12_keeper_47 rfl ?_
              refine Rn.getR dX12_keeper_48 fX12_107 rfl (rc149 hR) (show M.2.2 149 46 = some 180 from (rpt46 hR)) ?_
              refine Rn.iconstv (v := 0) dX12_keeper_51 ic_0 ?_
              refine Rn.iald dX12_keeper_52 (rc180 hR) (by unfold vp_in; decide) ?_
              refine Rn.topI (y := M.1 180 0) (rfl) ?_
              refine Rn.topI (y := nI nf) (hS.2.2.1.1) ?_
              refine Rn.bipushv (v := 8) dX12_keeper_53 bp_8 ?_
              refine Rn.icmp_ne dX12_keeper_55 (fun g8 => ?_) (fun g8 => ?_)
              · skip
                have hn8 : nf < 8 := Nat.lt_of_le_of_ne hnf8 (fun h => g8 (by rw [h]; rfl))
                have hA := hQ.2 c N hc rfl g2h hN1 hN2 rfl g4h ⟨Int32.not_lt.mp g1v, Int32.not_lt.mp g2v⟩ hn8
                clear hQ
                have hG0 : ∀ q, pmG (TR n nw p h0 0 (cak q) W (fun m => valL m (lw 0).1 (lw 0).2) (fun m => valL m (lw 1).1 (lw 1).2)) c F s n N (2 ^ N) ≤ 100000 := fun q => pmG_le (fun s => gr_pas) hN1 _
                refine Rn.aload_n dX12_keeper_60 rfl ?_
                refine Rn.callV0 dX12_keeper_61 vX12_447 (rc149 hR) (by decide) rfl (tX12_plain (M := sI M 149 (upd (M.1 149) 0 0)) hR) (by decide) ⟨(Nat.le_of_ble_eq_true rfl), (Nat.le_of_ble_eq_true rfl), (Nat.le_of_ble_eq_true rfl)⟩ (fun h => by cases h) (fun v1 ly1 M1 ⟨q1, q2, q3⟩ => ?_)
                rw [q1, q2, q3]
                have hm0m : md (sI (sI M 149 (upd (M.1 149) 0 0)) 149 (upd (upd (upd (upd (upd ((sI M 149 (upd (M.1 149) 0 0)).1 149) 55 (-1)) 56 0) 57 (-1)) 61 0) 62 0)) (-1) 0 := ⟨rfl, rfl, rfl, rfl⟩
                have hq0m : qR M (sI (sI M 149 (upd (M.1 149) 0 0)) 149 (upd (upd (upd (upd (upd ((sI M 149 (upd (M.1 149) 0 0)).1 149) 55 (-1)) 56 0) 57 (-1)) 61 0) 62 0)) := qR.plain ((qR.rf (M := M)).f0)
                revert hm0m hq0m
                generalize (sI (sI M 149 (upd (M.1 149) 0 0)) 149 (upd (upd (upd (upd (upd ((sI M 149 (upd (M.1 149) 0 0)).1 149) 55 (-1)) 56 0) 57 (-1)) 61 0) 62 0)) = N0
                intro hm0 hq0
                have hRN0 : RW ly N0.2.2 := by rw [hq0.1]; exact hR
                refine Rn.iconstv (v := -1) dX12_keeper_64 ic_m1 ?_
                refine Rn.istore (lv' := [some (.ref 149), some (.int (nI c)), some (.int F), some (.int (nI N)), some (.int y), some (.int v), some (.int (-1)), none, none]) dX12_keeper_65 (by decide) rfl ?_
                refine Rn.iconstv (v := 0) dX12_keeper_67 ic_0 ?_
                refine Rn.istore (lv' := [some (.ref 149), some (.int (nI c)), some (.int F), some (.int (nI N)), some (.int y), some (.int v), some (.int (-1)), some (.int 0), none]) dX12_keeper_68 (by decide) rfl ?_
                refine Rn.iconstv (v := 0) dX12_keeper_70 ic_0 ?_
                refine Rn.istore (lv' := [some (.ref 149), some (.int (nI c)), some (.int F), some (.int (nI N)), some (.int y), some (.int v), some (.int (-1)), some (.int 0), some (.int 0)]) dX12_keeper_71 (by decide) rfl ?_
                have loop : ∀ (k d : Nat) (be le : Int32) (KK : Mm), d + k = n → qR M KK → md KK (-1) 0 → ((d = 0 ∧ be = -1 ∧ le = 0) ∨ (1 ≤ d ∧ be = (kpS (fun q => pmG (TR n nw p h0 0 (cak q) W (fun m => valL m (lw 0).1 (lw 0).2) (fun m => valL m (lw 1).1 (lw 1).2)) c F s n N (2 ^ N)) d).1 ∧ le = (kpS (fun q => pmG (TR n nw p h0 0 (cak q) W (fun m => valL m (lw 0).1 (lw 0).2) (fun m => valL m (lw 1).1 (lw 1).2)) c F s n N (2 ^ N)) d).2)) → Rn G l mX12_keeper (9, 0, 0, false) 73 [some (.ref 149), some (.int (nI c)), some (.int F), some (.int (nI N)), some (.int y), some (.int v), some (.int be), some (.int le), some (.int (nI d))] [] ly KK Q := by
                  intro k
                  induction k with
                  | zero =>
                    intro d be le KK hd hq hm hbm
                    have hRKK : RW ly KK.2.2 := by rw [hq.1]; exact hR
                    have hnK : KK.1 151 0 = nI n := (hS.q hq).n.1
                    have hn12 := hS.n.2
                    refine Rn.iload dX12_keeper_73 rfl ?_
                    refine Rn.aload_n dX12_keeper_75 rfl ?_
                    refine Rn.getR dX12_keeper_76 fX12_15 rfl (rc149 hRKK) (show KK.2.2 149 3 = some 151 from (rpt3 hRKK)) ?_
                    refine Rn.iconstv (v := 0) dX12_keeper_79 ic_0 ?_
                    refine Rn.iald dX12_keeper_80 (rc151 hRKK) (by unfold vp_in; decide) ?_
                    refine Rn.topI (y := KK.1 151 0) (rfl) ?_
                    refine Rn.topI (y := nI n) (hnK) ?_
                    refine Rn.icmp_ge dX12_keeper_81 (fun hlp => ?_) (fun hlp => ?_)
                    · skip
                      obtain ⟨hb1, hb2⟩ : be = (kpS (fun q => pmG (TR n nw p h0 0 (cak q) W (fun m => valL m (lw 0).1 (lw 0).2) (fun m => valL m (lw 1).1 (lw 1).2)) c F s n N (2 ^ N)) n).1 ∧ le = (kpS (fun q => pmG (TR n nw p h0 0 (cak q) W (fun m => valL m (lw 0).1 (lw 0).2) (fun m => valL m (lw 1).1 (lw 1).2)) c F s n N (2 ^ N)) n).2 := by
                        have ed : d = n := by omega
                        rw [ed] at hbm
                        rcases hbm with ⟨h, _⟩ | ⟨_, h⟩
                        · omega
                        · exact h
                      rw [← hb1, ← hb2] at hA
                      refine Rn.iload dX12_keeper_140 rfl ?_
                      refine Rn.if_ne dX12_keeper_142 (fun hv => ?_) (fun hv => ?_)
                      · skip
                        refine Rn.iload dX12_keeper_150 rfl ?_
                        rw [if_neg hv] at hA
                        exact Rn.iret (ty := .int) dX12_keeper_152 rfl rfl (hA KK hq)
                      · skip
                        refine Rn.iload dX12_keeper_145 rfl ?_
                        refine Rn.goto dX12_keeper_147 ?_
                        rw [if_pos hv] at hA
                        exact Rn.iret (ty := .int) dX12_keeper_152 rfl rfl (hA KK hq)
                    · skip
                      exact absurd (nI_le (a := n) (b := d) (by omega) (by omega)) hlp
                  | succ k ih =>
                    intro d be le KK hd hq hm hbm
                    have hRKK : RW ly KK.2.2 := by rw [hq.1]; exact hR
                    have hnK : KK.1 151 0 = nI n := (hS.q hq).n.1
                    have hn12 := hS.n.2
                    refine Rn.iload dX12_keeper_73 rfl ?_
                    refine Rn.aload_n dX12_keeper_75 rfl ?_
                    refine Rn.getR dX12_keeper_76 fX12_15 rfl (rc149 hRKK) (show KK.2.2 149 3 = some 151 from (rpt3 hRKK)) ?_
                    refine Rn.iconstv (v := 0) dX12_keeper_79 ic_0 ?_
                    refine Rn.iald dX12_keeper_80 (rc151 hRKK) (by unfold vp_in; decide) ?_
                    refine Rn.topI (y := KK.1 151 0) (rfl) ?_
                    refine Rn.topI (y := nI n) (hnK) ?_
                    refine Rn.icmp_ge dX12_keeper_81 (fun hlp => ?_) (fun hlp => ?_)
                    · skip
                      exact absurd hlp (nI_ge (a := d) (b := n) (by omega) (by omega))
                    · skip
                      refine Rn.aload_n dX12_keeper_84 rfl ?_
                      refine Rn.iconstv (v := 3) dX12_keeper_85 ic_3 ?_
                      refine Rn.iconstv (v := 0) dX12_keeper_86 ic_0 ?_
                      refine Rn.callV2 dX12_keeper_87 vX12_461 (rc149 hRKK) (by decide) rfl (rvFrom (M := M) (N := KK) (Q := fun v0 ly0 K => v0 = none ∧ ly0 = ly ∧ Rf M K nw t nf s fc fk ∧ K.1 149 = KK.1 149) hS hq hm hRKK (fun K a c => ⟨rfl, rfl, a, c⟩)) (by decide) ⟨(Nat.le_of_ble_eq_true rfl), (Nat.le_of_ble_eq_true rfl), (Nat.le_of_ble_eq_true rfl)⟩ (fun h => by cases h) (fun v1 ly1 N1 ⟨q1, q2, hf1, e1⟩ => ?_)
                      rw [q1, q2]
                      have hRN1 : RW ly N1.2.2 := by rw [hf1.1.1]; exact hR
                      refine Rn.aload_n dX12_keeper_90 rfl ?_
                      refine Rn.iconstv (v := 3) dX12_keeper_91 ic_3 ?_
                      refine Rn.iload dX12_keeper_92 rfl ?_
                      refine Rn.iload dX12_keeper_94 rfl ?_
                      refine Rn.callV3 dX12_keeper_96 vX12_470 (rc149 hRN1) (by decide) rfl (tX12_grows (b := 3) (nf := nf) (M := N1) (x := nI d) (y := y) (by decide) hf1.2.2.2.1.1 (by omega) hRN1) (by decide) ⟨(Nat.le_of_ble_eq_true rfl), (Nat.le_of_ble_eq_true rfl), (Nat.le_of_ble_eq_true rfl)⟩ (fun h => by cases h) (fun v1 ly1 N2 ⟨q1, q2, q3⟩ => ?_)
                      rw [q1, q2]
                      have hf2 : Rf M N2 nw t (nf + 1) s (upd fc nf (nI d)) (upd fk nf y) := by rw [q3]; exact hf1.gw (by omega)
                      clear q3
                      have hRN2 : RW ly N2.2.2 := by rw [hf2.1.1]; exact hR
                      refine Rn.aload_n dX12_keeper_99 rfl ?_
                      refine Rn.iload_n dX12_keeper_100 rfl ?_
                      refine Rn.iload_n dX12_keeper_101 rfl ?_
                      refine Rn.iload_n dX12_keeper_102 rfl ?_
                      refine Rn.callV3 dX12_keeper_103 vX12_511 (rc149 hRN2) (by decide) rfl (tX12_layPump (M := M) (N0 := N2) (ca2 := cak d) (q := c) (N := N) (F := F) (Q := fun v0 ly0 K => v0 = none ∧ ly0 = ly ∧ qR M K ∧ md K (-1) 0 ∧ K.1 149 68 = pmG (TR n nw p h0 0 (cak d) W (fun m => valL m (lw 0).1 (lw 0).2) (fun m => valL m (lw 1).1 (lw 1).2)) c F s n N (2 ^ N) ∧ K.1 149 69 = pmB (TR n nw p h0 0 (cak d) W (fun m => valL m (lw 0).1 (lw 0).2) (fun m => valL m (lw 1).1 (lw 1).2)) c F s n N (N2.1 149 69) (2 ^ N)) (by omega) hc hS.2.2.2.2 hS (hcak d (by omega) hn8) hf2 rfl hR (fun K a c d e => ⟨rfl, rfl, a, c, d, e⟩)) (by decide) ⟨(Nat.le_of_ble_eq_true rfl), (Nat.le_of_ble_eq_true rfl), (Nat.le_of_ble_eq_true rfl)⟩ (fun h => by cases h) (fun v1 ly1 N3 ⟨q1, q2, hq3, hm3, hG3, hB3⟩ => ?_)
                      rw [q1, q2]
                      have hRN3 : RW ly N3.2.2 := by rw [hq3.1]; exact hR
                      obtain ⟨hi, hhi⟩ : ∃ hi : Int32, hi = pmG (TR n nw p h0 0 (cak d) W (fun m => valL m (lw 0).1 (lw 0).2) (fun m => valL m (lw 1).1 (lw 1).2)) c F s n N (2 ^ N) := ⟨_, rfl⟩
                      rw [← hhi] at hG3
                      have hnew : (kpS (fun q => pmG (TR n nw p h0 0 (cak q) W (fun m => valL m (lw 0).1 (lw 0).2) (fun m => valL m (lw 1).1 (lw 1).2)) c F s n N (2 ^ N)) (d + 1)) = if (kpS (fun q => pmG (TR n nw p h0 0 (cak q) W (fun m => valL m (lw 0).1 (lw 0).2) (fun m => valL m (lw 1).1 (lw 1).2)) c F s n N (2 ^ N)) d).2 ≤ hi then kpS (fun q => pmG (TR n nw p h0 0 (cak q) W (fun m => valL m (lw 0).1 (lw 0).2) (fun m => valL m (lw 1).1 (lw 1).2)) c F s n N (2 ^ N)) d else (nI d, hi) := by rw [hhi]; rfl
                      refine Rn.iload dX12_keeper_106 rfl ?_
                      refine Rn.iconstv (v := -1) dX12_keeper_108 ic_m1 ?_
                      refine Rn.icmp_eq dX12_keeper_109 (fun hb => ?_) (fun hb => ?_)
                      · skip
                        refine Rn.iload dX12_keeper_124 rfl ?_
                        refine Rn.istore (lv' := [some (.ref 149), some (.int (nI c)), some (.int F), some (.int (nI N)), some (.int y), some (.int v), some (.int (nI d)), some (.int le), some (.int (nI d))]) dX12_keeper_126 (by decide) rfl ?_
                        refine Rn.aload_n dX12_keeper_128 rfl ?_
                        refine Rn.getI dX12_keeper_129 fX12_502 rfl (rc149 hRN3) ?_
                        refine Rn.topI (y := hi) (hG3) ?_
                        refine Rn.istore (lv' := [some (.ref 149), some (.int (nI c)), some (.int F), some (.int (nI N)), some (.int y), some (.int v), some (.int (nI d)), some (.int hi), some (.int (nI d))]) dX12_keeper_132 (by decide) rfl ?_
                        refine Rn.iincN (lv' := [some (.ref 149), some (.int (nI c)), some (.int F), some (.int (nI N)), some (.int y), some (.int v), some (.int (nI d)), some (.int hi), some (.int (nI (d + 1)))]) dX12_keeper_134 rfl (by decide) rfl ?_
                        refine Rn.goto dX12_keeper_137 ?_
                        have hd0 : d = 0 := by
                          rcases hbm with ⟨h, _⟩ | ⟨h1, h2, _⟩
                          · exact h
                          · obtain ⟨j, j1, j2⟩ := kpS_pos (H := fun q => pmG (TR n nw p h0 0 (cak q) W (fun m => valL m (lw 0).1 (lw 0).2) (fun m => valL m (lw 1).1 (lw 1).2)) c F s n N (2 ^ N)) (hG0 0) d h1
                            rw [h2, j2] at hb
                            exact absurd (show nI j < 0 by rw [hb]; decide) (nI_pos (by omega))
                        subst hd0
                        have hk1 : kpS (fun q => pmG (TR n nw p h0 0 (cak q) W (fun m => valL m (lw 0).1 (lw 0).2) (fun m => valL m (lw 1).1 (lw 1).2)) c F s n N (2 ^ N)) (0 + 1) = (nI 0, hi) := (kpS_1 (H := fun q => pmG (TR n nw p h0 0 (cak q) W (fun m => valL m (lw 0).1 (lw 0).2) (fun m => valL m (lw 1).1 (lw 1).2)) c F s n N (2 ^ N)) (hG0 0)).trans (congrArg (fun q9 => (nI 0, q9)) hhi.symm)
                        have hk2 := congrArg Prod.fst hk1
                        have hk3 := congrArg Prod.snd hk1
                        exact ih (0 + 1) (nI 0) hi N3 (by omega) hq3 hm3 (Or.inr ⟨by omega, hk2.symm, hk3.symm⟩)
                      · skip
                        obtain ⟨h1, h2, h3⟩ : 1 ≤ d ∧ be = (kpS (fun q => pmG (TR n nw p h0 0 (cak q) W (fun m => valL m (lw 0).1 (lw 0).2) (fun m => valL m (lw 1).1 (lw 1).2)) c F s n N (2 ^ N)) d).1 ∧ le = (kpS (fun q => pmG (TR n nw p h0 0 (cak q) W (fun m => valL m (lw 0).1 (lw 0).2) (fun m => valL m (lw 1).1 (lw 1).2)) c F s n N (2 ^ N)) d).2 := by
                          rcases hbm with ⟨h, h2, _⟩ | h
                          · exact absurd h2 hb
                          · exact h
                        refine Rn.aload_n dX12_keeper_112 rfl ?_
                        refine Rn.getI dX12_keeper_113 fX12_502 rfl (rc149 hRN3) ?_
                        refine Rn.topI (y := hi) (hG3) ?_
                        refine Rn.iload dX12_keeper_116 rfl ?_
                        refine Rn.icmp_lt dX12_keeper_118 (fun hgt => ?_) (fun hgt => ?_)
                        · skip
                          refine Rn.iload dX12_keeper_124 rfl ?_
                          refine Rn.istore (lv' := [some (.ref 149), some (.int (nI c)), some (.int F), some (.int (nI N)), some (.int y), some (.int v), some (.int (nI d)), some (.int le), some (.int (nI d))]) dX12_keeper_126 (by decide) rfl ?_
                          refine Rn.aload_n dX12_keeper_128 rfl ?_
                          refine Rn.getI dX12_keeper_129 fX12_502 rfl (rc149 hRN3) ?_
                          refine Rn.topI (y := hi) (hG3) ?_
                          refine Rn.istore (lv' := [some (.ref 149), some (.int (nI c)), some (.int F), some (.int (nI N)), some (.int y), some (.int v), some (.int (nI d)), some (.int hi), some (.int (nI d))]) dX12_keeper_132 (by decide) rfl ?_
                          refine Rn.iincN (lv' := [some (.ref 149), some (.int (nI c)), some (.int F), some (.int (nI N)), some (.int y), some (.int v), some (.int (nI d)), some (.int hi), some (.int (nI (d + 1)))]) dX12_keeper_134 rfl (by decide) rfl ?_
                          refine Rn.goto dX12_keeper_137 ?_
                          exact ih (d + 1) _ _ N3 (by omega) hq3 hm3 (Or.inr ⟨by omega, by rw [hnew, if_neg (by rw [← h3]; exact Int32.not_le.mpr hgt)], by rw [hnew, if_neg (by rw [← h3]; exact Int32.not_le.mpr hgt)]⟩)
                        · skip
                          refine Rn.goto dX12_keeper_121 ?_
                          refine Rn.iincN (lv' := [some (.ref 149), some (.int (nI c)), some (.int F), some (.int (nI N)), some (.int y), some (.int v), some (.int be), some (.int le), some (.int (nI (d + 1)))]) dX12_keeper_134 rfl (by decide) rfl ?_
                          refine Rn.goto dX12_keeper_137 ?_
                          exact ih (d + 1) _ _ N3 (by omega) hq3 hm3 (Or.inr ⟨by omega, by rw [hnew, if_pos (by rw [← h3]; exact Int32.not_lt.mp hgt)]; exact h2, by rw [hnew, if_pos (by rw [← h3]; exact Int32.not_lt.mp hgt)]; exact h3⟩)
                exact loop n 0 _ _ N0 (by omega) hq0 hm0 (Or.inl ⟨rfl, rfl, rfl⟩)
              · skip
                refine Rn.iconstv (v := -1) dX12_keeper_58 ic_m1 ?_
                exact Rn.iret (ty := .int) dX12_keeper_59 rfl rfl (hQ.1 (fun h => absurd ((nI_eq (a := nf) (b := 8) (by omega) (by decide)).mp g8) (by have := h.2.2.2.2.2; omega)) _ qR.rf.f0)
