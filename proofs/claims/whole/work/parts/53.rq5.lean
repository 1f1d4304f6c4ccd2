theorem EVt.ofg {N : Mm} {b n nw kp : Nat} {p : P4} {h0 c0 bl x : Int32} {W : Wx} {lw : Nat → (Nat → Int32) × Nat} {ca : Nat → Int32} {sv : Lv} (h : plE N.1 n nw p h0 c0 W lw) (hm : md N x kp) (hk : kp < 5) (hbl : N.1 171 b = bl) (hcm : cmOk N.1 b n ca) (hsv : ∀ m, frc (sv m) 0 = if x = 5 then 0 else frc (valL m (lw 1).1 (lw 1).2) 0) : EVt N.1 b n nw p (htR x h0) bl ca W (fun m => valL m (lw kp).1 (lw kp).2) sv := by
  obtain ⟨h1, h2, h3, h4, h5, h6⟩ := h
  obtain ⟨m1, m2, m3, m4⟩ := hm
  obtain ⟨f0, hf0⟩ := h6 kp hk
  obtain ⟨f1, hf1⟩ := h6 1 (by omega)
  exact ⟨h1, h2, by rw [m1, h3], hbl, hcm, Or.inl ⟨m4, h5⟩, kp, _, f0, _, f1, _, _, m2, by omega, hf0, hf1, fun m => rfl, fun m => by rw [m1]; exact hsv m⟩
/-- the trial's memory, but for its time, chance, blows -/
theorem Rt.ev2 {M N K : Mm} {n nw t nf : Nat} {p : P4} {h0 c0 : Int32} {W : Wx} {lw : Nat → (Nat → Int32) × Nat} {s : Sc} {fc fk : Nat → Int32} {x bl : Int32} {kp : Nat} {fc2 fk2 ca : Nat → Int32} {s2 : Sc} {t2 nf2 : Nat} (hS : RS M n nw t nf p h0 c0 W lw s fc fk) (h : Rt M N nw t2 nf2 x kp s2 fc2 fk2) (e : ∀ a, a ≠ 170 → a ≠ 171 → K.1 a = N.1 a) (hb : K.1 171 1 = bl) (hk : kp < 5) (hx : ¬ x = 0) (hx5 : ¬ x = 5) (hx1 : ¬ x = 1) (hca : cas n nf2 c0 fc2 fk2 ca) : EVt K.1 1 n nw p h0 bl ca W (fun m => valL m (lw kp).1 (lw kp).2) (fun m => valL m (lw 1).1 (lw 1).2) := by
  obtain ⟨h1, h2, h3, h4⟩ := h
  refine EVt.of (N := K) ((hS.1.q h1).mv (fun a ha => e a (by omega) (by omega))) (h2.eq (e 149 (by decide) (by decide))) hk hx hx5 hb (ftR.cm (nf := nf2) (fc := fc2) (fk := fk2) (by unfold ftR; rw [e 180 (by decide) (by decide), e 181 (by decide) (by decide), e 182 (by decide) (by decide)]; exact h4) (by rw [e 149 (by decide) (by decide), h2.1]; exact hx1) (fun c hc => ?_))
  rw [e 151 (by decide) (by decide), (hS.1.q h1).2.2.2.1]
  exact hca c hc
theorem hgS_0 {T : Sc → Sc} {s : Sc} {n : Nat} : ∀ k : Nat, 0 ≤ hgS T s n k
  | 0 => Int32.le_refl 0
  | k + 1 => Int32.le_trans (hgS_0 k) (mx_l _ _)
theorem fbS_pos {T : Nat → Sc → Sc} {s : Sc} {n N : Nat} : ∀ k : Nat, 1 ≤ k → ∃ j : Nat, 1 ≤ j ∧ j ≤ k ∧ (fbS T s n N k).1 = nI j
  | 0, h => absurd h (by omega)
  | k + 1, _ => by
    show ∃ j : Nat, 1 ≤ j ∧ j ≤ k + 1 ∧ (if hgS (T (k + 1)) s n N ≤ (fbS T s n N k).2 then fbS T s n N k else (nI (k + 1), hgS (T (k + 1)) s n N)).1 = nI j
    by_cases h : hgS (T (k + 1)) s n N ≤ (fbS T s n N k).2
    · rw [if_pos h]
      cases k with
      | zero =>
        have h1 : hgS (T 1) s n N ≤ -1 := h
        exact absurd (Int32.le_trans (hgS_0 N) h1) (by decide)
      | succ k =>
        obtain ⟨j, a, b, c⟩ := fbS_pos (T := T) (s := s) (n := n) (N := N) (k + 1) (by omega)
        exact ⟨j, a, by omega, c⟩
    · rw [if_neg h]
      exact ⟨k + 1, by omega, Nat.le_refl _, rfl⟩
theorem fbS_1 {T : Nat → Sc → Sc} {s : Sc} {n N : Nat} : fbS T s n N 1 = (nI 1, hgS (T 1) s n N) := if_neg (fun h => absurd (show (0 : Int32) ≤ -1 from Int32.le_trans (hgS_0 N) h) (by decide))
/-- one alone, by a beat -/
def Wj (y : Int32) (b : Nat) : Wx := (fun _ => y, fun _ => nI b, fun _ => 0, fun _ => 1, fun _ => 0)
theorem tX12_gales {G : Gx} {l : Launch} {ly : Ly} {M : Mm} {x y z : Int32} {n nw t nf : Nat} {p : P4} {h0 c0 : Int32} {W : Wx} {lw : Nat → (Nat → Int32) × Nat} {s : Sc} {fc fk ca : Nat → Int32} (hS : RS M n nw t nf p h0 c0 W lw s fc fk) (hca : cas n nf c0 fc fk ca)  (hR : RW ly M.2.2) {Q : Qt} (hQ : (¬ (0 ≤ x ∧ (1 ≤ y ∧ y ≤ 32) ∧ (0 ≤ z ∧ z ≤ 99999)) → ∀ K, qR M K → Q (some (.int (-1))) ly K) ∧ (∀ N : Nat, 1 ≤ N → N ≤ 32 → y = nI N → 0 ≤ x → (0 ≤ z ∧ z ≤ 99999) → ∀ K, qR M K → Q (some (.int (galS (TR n nw p h0 1 ca W (fun m => valL m (lw 0).1 (lw 0).2) (fun m => valL m (lw 1).1 (lw 1).2)) s n N z x 10).1)) ly K)) : Mt G l mX12_gales (8, 0, 0, false) [.ref 149, .int x, .int y, .int z] ly M Q := by
  refine Mt.of (lv := [some (.ref 149), some (.int x), some (.int y), some (.int z), none, none, none, none, none]) rfl ?_
  refine Rn.aload_n dX12_gales_0 rfl ?_
  refine Rn.iconstv (v := 0) dX12_gales_1 ic_0 ?_
  refine Rn.putI dX12_gales_2 fX12_169 rfl rfl rfl (rc149 hR) ?_
  refine Rn.iload_n dX12_gales_5 rfl ?_
  refine Rn.if_lt dX12_gales_6 (fun g0 => ?_) (fun g0 => ?_)
  · skip
    refine Rn.iconstv (v := -1) dX12_gales_28 ic_m1 ?_
    exact Rn.iret (ty := .int) dX12_gales_29 rfl rfl (hQ.1 (fun h => absurd g0 (Int32.not_lt.mpr h.1)) _ qR.rf.f0)
  · skip
    refine Rn.iload_n dX12_gales_9 rfl ?_
    refine Rn.bipushv (v := 32) dX12_gales_10 bp_32 ?_
    refine Rn.callS2 dX12_gales_12 vX12_480 (tX12_isLong) (by decide) ⟨(Nat.le_of_ble_eq_true rfl), (Nat.le_of_ble_eq_true rfl), (Nat.le_of_ble_eq_true rfl)⟩ (fun h => by cases h) (fun v1 ly1 M1 ⟨q1, q2, q3⟩ => ?_)
    rw [q1, q2, q3]
    refine Rn.if_eq dX12_gales_15 (fun g1 => ?_) (fun g1 => ?_)
    · skip
      refine Rn.iconstv (v := -1) dX12_gales_28 ic_m1 ?_
      exact Rn.iret (ty := .int) dX12_gales_29 rfl rfl (hQ.1 (fun h => inR_1.elim (fun k => k.2 h.2.1) (fun k => absurd (k.1.symm.trans g1) (by decide))) _ qR.rf.f0)
    · skip
      obtain ⟨N, hN1, hN2, rfl⟩ : ∃ j : Nat, 1 ≤ j ∧ j ≤ 32 ∧ y = nI j := (inR_1 (x := y) (lo := 1) (hi := 32)).elim (fun k => absurd k.1 g1) (fun k => nat_of (b := 32) (k := 32) rfl (by decide) k.2.1 k.2.2)
      refine Rn.iload_n dX12_gales_18 rfl ?_
      refine Rn.if_lt dX12_gales_19 (fun g5 => ?_) (fun g5 => ?_)
      · skip
        refine Rn.iconstv (v := -1) dX12_gales_28 ic_m1 ?_
        exact Rn.iret (ty := .int) dX12_gales_29 rfl rfl (hQ.1 (fun h => absurd g5 (Int32.not_lt.mpr h.2.2.1)) _ qR.rf.f0)
      · skip
        refine Rn.iload_n dX12_gales_22 rfl ?_
        refine Rn.ldc dX12_gales_23 kX12_207 ?_
        refine Rn.icmp_le dX12_gales_25 (fun g6 => ?_) (fun g6 => ?_)
        · skip
          have hA := hQ.2 N hN1 hN2 rfl (Int32.not_lt.mp g0) ⟨Int32.not_lt.mp g5, g6⟩
          clear hQ
          refine Rn.aload_n dX12_gales_30 rfl ?_
          refine Rn.callV0 dX12_gales_31 vX12_447 (rc149 hR) (by decide) rfl (tX12_plain (M := sI M 149 (upd (M.1 149) 0 0)) hR) (by decide) ⟨(Nat.le_of_ble_eq_true rfl), (Nat.le_of_ble_eq_true rfl), (Nat.le_of_ble_eq_true rfl)⟩ (fun h => by cases h) (fun v1 ly1 M1 ⟨q1, q2, q3⟩ => ?_)
          rw [q1, q2, q3]
          have hm0m : md (sI (sI M 149 (upd (M.1 149) 0 0)) 149 (upd (upd (upd (upd (upd ((sI M 149 (upd (M.1 149) 0 0)).1 149) 55 (-1)) 56 0) 57 (-1)) 61 0) 62 0)) (-1) 0 := ⟨rfl, rfl, rfl, rfl⟩
          have hq0m : qR M (sI (sI M 149 (upd (M.1 149) 0 0)) 149 (upd (upd (upd (upd (upd ((sI M 149 (upd (M.1 149) 0 0)).1 149) 55 (-1)) 56 0) 57 (-1)) 61 0) 62 0)) := qR.plain ((qR.rf (M := M)).f0)
          revert hm0m hq0m
          generalize (sI (sI M 149 (upd (M.1 149) 0 0)) 149 (upd (upd (upd (upd (upd ((sI M 149 (upd (M.1 149) 0 0)).1 149) 55 (-1)) 56 0) 57 (-1)) 61 0) 62 0)) = N0
          intro hm0 hq0
          have hRN0 : RW ly N0.2.2 := by rw [hq0.1]; exact hR
          refine Rn.iload_n dX12_gales_34 rfl ?_
          refine Rn.istore (lv' := [some (.ref 149), some (.int x), some (.int (nI N)), some (.int z), some (.int x), none, none, none, none]) dX12_gales_35 (by decide) rfl ?_
          refine Rn.iconstv (v := 0) dX12_gales_37 ic_0 ?_
          refine Rn.istore (lv' := [some (.ref 149), some (.int x), some (.int (nI N)), some (.int z), some (.int x), some (.int 0), none, none, none]) dX12_gales_38 (by decide) rfl ?_
          refine Rn.iconstv (v := 0) dX12_gales_40 ic_0 ?_
          refine Rn.istore (lv' := [some (.ref 149), some (.int x), some (.int (nI N)), some (.int z), some (.int x), some (.int 0), some (.int 0), none, none]) dX12_gales_41 (by decide) rfl ?_
          have loop : ∀ (k d : Nat) (K : Mm), d + k = 10 → qR M K → md K (-1) 0 → Rn G l mX12_gales (8, 0, 0, false) 43 [some (.ref 149), some (.int x), some (.int (nI N)), some (.int z), some (.int ((galS (TR n nw p h0 1 ca W (fun m => valL m (lw 0).1 (lw 0).2) (fun m => valL m (lw 1).1 (lw 1).2)) s n N z x d).2)), some (.int ((galS (TR n nw p h0 1 ca W (fun m => valL m (lw 0).1 (lw 0).2) (fun m => valL m (lw 1).1 (lw 1).2)) s n N z x d).1)), some (.int (nI d)), none, none] [] ly K Q := by
            intro k
            induction k with
            | zero =>
              intro d K hd hq hm
              have hRK : RW ly K.2.2 := by rw [hq.1]; exact hR
              refine Rn.iload dX12_gales_43 rfl ?_
              refine Rn.bipushv (v := 10) dX12_gales_45 bp_10 ?_
              refine Rn.icmp_ge dX12_gales_47 (fun hc => ?_) (fun hc => ?_)
              · skip
                have ed : d = 10 := by omega
                subst ed
                refine Rn.iload dX12_gales_146 rfl ?_
                exact Rn.iret (ty := .int) dX12_gales_148 rfl rfl (hA K hq)
              · skip
                exact absurd (nI_le (a := 10) (b := d) (by omega) (by omega)) hc
            | succ k ih =>
              intro d K hd hq hm
              have hRK : RW ly K.2.2 := by rw [hq.1]; exact hR
              refine Rn.iload dX12_gales_43 rfl ?_
              refine Rn.bipushv (v := 10) dX12_gales_45 bp_10 ?_
              refine Rn.icmp_ge dX12_gales_47 (fun hc => ?_) (fun hc => ?_)
              · skip
                exact absurd hc (nI_ge (a := d) (b := 10) (by omega) (by omega))
              · skip
                refine Rn.aload_n dX12_gales_50 rfl ?_
                refine Rn.iconstv (v := 1) dX12_gales_51 ic_1 ?_
                refine Rn.iconstv (v := 0) dX12_gales_52 ic_0 ?_
                refine Rn.callV2 dX12_gales_53 vX12_461 (rc149 hRK) (by decide) rfl (rvNow (M := M) (N := K) (x := (-1)) (kp := 0) (Q := fun v0 ly0 K => v0 = none ∧ ly0 = ly ∧ Rt M K nw t nf (-1) 0 s fc fk ∧ K.1 171 1 = M.1 171 0) hS hq hm hRK (fun K a c => ⟨rfl, rfl, a, c⟩)) (by decide) ⟨(Nat.le_of_ble_eq_true rfl), (Nat.le_of_ble_eq_true rfl), (Nat.le_of_ble_eq_true rfl)⟩ (fun h => by cases h) (fun v1 ly1 N1 ⟨q1, q2, hT1, hb1⟩ => ?_)
                rw [q1, q2]
                have hRN1 : RW ly N1.2.2 := by rw [hT1.1.1]; exact hR
                obtain ⟨la, hla⟩ : ∃ la : Int32, la = (galS (TR n nw p h0 1 ca W (fun m => valL m (lw 0).1 (lw 0).2) (fun m => valL m (lw 1).1 (lw 1).2)) s n N z x d).2 := ⟨_, rfl⟩
                obtain ⟨ma, hma⟩ : ∃ ma : Int32, ma = (galS (TR n nw p h0 1 ca W (fun m => valL m (lw 0).1 (lw 0).2) (fun m => valL m (lw 1).1 (lw 1).2)) s n N z x d).1 := ⟨_, rfl⟩
                rw [← hla, ← hma]
                refine Rn.aload_n dX12_gales_56 rfl ?_
                refine Rn.getR dX12_gales_57 fX12_76 rfl (rc149 hRN1) (show N1.2.2 149 36 = some 170 from (rpt36 hRN1)) ?_
                refine Rn.iconstv (v := 1) dX12_gales_60 ic_1 ?_
                refine Rn.iload dX12_gales_61 rfl ?_
                refine Rn.iast dX12_gales_63 (rc170 hRN1) (by unfold vp_in; decide) ?_
                refine Rn.aload_n dX12_gales_64 rfl ?_
                refine Rn.getR dX12_gales_65 fX12_79 rfl (rc149 hRN1) (show N1.2.2 149 37 = some 171 from (rpt37 hRN1)) ?_
                refine Rn.iconstv (v := 1) dX12_gales_68 ic_1 ?_
                refine Rn.iconstv (v := 1) dX12_gales_69 ic_1 ?_
                refine Rn.zast dX12_gales_70 (rc171 hRN1) (by unfold vp_in; decide) ?_
                refine Rn.iconstv (v := 1) dX12_gales_71 ic_1 ?_
                refine Rn.istore (lv' := [some (.ref 149), some (.int x), some (.int (nI N)), some (.int z), some (.int la), some (.int ma), some (.int (nI d)), some (.int 1), none]) dX12_gales_72 (by decide) rfl ?_
                refine Rn.iconstv (v := 0) dX12_gales_74 ic_0 ?_
                refine Rn.istore (lv' := [some (.ref 149), some (.int x), some (.int (nI N)), some (.int z), some (.int la), some (.int ma), some (.int (nI d)), some (.int 1), some (.int 0)]) dX12_gales_75 (by decide) rfl ?_
                refine Rn.meq (M2 := sI (sI N1 170 (upd (N1.1 170) 1 la)) 171 (upd (N1.1 171) 1 1)) rfl ?_
                have f1 : qR M (sI (sI N1 170 (upd (N1.1 170) 1 la)) 171 (upd (N1.1 171) 1 1)) := qR.bl (hT1.1.tr ⟨rfl, fun a a1 a2 a3 a4 => sI_ne (by omega), fun j a1 a2 a3 a4 a5 => rfl, fun a ha j a1 a2 => (by by_cases e : a = 170; (subst e; exact pk_un a1); exact congrFun (sI_ne e) j), fun a ha j hj => congrFun (sI_ne (by omega)) j, fun a ha j hj => congrFun (sI_ne (by omega)) j⟩)
                have f2 : md (sI (sI N1 170 (upd (N1.1 170) 1 la)) 171 (upd (N1.1 171) 1 1)) (-1) 0 := hT1.2.1.eq rfl
                have f3 : EVt (sI (sI N1 170 (upd (N1.1 170) 1 la)) 171 (upd (N1.1 171) 1 1)).1 1 n nw p h0 1 ca W (fun m => valL m (lw 0).1 (lw 0).2) (fun m => valL m (lw 1).1 (lw 1).2) := hT1.ev2 hS (fun a a1 a2 => (sI_ne a2).trans (sI_ne a1)) rfl (by decide) (by decide) (by decide) (by decide) hca
                have f4 : rAl (sI (sI N1 170 (upd (N1.1 170) 1 la)) 171 (upd (N1.1 171) 1 1)).1 1 nw t (chS s la) := ⟨hT1.2.2.1.1, hT1.2.2.1.2.1, hT1.2.2.1.2.2.1, hT1.2.2.1.2.2.2.1, hT1.2.2.1.2.2.2.2.1, hT1.2.2.1.2.2.2.2.2.1, hT1.2.2.1.2.2.2.2.2.2.1, rfl, hT1.2.2.1.2.2.2.2.2.2.2.2⟩
                have loop2 : ∀ (k2 j : Nat) (K2 : Mm), j + k2 = N → qR M K2 → md K2 (-1) 0 → EVt K2.1 1 n nw p h0 1 ca W (fun m => valL m (lw 0).1 (lw 0).2) (fun m => valL m (lw 1).1 (lw 1).2) → rAl K2.1 1 nw (t + j) (itF (fun _ => TR n nw p h0 1 ca W (fun m => valL m (lw 0).1 (lw 0).2) (fun m => valL m (lw 1).1 (lw 1).2)) j (chS s la)) → Rn G l mX12_gales (8, 0, 0, false) 77 [some (.ref 149), some (.int x), some (.int (nI N)), some (.int z), some (.int la), some (.int ma), some (.int (nI d)), some (.int (wiS (TR n nw p h0 1 ca W (fun m => valL m (lw 0).1 (lw 0).2) (fun m => valL m (lw 1).1 (lw 1).2)) (chS s la) n z j)), some (.int (nI j))] [] ly K2 Q := by
                  intro k2
                  induction k2 with
                  | zero =>
                    intro j K2 hj hq2 hm2 hE2 hs2
                    have hRK2 : RW ly K2.2.2 := by rw [hq2.1]; exact hR
                    refine Rn.iload dX12_gales_77 rfl ?_
                    refine Rn.iload_n dX12_gales_79 rfl ?_
                    refine Rn.icmp_ge dX12_gales_80 (fun hc2 => ?_) (fun hc2 => ?_)
                    · skip
                      have ej : N = j := by omega
                      subst ej
                      refine Rn.aload_n dX12_gales_117 rfl ?_
                      refine Rn.getR dX12_gales_118 fX12_76 rfl (rc149 hRK2) (show K2.2.2 149 36 = some 170 from (rpt36 hRK2)) ?_
                      refine Rn.iconstv (v := 1) dX12_gales_121 ic_1 ?_
                      refine Rn.iald dX12_gales_122 (rc170 hRK2) (by unfold vp_in; decide) ?_
                      refine Rn.topI (y := K2.1 170 1) (rfl) ?_
                      refine Rn.topI (y := (itF (fun _ => TR n nw p h0 1 ca W (fun m => valL m (lw 0).1 (lw 0).2) (fun m => valL m (lw 1).1 (lw 1).2)) N (chS s la)).2.2.2.2.2.2.2) (hs2.2.2.2.2.2.2.2.1) ?_
                      refine Rn.istore (lv' := [some (.ref 149), some (.int x), some (.int (nI N)), some (.int z), some (.int ((itF (fun _ => TR n nw p h0 1 ca W (fun m => valL m (lw 0).1 (lw 0).2) (fun m => valL m (lw 1).1 (lw 1).2)) N (chS s la)).2.2.2.2.2.2.2)), some (.int ma), some (.int (nI d)), some (.int (wiS (TR n nw p h0 1 ca W (fun m => valL m (lw 0).1 (lw 0).2) (fun m => valL m (lw 1).1 (lw 1).2)) (chS s la) n z N)), some (.int (nI N))]) dX12_gales_123 (by decide) rfl ?_
                      refine Rn.iload dX12_gales_125 rfl ?_
                      refine Rn.iload dX12_gales_127 rfl ?_
                      refine Rn.if_eq dX12_gales_129 (fun hw => ?_) (fun hw => ?_)
                      · skip
                        refine Rn.iconstv (v := 0) dX12_gales_136 ic_0 ?_
                        refine Rn.iadd dX12_gales_137 ?_
                        refine Rn.topI (y := (galS (TR n nw p h0 1 ca W (fun m => valL m (lw 0).1 (lw 0).2) (fun m => valL m (lw 1).1 (lw 1).2)) s n N z x (d + 1)).1) (by show ma + 0 = (if wiS (TR n nw p h0 1 ca W (fun m => valL m (lw 0).1 (lw 0).2) (fun m => valL m (lw 1).1 (lw 1).2)) (chS s (galS (TR n nw p h0 1 ca W (fun m => valL m (lw 0).1 (lw 0).2) (fun m => valL m (lw 1).1 (lw 1).2)) s n N z x d).2) n z N = 0 then (galS (TR n nw p h0 1 ca W (fun m => valL m (lw 0).1 (lw 0).2) (fun m => valL m (lw 1).1 (lw 1).2)) s n N z x d).1 else (galS (TR n nw p h0 1 ca W (fun m => valL m (lw 0).1 (lw 0).2) (fun m => valL m (lw 1).1 (lw 1).2)) s n N z x d).1 + 1); rw [← hla, ← hma, if_pos hw]; exact Int32.add_zero _) ?_
                        refine Rn.istore (lv' := [some (.ref 149), some (.int x), some (.int (nI N)), some (.int z), some (.int ((itF (fun _ => TR n nw p h0 1 ca W (fun m => valL m (lw 0).1 (lw 0).2) (fun m => valL m (lw 1).1 (lw 1).2)) N (chS s la)).2.2.2.2.2.2.2)), some (.int ((galS (TR n nw p h0 1 ca W (fun m => valL m (lw 0).1 (lw 0).2) (fun m => valL m (lw 1).1 (lw 1).2)) s n N z x (d + 1)).1)), some (.int (nI d)), some (.int (wiS (TR n nw p h0 1 ca W (fun m => valL m (lw 0).1 (lw 0).2) (fun m => valL m (lw 1).1 (lw 1).2)) (chS s la) n z N)), some (.int (nI N))]) dX12_gales_138 (by decide) rfl ?_
                        refine Rn.iincN (lv' := [some (.ref 149), some (.int x), some (.int (nI N)), some (.int z), some (.int ((itF (fun _ => TR n nw p h0 1 ca W (fun m => valL m (lw 0).1 (lw 0).2) (fun m => valL m (lw 1).1 (lw 1).2)) N (chS s la)).2.2.2.2.2.2.2)), some (.int ((galS (TR n nw p h0 1 ca W (fun m => valL m (lw 0).1 (lw 0).2) (fun m => valL m (lw 1).1 (lw 1).2)) s n N z x (d + 1)).1)), some (.int (nI (d + 1))), some (.int (wiS (TR n nw p h0 1 ca W (fun m => valL m (lw 0).1 (lw 0).2) (fun m => valL m (lw 1).1 (lw 1).2)) (chS s la) n z N)), some (.int (nI N))]) dX12_gales_140 rfl (by decide) rfl ?_
                        refine Rn.goto dX12_gales_143 ?_
                        refine Rn.forget (lv' := [some (.ref 149), some (.int x), some (.int (nI N)), some (.int z), some (.int ((itF (fun _ => TR n nw p h0 1 ca W (fun m => valL m (lw 0).1 (lw 0).2) (fun m => valL m (lw 1).1 (lw 1).2)) N (chS s la)).2.2.2.2.2.2.2)), some (.int ((galS (TR n nw p h0 1 ca W (fun m => valL m (lw 0).1 (lw 0).2) (fun m => valL m (lw 1).1 (lw 1).2)) s n N z x (d + 1)).1)), some (.int (nI (d + 1))), none, none]) (⟨rfl, ⟨rfl, ⟨rfl, ⟨rfl, ⟨rfl, ⟨rfl, ⟨rfl, trivial⟩⟩⟩⟩⟩⟩⟩) ?_
                        refine Rn.lveq (lv2 := [some (.ref 149), some (.int x), some (.int (nI N)), some (.int z), some (.int ((galS (TR n nw p h0 1 ca W (fun m => valL m (lw 0).1 (lw 0).2) (fun m => valL m (lw 1).1 (lw 1).2)) s n N z x (d + 1)).2)), some (.int ((galS (TR n nw p h0 1 ca W (fun m => valL m (lw 0).1 (lw 0).2) (fun m => valL m (lw 1).1 (lw 1).2)) s n N z x (d + 1)).1)), some (.int (nI (d + 1))), none, none]) (by rw [hla]; rfl) ?_
                        exact ih (d + 1) K2 (by omega) hq2 hm2
                      · skip
                        refine Rn.iconstv (v := 1) dX12_gales_132 ic_1 ?_
                        refine Rn.goto dX12_gales_133 ?_
                        refine Rn.iadd dX12_gales_137 ?_
                        refine Rn.topI (y := (galS (TR n nw p h0 1 ca W (fun m => valL m (lw 0).1 (lw 0).2) (fun m => valL m (lw 1).1 (lw 1).2)) s n N z x (d + 1)).1) (by show ma + 1 = (if wiS (TR n nw p h0 1 ca W (fun m => valL m (lw 0).1 (lw 0).2) (fun m => valL m (lw 1).1 (lw 1).2)) (chS s (galS (TR n nw p h0 1 ca W (fun m => valL m (lw 0).1 (lw 0).2) (fun m => valL m (lw 1).1 (lw 1).2)) s n N z x d).2) n z N = 0 then (galS (TR n nw p h0 1 ca W (fun m => valL m (lw 0).1 (lw 0).2) (fun m => valL m (lw 1).1 (lw 1).2)) s n N z x d).1 else (galS (TR n nw p h0 1 ca W (fun m => valL m (lw 0).1 (lw 0).2) (fun m => valL m (lw 1).1 (lw 1).2)) s n N z x d).1 + 1); rw [← hla, ← hma, if_neg hw]) ?_
                        refine Rn.istore (lv' := [some (.ref 149), some (.int x), some (.int (nI N)), some (.int z), some (.int ((itF (fun _ => TR n nw p h0 1 ca W (fun m => valL m (lw 0).1 (lw 0).2) (fun m => valL m (lw 1).1 (lw 1).2)) N (chS s la)).2.2.2.2.2.2.2)), some (.int ((galS (TR n nw p h0 1 ca W (fun m => valL m (lw 0).1 (lw 0).2) (fun m => valL m (lw 1).1 (lw 1).2)) s n N z x (d + 1)).1)), some (.int (nI d)), some (.int (wiS (TR n nw p h0 1 ca W (fun m => valL m (lw 0).1 (lw 0).2) (fun m => valL m (lw 1).1 (lw 1).2)) (chS s la) n z N)), some (.int (nI N))]) dX12_gales_138 (by decide) rfl ?_
                        refine Rn.iincN (lv' := [some (.ref 149), some (.int x), some (.int (nI N)), some (.int z), some (.int ((itF (fun _ => TR n nw p h0 1 ca W (fun m => valL m (lw 0).1 (lw 0).2) (fun m => valL m (lw 1).1 (lw 1).2)) N (chS s la)).2.2.2.2.2.2.2)), some (.int ((galS (TR n nw p h0 1 ca W (fun m => valL m (lw 0).1 (lw 0).2) (fun m => valL m (lw 1).1 (lw 1).2)) s n N z x (d + 1)).1)), some (.int (nI (d + 1))), some (.int (wiS (TR n nw p h0 1 ca W (fun m => valL m (lw 0).1 (lw 0).2) (fun m => valL m (lw 1).1 (lw 1).2)) (chS s la) n z N)), some (.int (nI N))]) dX12_gales_140 rfl (by decide) rfl ?_
                        refine Rn.goto dX12_gales_143 ?_
                        refine Rn.forget (lv' := [some (.ref 149), some (.int x), some (.int (nI N)), some (.int z), some (.int ((itF (fun _ => TR n nw p h0 1 ca W (fun m => valL m (lw 0).1 (lw 0).2) (fun m => valL m (lw 1).1 (lw 1).2)) N (chS s la)).2.2.2.2.2.2.2)), some (.int ((galS (TR n nw p h0 1 ca W (fun m => valL m (lw 0).1 (lw 0).2) (fun m => valL m (lw 1).1 (lw 1).2)) s n N z x (d + 1)).1)), some (.int (nI (d + 1))), none, none]) (⟨rfl, ⟨rfl, ⟨rfl, ⟨rfl, ⟨rfl, ⟨rfl, ⟨rfl, trivial⟩⟩⟩⟩⟩⟩⟩) ?_
                        refine Rn.lveq (lv2 := [some (.ref 149), some (.int x), some (.int (nI N)), some (.int z), some (.int ((galS (TR n nw p h0 1 ca W (fun m => valL m (lw 0).1 (lw 0).2) (fun m => valL m (lw 1).1 (lw 1).2)) s n N z x (d + 1)).2)), some (.int ((galS (TR n nw p h0 1 ca W (fun m => valL m (lw 0).1 (lw 0).2) (fun m => valL m (lw 1).1 (lw 1).2)) s n N z x (d + 1)).1)), some (.int (nI (d + 1))), none, none]) (by rw [hla]; rfl) ?_
                        exact ih (d + 1) K2 (by omega) hq2 hm2
                    · skip
                      exact absurd (nI_le (a := N) (b := j) (by omega) (by omega)) hc2
                  | succ k2 ih2 =>
                    intro j K2 hj hq2 hm2 hE2 hs2
                    have hRK2 : RW ly K2.2.2 := by rw [hq2.1]; exact hR
                    refine Rn.iload dX12_gales_77 rfl ?_
                    refine Rn.iload_n dX12_gales_79 rfl ?_
                    refine Rn.icmp_ge dX12_gales_80 (fun hc2 => ?_) (fun hc2 => ?_)
                    · skip
                      exact absurd hc2 (nI_ge (a := j) (b := N) (by omega) (by omega))
                    · skip
                      refine Rn.aload_n dX12_gales_83 rfl ?_
                      refine Rn.iconstv (v := 1) dX12_gales_84 ic_1 ?_
                      refine Rn.callV1 dX12_gales_85 vX12_454 (rc149 hRK2) (by decide) rfl (rvPass (b := 1) (N := K2) (Q := fun v0 ly0 K3 => v0 = none ∧ ly0 = ly ∧ psF K2 K3 1 ∧ EVt K3.1 1 n nw p h0 1 ca W (fun m => valL m (lw 0).1 (lw 0).2) (fun m => valL m (lw 1).1 (lw 1).2) ∧ rAl K3.1 1 nw (t + j + 1) (itF (fun _ => TR n nw p h0 1 ca W (fun m => valL m (lw 0).1 (lw 0).2) (fun m => valL m (lw 1).1 (lw 1).2)) (j + 1) (chS s la))) (by decide) hE2 hm2.2.2.1 hs2 (by have := hS.2.2.2.2; omega) hRK2 (fun K3 a c d => ⟨rfl, rfl, a, c, d⟩)) (by decide) ⟨(Nat.le_of_ble_eq_true rfl), (Nat.le_of_ble_eq_true rfl), (Nat.le_of_ble_eq_true rfl)⟩ (fun h => by cases h) (fun v1 ly1 K3 ⟨q1, q2, hF3, hE3, hs3⟩ => ?_)
                      rw [q1, q2]
                      have hq3 := hq2.tr hF3.q
                      have hRK3 : RW ly K3.2.2 := by rw [hq3.1]; exact hR
                      refine Rn.iload dX12_gales_88 rfl ?_
                      refine Rn.aload_n dX12_gales_90 rfl ?_
                      refine Rn.iconstv (v := 1) dX12_gales_91 ic_1 ?_
                      refine Rn.aload_n dX12_gales_92 rfl ?_
                      refine Rn.getR dX12_gales_93 fX12_92 rfl (rc149 hRK3) (show K3.2.2 149 41 = some 175 from (rpt41 hRK3)) ?_
                      refine Rn.callV2 dX12_gales_96 vX12_457 (rc149 hRK3) (by decide) rfl (tX12_greatest175 (b := 1) (n := n) (M := K3) (by decide) hE3.1.1 hE3.1.2 hRK3) (by decide) ⟨(Nat.le_of_ble_eq_true rfl), (Nat.le_of_ble_eq_true rfl), (Nat.le_of_ble_eq_true rfl)⟩ (fun h => by cases h) (fun v1 ly1 M1 ⟨q1, q2, q3⟩ => ?_)
                      rw [q1, q2, q3]
                      refine Rn.topI (y := gr (itF (fun _ => TR n nw p h0 1 ca W (fun m => valL m (lw 0).1 (lw 0).2) (fun m => valL m (lw 1).1 (lw 1).2)) (j + 1) (chS s la)).2.2.1 n) (gr_E hs3.2.2.1 n hE3.1.2) ?_
                      refine Rn.iload_n dX12_gales_99 rfl ?_
                      refine Rn.icmp_gt dX12_gales_100 (fun hgt => ?_) (fun hgt => ?_)
                      · skip
                        refine Rn.iconstv (v := 0) dX12_gales_107 ic_0 ?_
                        refine Rn.iand dX12_gales_108 ?_
                        refine Rn.topI (y := wiS (TR n nw p h0 1 ca W (fun m => valL m (lw 0).1 (lw 0).2) (fun m => valL m (lw 1).1 (lw 1).2)) (chS s la) n z (j + 1)) (congrArg (fun q9 => wiS (TR n nw p h0 1 ca W (fun m => valL m (lw 0).1 (lw 0).2) (fun m => valL m (lw 1).1 (lw 1).2)) (chS s la) n z j &&& q9) (if_pos hgt).symm) ?_
                        refine Rn.istore (lv' := [some (.ref 149), some (.int x), some (.int (nI N)), some (.int z), some (.int la), some (.int ma), some (.int (nI d)), some (.int (wiS (TR n nw p h0 1 ca W (fun m => valL m (lw 0).1 (lw 0).2) (fun m => valL m (lw 1).1 (lw 1).2)) (chS s la) n z (j + 1))), some (.int (nI j))]) dX12_gales_109 (by decide) rfl ?_
                        refine Rn.iincN (lv' := [some (.ref 149), some (.int x), some (.int (nI N)), some (.int z), some (.int la), some (.int ma), some (.int (nI d)), some (.int (wiS (TR n nw p h0 1 ca W (fun m => valL m (lw 0).1 (lw 0).2) (fun m => valL m (lw 1).1 (lw 1).2)) (chS s la) n z (j + 1))), some (.int (nI (j + 1)))]) dX12_gales_111 rfl (by decide) rfl ?_
                        refine Rn.goto dX12_gales_114 ?_
                        exact ih2 (j + 1) K3 (by omega) hq3 (hm2.ps hF3) hE3 hs3
                      · skip
                        refine Rn.iconstv (v := 1) dX12_gales_103 ic_1 ?_
                        refine Rn.goto dX12_gales_104 ?_
                        refine Rn.iand dX12_gales_108 ?_
                        refine Rn.topI (y := wiS (TR n nw p h0 1 ca W (fun m => valL m (lw 0).1 (lw 0).2) (fun m => valL m (lw 1).1 (lw 1).2)) (chS s la) n z (j + 1)) (congrArg (fun q9 => wiS (TR n nw p h0 1 ca W (fun m => valL m (lw 0).1 (lw 0).2) (fun m => valL m (lw 1).1 (lw 1).2)) (chS s la) n z j &&& q9) (if_neg hgt).symm) ?_
                        refine Rn.istore (lv' := [some (.ref 149), some (.int x), some (.int (nI N)), some (.int z), some (.int la), some (.int ma), some (.int (nI d)), some (.int (wiS (TR n nw p h0 1 ca W (fun m => valL m (lw 0).1 (lw 0).2) (fun m => valL m (lw 1).1 (lw 1).2)) (chS s la) n z (j + 1))), some (.int (nI j))]) dX12_gales_109 (by decide) rfl ?_
                        refine Rn.iincN (lv' := [some (.ref 149), some (.int x), some (.int (nI N)), some (.int z), some (.int la), some (.int ma), some (.int (nI d)), some (.int (wiS (TR n nw p h0 1 ca W (fun m => valL m (lw 0).1 (lw 0).2) (fun m => valL m (lw 1).1 (lw 1).2)) (chS s la) n z (j + 1))), some (.int (nI (j + 1)))]) dX12_gales_111 rfl (by decide) rfl ?_
                        refine Rn.goto dX12_gales_114 ?_
                        exact ih2 (j + 1) K3 (by omega) hq3 (hm2.ps hF3) hE3 hs3
                exact loop2 N 0 _ (by omega) f1 f2 f3 f4
          exact loop 10 0 N0 (by omega) hq0 hm0
        · skip
          refine Rn.iconstv (v := -1) dX12_gales_28 ic_m1 ?_
          exact Rn.iret (ty := .int) dX12_gales_29 rfl rfl (hQ.1 (fun h => g6 h.2.2.2) _ qR.rf.f0)
theorem tX12_forbidden {G : Gx} {l : Launch} {ly : Ly} {M : Mm} {x y z : Int32} {n nw t nf : Nat} {p : P4} {h0 c0 : Int32} {W : Wx} {lw : Nat → (Nat → Int32) × Nat} {s : Sc} {fc fk ca : Nat → Int32} (hS : RS M n nw t nf p h0 c0 W lw s fc fk) (hca : cas n nf c0 fc fk ca)  (hR : RW ly M.2.2) {Q : Qt} (hQ : (¬ ((1 ≤ x ∧ x ≤ 64) ∧ (1 ≤ y ∧ y ≤ 30) ∧ (0 ≤ z ∧ z ≤ 1)) → ∀ K, qR M K → Q (some (.int (-1))) ly K) ∧ (∀ N : Nat, 1 ≤ N → N ≤ 64 → x = nI N → (1 ≤ y ∧ y ≤ 30) → (0 ≤ z ∧ z ≤ 1) → ∀ K, qR M K → Q (some (.int (if z = 0 then (fbS (fun b => TR n 1 p h0 0 ca (Wj y b) (fun m => valL m (lw 0).1 (lw 0).2) (fun m => valL m (lw 1).1 (lw 1).2)) (zsc 0 (fun _ => 0)) n N 9).1 else (fbS (fun b => TR n 1 p h0 0 ca (Wj y b) (fun m => valL m (lw 0).1 (lw 0).2) (fun m => valL m (lw 1).1 (lw 1).2)) (zsc 0 (fun _ => 0)) n N 9).2))) ly K)) : Mt G l mX12_forbidden (9, 0, 0, false) [.ref 149, .int x, .int y, .int z] ly M Q := by
  refine Mt.of (lv := [some (.ref 149), some (.int x), some (.int y), some (.int z), none, none, none, none]) rfl ?_
  refine Rn.aload_n dX12_forbidden_0 rfl ?_
  refine Rn.iconstv (v := 0) dX12_forbidden_1 ic_0 ?_
  refine Rn.putI dX12_forbidden_2 fX12_169 rfl rfl rfl (rc149 hR) ?_
  refine Rn.iload_n dX12_forbidden_5 rfl ?_
  refine Rn.bipushv (v := 64) dX12_forbidden_6 bp_64 ?_
  refine Rn.callS2 dX12_forbidden_8 vX12_480 (tX12_isLong) (by decide) ⟨(Nat.le_of_ble_eq_true rfl), (Nat.le_of_ble_eq_true rfl), (Nat.le_of_ble_eq_true rfl)⟩ (fun h => by cases h) (fun v1 ly1 M1 ⟨q1, q2, q3⟩ => ?_)
  rw [q1, q2, q3]
  refine Rn.if_eq dX12_forbidden_11 (fun g1 => ?_) (fun g1 => ?_)
  · skip
    refine Rn.iconstv (v := -1) dX12_forbidden_34 ic_m1 ?_
    exact Rn.iret (ty := .int) dX12_forbidden_35 rfl rfl (hQ.1 (fun h => inR_1.elim (fun k => k.2 h.1) (fun k => absurd (k.1.symm.trans g1) (by decide))) _ qR.rf.f0)
  · skip
    obtain ⟨N, hN1, hN2, rfl⟩ : ∃ j : Nat, 1 ≤ j ∧ j ≤ 64 ∧ x = nI j := (inR_1 (x := x) (lo := 1) (hi := 64)).elim (fun k => absurd k.1 g1) (fun k => nat_of (b := 64) (k := 64) rfl (by decide) k.2.1 k.2.2)
    refine Rn.iload_n dX12_forbidden_14 rfl ?_
    refine Rn.iconstv (v := 1) dX12_forbidden_15 ic_1 ?_
    refine Rn.icmp_lt dX12_forbidden_16 (fun g1y => ?_) (fun g1y => ?_)
    · skip
      refine Rn.iconstv (v := -1) dX12_forbidden_34 ic_m1 ?_
      exact Rn.iret (ty := .int) dX12_forbidden_35 rfl rfl (hQ.1 (fun h => absurd g1y (Int32.not_lt.mpr h.2.1.1)) _ qR.rf.f0)
    · skip
      refine Rn.iload_n dX12_forbidden_19 rfl ?_
      refine Rn.bipushv (v := 30) dX12_forbidden_20 bp_30 ?_
      refine Rn.icmp_gt dX12_forbidden_22 (fun g2y => ?_) (fun g2y => ?_)
      · skip
        refine Rn.iconstv (v := -1) dX12_forbidden_34 ic_m1 ?_
        exact Rn.iret (ty := .int) dX12_forbidden_35 rfl rfl (hQ.1 (fun h => absurd g2y (Int32.not_lt.mpr h.2.1.2)) _ qR.rf.f0)
      · skip
        refine Rn.iload_n dX12_forbidden_25 rfl ?_
        refine Rn.if_lt dX12_forbidden_26 (fun g1z => ?_) (fun g1z => ?_)
        · skip
          refine Rn.iconstv (v := -1) dX12_forbidden_34 ic_m1 ?_
          exact Rn.iret (ty := .int) dX12_forbidden_35 rfl rfl (hQ.1 (fun h => absurd g1z (Int32.not_lt.mpr h.2.2.1)) _ qR.rf.f0)
        · skip
          refine Rn.iload_n dX12_forbidden_29 rfl ?_
          refine Rn.iconstv (v := 1) dX12_forbidden_30 ic_1 ?_
          refine Rn.icmp_le dX12_forbidden_31 (fun g2z => ?_) (fun g2z => ?_)
          · skip
            have hA := hQ.2 N hN1 hN2 rfl ⟨Int32.not_lt.mp g1y, Int32.not_lt.mp g2y⟩ ⟨Int32.not_lt.mp g1z, g2z⟩
            clear hQ
            refine Rn.aload_n dX12_forbidden_36 rfl ?_
            refine Rn.callV0 dX12_forbidden_37 vX12_447 (rc149 hR) (by decide) rfl (tX12_plain (M := sI M 149 (upd (M.1 149) 0 0)) hR) (by decide) ⟨(Nat.le_of_ble_eq_true rfl), (Nat.le_of_ble_eq_true rfl), (Nat.le_of_ble_eq_true rfl)⟩ (fun h => by cases h) (fun v1 ly1 M1 ⟨q1, q2, q3⟩ => ?_)
            rw [q1, q2, q3]
            have hm0m : md (sI (sI M 149 (upd (M.1 149) 0 0)) 149 (upd (upd (upd (upd (upd ((sI M 149 (upd (M.1 149) 0 0)).1 149) 55 (-1)) 56 0) 57 (-1)) 61 0) 62 0)) (-1) 0 := ⟨rfl, rfl, rfl, rfl⟩
            have hq0m : qR M (sI (sI M 149 (upd (M.1 149) 0 0)) 149 (upd (upd (upd (upd (upd ((sI M 149 (upd (M.1 149) 0 0)).1 149) 55 (-1)) 56 0) 57 (-1)) 61 0) 62 0)) := qR.plain ((qR.rf (M := M)).f0)
            revert hm0m hq0m
            generalize (sI (sI M 149 (upd (M.1 149) 0 0)) 149 (upd (upd (upd (upd (upd ((sI M 149 (upd (M.1 149) 0 0)).1 149) 55 (-1)) 56 0) 57 (-1)) 61 0) 62 0)) = N0
            intro hm0 hq0
            have hRN0 : RW ly N0.2.2 := by rw [hq0.1]; exact hR
            refine Rn.iconstv (v := -1) dX12_forbidden_40 ic_m1 ?_
            refine Rn.istore (lv' := [some (.ref 149), some (.int (nI N)), some (.int y), some (.int z), some (.int (-1)), none, none, none]) dX12_forbidden_41 (by decide) rfl ?_
            refine Rn.iconstv (v := 0) dX12_forbidden_43 ic_0 ?_
            refine Rn.istore (lv' := [some (.ref 149), some (.int (nI N)), some (.int y), some (.int z), some (.int (-1)), some (.int 0), none, none]) dX12_forbidden_44 (by decide) rfl ?_
            refine Rn.iconstv (v := 1) dX12_forbidden_46 ic_1 ?_
            refine Rn.istore (lv' := [some (.ref 149), some (.int (nI N)), some (.int y), some (.int z), some (.int (-1)), some (.int 0), some (.int 1), none]) dX12_forbidden_47 (by decide) rfl ?_
            have loop : ∀ (k d : Nat) (be mo : Int32) (K : Mm), d + k = 9 → qR M K → (K.1 149 55 = -1 ∧ K.1 149 56 = nI 0 ∧ K.1 149 57 = -1) → ((d = 0 ∧ be = -1 ∧ mo = 0) ∨ (1 ≤ d ∧ be = (fbS (fun b => TR n 1 p h0 0 ca (Wj y b) (fun m => valL m (lw 0).1 (lw 0).2) (fun m => valL m (lw 1).1 (lw 1).2)) (zsc 0 (fun _ => 0)) n N d).1 ∧ mo = (fbS (fun b => TR n 1 p h0 0 ca (Wj y b) (fun m => valL m (lw 0).1 (lw 0).2) (fun m => valL m (lw 1).1 (lw 1).2)) (zsc 0 (fun _ => 0)) n N d).2)) → Rn G l mX12_forbidden (9, 0, 0, false) 49 [some (.ref 149), some (.int (nI N)), some (.int y), some (.int z), some (.int be), some (.int mo), some (.int (nI (d + 1))), none] [] ly K Q := by
              intro k
              induction k with
              | zero =>
                intro d be mo K hd hq hm hbm
                have hRK : RW ly K.2.2 := by rw [hq.1]; exact hR
                refine Rn.iload dX12_forbidden_49 rfl ?_
                refine Rn.bipushv (v := 9) dX12_forbidden_51 bp_9 ?_
                refine Rn.icmp_gt dX12_forbidden_53 (fun hc => ?_) (fun hc => ?_)
                · skip
                  obtain ⟨hb1, hb2⟩ : be = (fbS (fun b => TR n 1 p h0 0 ca (Wj y b) (fun m => valL m (lw 0).1 (lw 0).2) (fun m => valL m (lw 1).1 (lw 1).2)) (zsc 0 (fun _ => 0)) n N 9).1 ∧ mo = (fbS (fun b => TR n 1 p h0 0 ca (Wj y b) (fun m => valL m (lw 0).1 (lw 0).2) (fun m => valL m (lw 1).1 (lw 1).2)) (zsc 0 (fun _ => 0)) n N 9).2 := by
                    have ed : d = 9 := by omega
                    rw [ed] at hbm
                    rcases hbm with ⟨h, _⟩ | ⟨_, h⟩
                    · exact absurd h (by decide)
                    · exact h
                  rw [← hb1, ← hb2] at hA
                  refine Rn.aload_n dX12_forbidden_108 rfl ?_
                  refine Rn.callV0 dX12_forbidden_109 vX12_447 (rc149 hRK) (by decide) rfl (tX12_plain (M := K) hRK) (by decide) ⟨(Nat.le_of_ble_eq_true rfl), (Nat.le_of_ble_eq_true rfl), (Nat.le_of_ble_eq_true rfl)⟩ (fun h => by cases h) (fun v1 ly1 M1 ⟨q1, q2, q3⟩ => ?_)
                  rw [q1, q2, q3]
                  have hm9m : md (sI (K) 149 (upd (upd (upd (upd (upd ((K).1 149) 55 (-1)) 56 0) 57 (-1)) 61 0) 62 0)) (-1) 0 := ⟨rfl, rfl, rfl, rfl⟩
                  have hq9m : qR M (sI (K) 149 (upd (upd (upd (upd (upd ((K).1 149) 55 (-1)) 56 0) 57 (-1)) 61 0) 62 0)) := qR.plain (hq)
                  revert hm9m hq9m
                  generalize (sI (K) 149 (upd (upd (upd (upd (upd ((K).1 149) 55 (-1)) 56 0) 57 (-1)) 61 0) 62 0)) = N9
                  intro hm9 hq9
                  have hRN9 : RW ly N9.2.2 := by rw [hq9.1]; exact hR
                  refine Rn.iload_n dX12_forbidden_112 rfl ?_
                  refine Rn.if_ne dX12_forbidden_113 (fun hz => ?_) (fun hz => ?_)
                  · skip
                    refine Rn.iload dX12_forbidden_121 rfl ?_
                    rw [if_neg hz] at hA
                    exact Rn.iret (ty := .int) dX12_forbidden_123 rfl rfl (hA N9 hq9)
                  · skip
                    refine Rn.iload dX12_forbidden_116 rfl ?_
                    refine Rn.goto dX12_forbidden_118 ?_
                    rw [if_pos hz] at hA
                    exact Rn.iret (ty := .int) dX12_forbidden_123 rfl rfl (hA N9 hq9)
                · skip
                  exact absurd (nI_lt (a := 9) (b := d + 1) (by omega) (by omega)) hc
              | succ k ih =>
                intro d be mo K hd hq hm hbm
                have hRK : RW ly K.2.2 := by rw [hq.1]; exact hR
                refine Rn.iload dX12_forbidden_49 rfl ?_
                refine Rn.bipushv (v := 9) dX12_forbidden_51 bp_9 ?_
                refine Rn.icmp_gt dX12_forbidden_53 (fun hc => ?_) (fun hc => ?_)
                · skip
                  exact absurd hc (nI_nlt (a := 9) (b := d + 1) (by omega) (by omega))
                · skip
                  refine Rn.aload_n dX12_forbidden_56 rfl ?_
                  refine Rn.callV0 dX12_forbidden_57 vX12_493 (rc149 hRK) (by decide) rfl (rvRest0 (M := M) (N := K) (Q := fun v0 ly0 K1 => v0 = none ∧ ly0 = ly ∧ qR M K1 ∧ K1.1 149 = K.1 149 ∧ rAl K1.1 1 1 0 (zsc 0 (fun _ => 0)) ∧ ftR K1.1 1 nf fc fk) hS hq hR (fun K1 a c d e f g => ⟨rfl, rfl, a, c, d 1 (by decide), e⟩)) (by decide) ⟨(Nat.le_of_ble_eq_true rfl), (Nat.le_of_ble_eq_true rfl), (Nat.le_of_ble_eq_true rfl)⟩ (fun h => by cases h) (fun v1 ly1 K1 ⟨q1, q2, hq1, e1, hs1, hf1⟩ => ?_)
                  rw [q1, q2]
                  have hRK1 : RW ly K1.2.2 := by rw [hq1.1]; exact hR
                  refine Rn.aload_n dX12_forbidden_60 rfl ?_
                  refine Rn.iload_n dX12_forbidden_61 rfl ?_
                  refine Rn.putI dX12_forbidden_62 fX12_393 rfl rfl rfl (rc149 hRK1) ?_
                  refine Rn.aload_n dX12_forbidden_65 rfl ?_
                  refine Rn.iload dX12_forbidden_66 rfl ?_
                  refine Rn.putI dX12_forbidden_68 fX12_396 rfl rfl rfl (rc149 hRK1) ?_
                  refine Rn.meq (M2 := sI K1 149 (upd (upd (K1.1 149) 61 y) 62 (nI (d + 1)))) (sI_sI _ _ _ _) ?_
                  refine Rn.aload_n dX12_forbidden_71 rfl ?_
                  refine Rn.iload_n dX12_forbidden_72 rfl ?_
                  have hE1 : EVt (sI (sI K1 149 (upd (upd (K1.1 149) 61 y) 62 (nI (d + 1)))) 171 (upd ((sI K1 149 (upd (upd (K1.1 149) 61 y) 62 (nI (d + 1)))).1 171) 1 0)).1 1 n 1 p h0 0 ca (Wj y (d + 1)) (fun m => valL m (lw 0).1 (lw 0).2) (fun m => valL m (lw 1).1 (lw 1).2) := by
                    have hp := hS.1.q hq1
                    obtain ⟨h1, h2, h3, h4, h5, h6⟩ := hp
                    obtain ⟨f0, hf0⟩ := h6 0 (by omega)
                    obtain ⟨f2, hf2⟩ := h6 1 (by omega)
                    have e55 : K1.1 149 55 = -1 := (congrFun e1 55).trans hm.1
                    refine ⟨h1, h2, ?_, rfl, ftR.cm (nf := nf) (fc := fc) (fk := fk) hf1 (by show ¬ K1.1 149 55 = 1; rw [e55]; decide) (fun c hc => ?_), Or.inr ⟨d + 1, by omega, by omega, rfl, rfl, rfl, rfl, rfl, rfl⟩, 0, _, f0, _, f2, _, _, (congrFun e1 56).trans hm.2.1, by decide, hf0.mv (fun a ha => ?_), hf2.mv (fun a ha => ?_), fun m => rfl, fun m => ?_⟩
                    · show htR (K1.1 149 55) (K1.1 151 4) = h0
                      rw [e55, h3]; rfl
                    · show mn 100 (cmR (K1.1 151 3) fc fk (nI c) nf) = ca c
                      rw [h4]; exact hca c hc
                    · exact (sI_ne (by omega)).trans (sI_ne (by omega))
                    · exact (sI_ne (by omega)).trans (sI_ne (by omega))
                    · show _ = if K1.1 149 55 = 5 then 0 else _
                      rw [e55, if_neg (by decide)]
                  have g1 : qR M (sI K1 149 (upd (upd (K1.1 149) 61 y) 62 (nI (d + 1)))) := hq1.tr ⟨rfl, fun a a1 a2 a3 a4 => sI_ne a1, fun j a1 a2 a3 a4 a5 => (pk_un (by omega)).trans (pk_un (by omega)), fun a ha j a1 a2 => congrFun (sI_ne (by omega)) j, fun a ha j hj => congrFun (sI_ne (by omega)) j, fun a ha j hj => congrFun (sI_ne (by omega)) j⟩
                  refine Rn.callV1 dX12_forbidden_73 vX12_477 (rc149 hRK1) (by decide) rfl (tX12_highOf (M := sI K1 149 (upd (upd (K1.1 149) 61 y) 62 (nI (d + 1)))) (N := N) (n := n) (nw := 1) (t := 0) (p := p) (het := h0) (ca := ca) (W := Wj y (d + 1)) (pv := (fun m => valL m (lw 0).1 (lw 0).2)) (sv := (fun m => valL m (lw 1).1 (lw 1).2)) (s := zsc 0 (fun _ => 0)) (Q := fun v0 ly0 K2 => v0 = some (.int (hgS (TR n 1 p h0 0 ca (Wj y (d + 1)) (fun m => valL m (lw 0).1 (lw 0).2) (fun m => valL m (lw 1).1 (lw 1).2)) (zsc 0 (fun _ => 0)) n N)) ∧ ly0 = ly ∧ qR M K2 ∧ (K2.1 149 55 = -1 ∧ K2.1 149 56 = nI 0 ∧ K2.1 149 57 = -1)) hE1 ((congrFun e1 57).trans hm.2.2) hs1 (by omega) hRK1 (fun K2 a c => ⟨rfl, rfl, g1.bl.tr a.q, (a.2.2.1 55 (by decide)).trans ((congrFun e1 55).trans hm.1), (a.2.2.1 56 (by decide)).trans ((congrFun e1 56).trans hm.2.1), (a.2.2.1 57 (by decide)).trans ((congrFun e1 57).trans hm.2.2)⟩)) (by decide) ⟨(Nat.le_of_ble_eq_true rfl), (Nat.le_of_ble_eq_true rfl), (Nat.le_of_ble_eq_true rfl)⟩ (fun h => by cases h) (fun v1 ly1 K2 ⟨q1, q2, hq2, hm2⟩ => ?_)
                  rw [q1, q2]
                  obtain ⟨hi, hhi⟩ : ∃ hi : Int32, hi = hgS (TR n 1 p h0 0 ca (Wj y (d + 1)) (fun m => valL m (lw 0).1 (lw 0).2) (fun m => valL m (lw 1).1 (lw 1).2)) (zsc 0 (fun _ => 0)) n N := ⟨_, rfl⟩
                  rw [← hhi]
                  have hRK2 : RW ly K2.2.2 := by rw [hq2.1]; exact hR
                  have hnew : (fbS (fun b => TR n 1 p h0 0 ca (Wj y b) (fun m => valL m (lw 0).1 (lw 0).2) (fun m => valL m (lw 1).1 (lw 1).2)) (zsc 0 (fun _ => 0)) n N (d + 1)) = if hi ≤ (fbS (fun b => TR n 1 p h0 0 ca (Wj y b) (fun m => valL m (lw 0).1 (lw 0).2) (fun m => valL m (lw 1).1 (lw 1).2)) (zsc 0 (fun _ => 0)) n N d).2 then fbS (fun b => TR n 1 p h0 0 ca (Wj y b) (fun m => valL m (lw 0).1 (lw 0).2) (fun m => valL m (lw 1).1 (lw 1).2)) (zsc 0 (fun _ => 0)) n N d else (nI (d + 1), hi) := by rw [hhi]; rfl
                  refine Rn.istore (lv' := [some (.ref 149), some (.int (nI N)), some (.int y), some (.int z), some (.int be), some (.int mo), some (.int (nI (d + 1))), some (.int hi)]) dX12_forbidden_76 (by decide) rfl ?_
                  refine Rn.iload dX12_forbidden_78 rfl ?_
                  refine Rn.iconstv (v := -1) dX12_forbidden_80 ic_m1 ?_
                  refine Rn.icmp_eq dX12_forbidden_81 (fun hb => ?_) (fun hb => ?_)
                  · skip
                    refine Rn.iload dX12_forbidden_94 rfl ?_
                    refine Rn.istore (lv' := [some (.ref 149), some (.int (nI N)), some (.int y), some (.int z), some (.int (nI (d + 1))), some (.int mo), some (.int (nI (d + 1))), some (.int hi)]) dX12_forbidden_96 (by decide) rfl ?_
                    refine Rn.iload dX12_forbidden_98 rfl ?_
                    refine Rn.istore (lv' := [some (.ref 149), some (.int (nI N)), some (.int y), some (.int z), some (.int (nI (d + 1))), some (.int hi), some (.int (nI (d + 1))), some (.int hi)]) dX12_forbidden_100 (by decide) rfl ?_
                    refine Rn.iincN (lv' := [some (.ref 149), some (.int (nI N)), some (.int y), some (.int z), some (.int (nI (d + 1))), some (.int hi), some (.int (nI ((d + 1) + 1))), some (.int hi)]) dX12_forbidden_102 rfl (by decide) rfl ?_
                    refine Rn.goto dX12_forbidden_105 ?_
                    refine Rn.forget (lv' := [some (.ref 149), some (.int (nI N)), some (.int y), some (.int z), some (.int (nI (d + 1))), some (.int hi), some (.int (nI ((d + 1) + 1))), none]) (⟨rfl, ⟨rfl, ⟨rfl, ⟨rfl, ⟨rfl, ⟨rfl, ⟨rfl, trivial⟩⟩⟩⟩⟩⟩⟩) ?_
                    have hd0 : d = 0 := by
                      rcases hbm with ⟨h, _⟩ | ⟨h1, h2, _⟩
                      · exact h
                      · obtain ⟨j, j1, j2, j3⟩ := fbS_pos (T := fun b => TR n 1 p h0 0 ca (Wj y b) (fun m => valL m (lw 0).1 (lw 0).2) (fun m => valL m (lw 1).1 (lw 1).2)) (s := zsc 0 (fun _ => 0)) (n := n) (N := N) d h1
                        rw [h2, j3] at hb
                        exact absurd (show nI j < 0 by rw [hb]; decide) (nI_pos (by omega))
                    subst hd0
                    exact ih (0 + 1) _ _ K2 (by omega) hq2 hm2 (Or.inr ⟨by omega, by rw [show (0 + 1 : Nat) = 1 from rfl, fbS_1], by rw [hhi, show (0 + 1 : Nat) = 1 from rfl, fbS_1]⟩)
                  · skip
                    obtain ⟨h1, h2, h3⟩ : 1 ≤ d ∧ be = (fbS (fun b => TR n 1 p h0 0 ca (Wj y b) (fun m => valL m (lw 0).1 (lw 0).2) (fun m => valL m (lw 1).1 (lw 1).2)) (zsc 0 (fun _ => 0)) n N d).1 ∧ mo = (fbS (fun b => TR n 1 p h0 0 ca (Wj y b) (fun m => valL m (lw 0).1 (lw 0).2) (fun m => valL m (lw 1).1 (lw 1).2)) (zsc 0 (fun _ => 0)) n N d).2 := by
                      rcases hbm with ⟨h, h2, _⟩ | h
                      · exact absurd h2 hb
                      · exact h
                    refine Rn.iload dX12_forbidden_84 rfl ?_
                    refine Rn.iload dX12_forbidden_86 rfl ?_
                    refine Rn.icmp_gt dX12_forbidden_88 (fun hgt => ?_) (fun hgt => ?_)
                    · skip
                      refine Rn.iload dX12_forbidden_94 rfl ?_
                      refine Rn.istore (lv' := [some (.ref 149), some (.int (nI N)), some (.int y), some (.int z), some (.int (nI (d + 1))), some (.int mo), some (.int (nI (d + 1))), some (.int hi)]) dX12_forbidden_96 (by decide) rfl ?_
                      refine Rn.iload dX12_forbidden_98 rfl ?_
                      refine Rn.istore (lv' := [some (.ref 149), some (.int (nI N)), some (.int y), some (.int z), some (.int (nI (d + 1))), some (.int hi), some (.int (nI (d + 1))), some (.int hi)]) dX12_forbidden_100 (by decide) rfl ?_
                      refine Rn.iincN (lv' := [some (.ref 149), some (.int (nI N)), some (.int y), some (.int z), some (.int (nI (d + 1))), some (.int hi), some (.int (nI ((d + 1) + 1))), some (.int hi)]) dX12_forbidden_102 rfl (by decide) rfl ?_
                      refine Rn.goto dX12_forbidden_105 ?_
                      refine Rn.forget (lv' := [some (.ref 149), some (.int (nI N)), some (.int y), some (.int z), some (.int (nI (d + 1))), some (.int hi), some (.int (nI ((d + 1) + 1))), none]) (⟨rfl, ⟨rfl, ⟨rfl, ⟨rfl, ⟨rfl, ⟨rfl, ⟨rfl, trivial⟩⟩⟩⟩⟩⟩⟩) ?_
                      exact ih (d + 1) _ _ K2 (by omega) hq2 hm2 (Or.inr ⟨by omega, by rw [hnew, if_neg (by rw [← h3]; exact Int32.not_le.mpr hgt)], by rw [hnew, if_neg (by rw [← h3]; exact Int32.not_le.mpr hgt)]⟩)
                    · skip
                      refine Rn.goto dX12_forbidden_91 ?_
                      refine Rn.iincN (lv' := [some (.ref 149), some (.int (nI N)), some (.int y), some (.int z), some (.int be), some (.int mo), some (.int (nI ((d + 1) + 1))), some (.int hi)]) dX12_forbidden_102 rfl (by decide) rfl ?_
                      refine Rn.goto dX12_forbidden_105 ?_
                      refine Rn.forget (lv' := [some (.ref 149), some (.int (nI N)), some (.int y), some (.int z), some (.int be), some (.int mo), some (.int (nI ((d + 1) + 1))), none]) (⟨rfl, ⟨rfl, ⟨rfl, ⟨rfl, ⟨rfl, ⟨rfl, ⟨rfl, trivial⟩⟩⟩⟩⟩⟩⟩) ?_
                      exact ih (d + 1) _ _ K2 (by omega) hq2 hm2 (Or.inr ⟨by omega, by rw [hnew, if_pos (by rw [← h3]; exact Int32.not_lt.mp hgt)]; exact h2, by rw [hnew, if_pos (by rw [← h3]; exact Int32.not_lt.mp hgt)]; exact h3⟩)
            exact loop 9 0 _ _ N0 (by omega) hq0 ⟨hm0.1, hm0.2.1, hm0.2.2.1⟩ (Or.inl ⟨rfl, rfl, rfl⟩)
          · skip
            refine Rn.iconstv (v := -1) dX12_forbidden_34 ic_m1 ?_
            exact Rn.iret (ty := .int) dX12_forbidden_35 rfl rfl (hQ.1 (fun h => g2z h.2.2.2) _ qR.rf.f0)
