/-- times have gone by over the bridge 0 -/
def bF (M K : Mm) : Prop := K.2.2 = M.2.2 ∧ (∀ a, a ≠ 149 → a ≠ 169 → a ≠ 170 → (a < 172 ∨ 179 < a) → a ≠ 183 → (a < 186 ∨ 188 < a) → K.1 a = M.1 a) ∧ (∀ j, j ≠ 0 → j ≠ 51 → (j < 54 ∨ 62 < j) → K.1 149 j = M.1 149 j) ∧ (∀ b, b ≠ 0 → cpB K.1 b M.1 b)
theorem psF.cp {N K : Mm} {b : Nat} (h : psF N K 0) (hb : b ≠ 0) : cpB K.1 b N.1 b := ⟨fun a ha => (by
  by_cases e : a = 171
  · rw [h.2.1 a (by omega) (by omega) (by omega) (by omega) (by omega)]
  · exact h.2.2.2.1 a (by omega) b hb), fun a ha j hj => h.2.2.2.2.1 a ha _ (by omega), fun a ha j hj => h.2.2.2.2.2 a ha _ (by omega), congrFun (h.2.1 180 (by omega) (by omega) (by omega) (by omega) (by omega)) b, fun _ _ _ a ha j _ => congrFun (h.2.1 a (by omega) (by omega) (by omega) (by omega) (by omega)) _⟩
theorem bF.ps {M N K : Mm} (h : bF M N) (g : psF N K 0) : bF M K := ⟨g.1.trans h.1, fun a a1 a2 a3 a4 a5 a6 => (g.2.1 a a1 a2 a3 a4 a6).trans (h.2.1 a a1 a2 a3 a4 a5 a6), fun j a1 a2 a3 => (g.2.2.1 j (by omega)).trans (h.2.2.1 j a1 a2 a3), fun b hb => (g.cp hb).tr (h.2.2.2 b hb)⟩
theorem bF.lg {M N : Mm} {f : Nat → Int32} (h : bF M N) : bF M (sI N 183 f) := ⟨h.1, fun a a1 a2 a3 a4 a5 a6 => (sI_ne a5).trans (h.2.1 a a1 a2 a3 a4 a5 a6), fun j a1 a2 a3 => h.2.2.1 j a1 a2 a3, fun b hb => (cpB.eq (fun a ha => sI_ne (by omega))).tr (h.2.2.2 b hb)⟩
theorem bF.gd {M N : Mm} (h : bF M N) (hg : ∀ b, b < 24 → gdB M.1 b) (b : Nat) (hb : b < 24) : gdB N.1 b := by
  unfold gdB
  rw [h.2.1 180 (by omega) (by omega) (by omega) (by omega) (by omega) (by omega), h.2.1 171 (by omega) (by omega) (by omega) (by omega) (by omega) (by omega)]
  exact hg b hb
theorem bF.ev {M N : Mm} {n nw t nf : Nat} {p : P4} {h0 c0 : Int32} {W : Wx} {lw : Nat → (Nat → Int32) × Nat} {s : Sc} {fc fk ca : Nat → Int32} (h : bF M N) (hS : RS M n nw t nf p h0 c0 W lw s fc fk) (hca : cas n nf c0 fc fk ca) (hm : md N (-1) 0) : EVt N.1 0 n nw p h0 (M.1 171 0) ca W (fun m => valL m (lw 0).1 (lw 0).2) (fun m => valL m (lw 1).1 (lw 1).2) := by
  have hp : plE N.1 n nw p h0 c0 W lw := hS.1.mv (fun a ha => h.2.1 a (by omega) (by omega) (by omega) (by omega) (by omega) (by omega))
  have hf : ftR N.1 0 nf fc fk := by
    unfold ftR
    rw [h.2.1 180 (by omega) (by omega) (by omega) (by omega) (by omega) (by omega), h.2.1 181 (by omega) (by omega) (by omega) (by omega) (by omega) (by omega), h.2.1 182 (by omega) (by omega) (by omega) (by omega) (by omega) (by omega)]
    exact hS.2.2.1
  refine EVt.of hp hm (by decide) (by decide) (by decide) (congrFun (h.2.1 171 (by omega) (by omega) (by omega) (by omega) (by omega) (by omega)) 0) (ftR.cm (nf := nf) (fc := fc) (fk := fk) hf (by rw [hm.1]; decide) (fun c hc => ?_))
  rw [hp.2.2.2.1]
  exact hca c hc
theorem tX12_beats {G : Gx} {l : Launch} {ly : Ly} {M : Mm} {x : Int32} {n nw t nf : Nat} {p : P4} {h0 c0 : Int32} {W : Wx} {lw : Nat → (Nat → Int32) × Nat} {s : Sc} {fc fk ca : Nat → Int32} (hS : RS M n nw t nf p h0 c0 W lw s fc fk) (hca : cas n nf c0 fc fk ca)  (hR : RW ly M.2.2) {Q : Qt} (hQ : ((x < 0 ∨ 200 < x ∨ ∃ N : Nat, N ≤ 200 ∧ x = nI N ∧ 9999 < t + N) → ∀ K, qR M K → Q (some (.int (-1))) ly K) ∧ (∀ N : Nat, N ≤ 200 → x = nI N → t + N ≤ 9999 → ∀ K : Mm, bF M K → K.1 149 51 = (if N = 0 then M.1 149 51 else 0) → rAl K.1 0 nw (t + N) (itF (fun _ => TR n nw p h0 (M.1 171 0) ca W (fun m => valL m (lw 0).1 (lw 0).2) (fun m => valL m (lw 1).1 (lw 1).2)) N s) → K.1 183 = htS (TR n nw p h0 (M.1 171 0) ca W (fun m => valL m (lw 0).1 (lw 0).2) (fun m => valL m (lw 1).1 (lw 1).2)) s n t (M.1 183) N → Q (some (.int (nI (t + N)))) ly K)) : Mt G l mX12_beats (8, 0, 0, false) [.ref 149, .int x] ly M Q := by
  refine Mt.of (lv := [some (.ref 149), some (.int x), none, none]) rfl ?_
  have ht9 := hS.2.2.2.2
  refine Rn.aload_n dX12_beats_0 rfl ?_
  refine Rn.iconstv (v := 0) dX12_beats_1 ic_0 ?_
  refine Rn.putI dX12_beats_2 fX12_169 rfl rfl rfl (rc149 hR) ?_
  refine Rn.iload_n dX12_beats_5 rfl ?_
  refine Rn.if_lt dX12_beats_6 (fun k1 => ?_) (fun k1 => ?_)
  · skip
    refine Rn.iconstv (v := -1) dX12_beats_30 ic_m1 ?_
    exact Rn.iret (ty := .int) dX12_beats_31 rfl rfl (hQ.1 (Or.inl k1) _ qR.rf.f0)
  · skip
    refine Rn.iload_n dX12_beats_9 rfl ?_
    refine Rn.sipushv (v := 200) dX12_beats_10 sp_200 ?_
    refine Rn.icmp_gt dX12_beats_13 (fun k2 => ?_) (fun k2 => ?_)
    · skip
      refine Rn.iconstv (v := -1) dX12_beats_30 ic_m1 ?_
      exact Rn.iret (ty := .int) dX12_beats_31 rfl rfl (hQ.1 (Or.inr (Or.inl k2)) _ qR.rf.f0)
    · skip
      obtain ⟨N, hN2, rfl⟩ : ∃ k : Nat, k ≤ 200 ∧ x = nI k := by
        obtain ⟨k, hk, rfl⟩ := nI_of k1
        exact ⟨k, (nI_leI (b := 200) hk (by decide)).mp (Int32.not_lt.mp k2), rfl⟩
      refine Rn.aload_n dX12_beats_16 rfl ?_
      refine Rn.getR dX12_beats_17 fX12_73 rfl (rc149 hR) (show M.2.2 149 35 = some 169 from (rpt35 hR)) ?_
      refine Rn.iconstv (v := 0) dX12_beats_20 ic_0 ?_
      refine Rn.iald dX12_beats_21 (rc169 hR) (by unfold vp_in; decide) ?_
      refine Rn.topI (y := M.1 169 0) (rfl) ?_
      refine Rn.topI (y := nI t) (hS.2.1.2.2.2.2.2.2.1.1) ?_
      refine Rn.iload_n dX12_beats_22 rfl ?_
      refine Rn.iadd dX12_beats_23 ?_
      refine Rn.topI (y := nI (t + N)) (nI_add t N) ?_
      refine Rn.sipushv (v := 9999) dX12_beats_24 sp_9999 ?_
      refine Rn.icmp_le dX12_beats_27 (fun k3 => ?_) (fun k3 => ?_)
      · skip
        have hle : t + N ≤ 9999 := (nI_leI (b := 9999) (by omega) (by decide)).mp k3
        have hA := hQ.2 N hN2 rfl hle
        clear hQ
        have hn := hS.n
        refine Rn.aload_n dX12_beats_32 rfl ?_
        refine Rn.callV0 dX12_beats_33 vX12_447 (rc149 hR) (by decide) rfl (tX12_plain (M := sI M 149 (upd (M.1 149) 0 0)) hR) (by decide) ⟨(Nat.le_of_ble_eq_true rfl), (Nat.le_of_ble_eq_true rfl), (Nat.le_of_ble_eq_true rfl)⟩ (fun h => by cases h) (fun v1 ly1 M1 ⟨q1, q2, q3⟩ => ?_)
        rw [q1, q2, q3]
        have hFm : bF M (sI (sI M 149 (upd (M.1 149) 0 0)) 149 (upd (upd (upd (upd (upd ((sI M 149 (upd (M.1 149) 0 0)).1 149) 55 (-1)) 56 0) 57 (-1)) 61 0) 62 0)) := ⟨rfl, fun a a1 a2 a3 a4 a5 a6 => (sI_ne a1).trans (sI_ne a1), fun j a1 a2 a3 => (pk_un (by omega)).trans ((pk_un (by omega)).trans ((pk_un (by omega)).trans ((pk_un (by omega)).trans ((pk_un (by omega)).trans (pk_un a1))))), fun b hb => (cpB.rf.f).f⟩
        have hmm : md (sI (sI M 149 (upd (M.1 149) 0 0)) 149 (upd (upd (upd (upd (upd ((sI M 149 (upd (M.1 149) 0 0)).1 149) 55 (-1)) 56 0) 57 (-1)) 61 0) 62 0)) (-1) 0 := ⟨rfl, rfl, rfl, rfl⟩
        have h51m : (sI (sI M 149 (upd (M.1 149) 0 0)) 149 (upd (upd (upd (upd (upd ((sI M 149 (upd (M.1 149) 0 0)).1 149) 55 (-1)) 56 0) 57 (-1)) 61 0) 62 0)).1 149 51 = M.1 149 51 := rfl
        have hsm : rAl (sI (sI M 149 (upd (M.1 149) 0 0)) 149 (upd (upd (upd (upd (upd ((sI M 149 (upd (M.1 149) 0 0)).1 149) 55 (-1)) 56 0) 57 (-1)) 61 0) 62 0)).1 0 nw t s := hS.2.1
        have hlm : (sI (sI M 149 (upd (M.1 149) 0 0)) 149 (upd (upd (upd (upd (upd ((sI M 149 (upd (M.1 149) 0 0)).1 149) 55 (-1)) 56 0) 57 (-1)) 61 0) 62 0)).1 183 = M.1 183 := rfl
        revert hFm hmm h51m hsm hlm
        generalize (sI (sI M 149 (upd (M.1 149) 0 0)) 149 (upd (upd (upd (upd (upd ((sI M 149 (upd (M.1 149) 0 0)).1 149) 55 (-1)) 56 0) 57 (-1)) 61 0) 62 0)) = N0
        intro hF0 hm0 h510 hs0 hl0
        have hRN0 : RW ly N0.2.2 := by rw [hF0.1]; exact hR
        have loop : ∀ (f d : Nat) (KK : Mm), d + f = N → bF M KK → md KK (-1) 0 → KK.1 149 51 = (if N = 0 then M.1 149 51 else 0) → rAl KK.1 0 nw (t + d) (itF (fun _ => TR n nw p h0 (M.1 171 0) ca W (fun m => valL m (lw 0).1 (lw 0).2) (fun m => valL m (lw 1).1 (lw 1).2)) d s) → KK.1 183 = htS (TR n nw p h0 (M.1 171 0) ca W (fun m => valL m (lw 0).1 (lw 0).2) (fun m => valL m (lw 1).1 (lw 1).2)) s n t (M.1 183) d → Rn G l mX12_beats (8, 0, 0, false) 47 [some (.ref 149), some (.int (nI N)), some (.int (nI d)), none] [] ly KK Q := by
          intro f
          induction f with
          | zero =>
            intro d KK hd hF hm h51 hs hl
            have hRKK : RW ly KK.2.2 := by rw [hF.1]; exact hR
            refine Rn.iload_n dX12_beats_47 rfl ?_
            refine Rn.iload_n dX12_beats_48 rfl ?_
            refine Rn.icmp_ge dX12_beats_49 (fun hc => ?_) (fun hc => ?_)
            · skip
              have ed : N = d := by omega
              refine Rn.aload_n dX12_beats_88 rfl ?_
              refine Rn.getR dX12_beats_89 fX12_73 rfl (rc149 hRKK) (show KK.2.2 149 35 = some 169 from (rpt35 hRKK)) ?_
              refine Rn.iconstv (v := 0) dX12_beats_92 ic_0 ?_
              refine Rn.iald dX12_beats_93 (rc169 hRKK) (by unfold vp_in; decide) ?_
              refine Rn.topI (y := KK.1 169 0) (rfl) ?_
              refine Rn.topI (y := nI (t + d)) (hs.2.2.2.2.2.2.1.1) ?_
              rw [← ed] at hs hl
              rw [← ed]
              exact Rn.iret (ty := .int) dX12_beats_94 rfl rfl (hA KK hF h51 hs hl)
            · skip
              exact absurd (nI_le (a := N) (b := d) (by omega) (by omega)) hc
          | succ f ih =>
            intro d KK hd hF hm h51 hs hl
            have hRKK : RW ly KK.2.2 := by rw [hF.1]; exact hR
            refine Rn.iload_n dX12_beats_47 rfl ?_
            refine Rn.iload_n dX12_beats_48 rfl ?_
            refine Rn.icmp_ge dX12_beats_49 (fun hc => ?_) (fun hc => ?_)
            · skip
              exact absurd hc (nI_ge (a := d) (b := N) (by omega) (by omega))
            · skip
              refine Rn.aload_n dX12_beats_52 rfl ?_
              refine Rn.getR dX12_beats_53 fX12_73 rfl (rc149 hRKK) (show KK.2.2 149 35 = some 169 from (rpt35 hRKK)) ?_
              refine Rn.iconstv (v := 0) dX12_beats_56 ic_0 ?_
              refine Rn.iald dX12_beats_57 (rc169 hRKK) (by unfold vp_in; decide) ?_
              refine Rn.topI (y := KK.1 169 0) (rfl) ?_
              refine Rn.topI (y := nI (t + d)) (hs.2.2.2.2.2.2.1.1) ?_
              refine Rn.istore_n (lv' := [some (.ref 149), some (.int (nI N)), some (.int (nI d)), some (.int (nI (t + d)))]) dX12_beats_58 (by decide) rfl ?_
              refine Rn.aload_n dX12_beats_59 rfl ?_
              refine Rn.iconstv (v := 0) dX12_beats_60 ic_0 ?_
              have hE := hF.ev hS hca hm
              refine Rn.callV1 dX12_beats_61 vX12_454 (rc149 hRKK) (by decide) rfl (rvPass (b := 0) (N := KK) (Q := fun v0 ly0 K2 => v0 = none ∧ ly0 = ly ∧ psF KK K2 0 ∧ rAl K2.1 0 nw (t + d + 1) (itF (fun _ => TR n nw p h0 (M.1 171 0) ca W (fun m => valL m (lw 0).1 (lw 0).2) (fun m => valL m (lw 1).1 (lw 1).2)) (d + 1) s)) (by decide) hE hm.2.2.1 hs (by omega) hRKK (fun K2 a c d => ⟨rfl, rfl, a, d⟩)) (by decide) ⟨(Nat.le_of_ble_eq_true rfl), (Nat.le_of_ble_eq_true rfl), (Nat.le_of_ble_eq_true rfl)⟩ (fun h => by cases h) (fun v1 ly1 K2 ⟨q1, q2, hP, hs2⟩ => ?_)
              rw [q1, q2]
              have hF2 := hF.ps hP
              have hm2 := hm.ps hP
              have hRK2 : RW ly K2.2.2 := by rw [hF2.1]; exact hR
              have h51b : K2.1 149 51 = (if N = 0 then M.1 149 51 else 0) := (hP.2.2.1 51 (by decide)).trans h51
              have hl2 : K2.1 183 = KK.1 183 := hP.2.1 183 (by omega) (by omega) (by omega) (by omega) (by omega)
              refine Rn.aload_n dX12_beats_64 rfl ?_
              refine Rn.getR dX12_beats_65 fX12_116 rfl (rc149 hRK2) (show K2.2.2 149 49 = some 183 from (rpt49 hRK2)) ?_
              refine Rn.iload_n dX12_beats_68 rfl ?_
              refine Rn.bipushv (v := 60) dX12_beats_69 bp_60 ?_
              refine Rn.irem dX12_beats_71 (by decide) ?_
              refine Rn.topI (y := nI ((t + d) % 60)) (i32rem (b := 60) (by omega) (by decide)) ?_
              refine Rn.aload_n dX12_beats_72 rfl ?_
              refine Rn.iconstv (v := 0) dX12_beats_73 ic_0 ?_
              refine Rn.aload_n dX12_beats_74 rfl ?_
              refine Rn.getR dX12_beats_75 fX12_86 rfl (rc149 hRK2) (show K2.2.2 149 39 = some 173 from (rpt39 hRK2)) ?_
              have hn2 : K2.1 151 0 = nI n := by rw [hF2.2.1 151 (by omega) (by omega) (by omega) (by omega) (by omega) (by omega)]; exact hn.1
              refine Rn.callV2 dX12_beats_78 vX12_457 (rc149 hRK2) (by decide) rfl (tX12_greatest173 (b := 0) (n := n) (M := K2) (by decide) hn2 hn.2 hRK2) (by decide) ⟨(Nat.le_of_ble_eq_true rfl), (Nat.le_of_ble_eq_true rfl), (Nat.le_of_ble_eq_true rfl)⟩ (fun h => by cases h) (fun v1 ly1 M1 ⟨q1, q2, q3⟩ => ?_)
              rw [q1, q2, q3]
              refine Rn.topI (y := gr (itF (fun _ => TR n nw p h0 (M.1 171 0) ca W (fun m => valL m (lw 0).1 (lw 0).2) (fun m => valL m (lw 1).1 (lw 1).2)) (d + 1) s).1 n) (gr_E hs2.1 n hn.2) ?_
              refine Rn.iastN (k0 := ((t + d) % 60)) dX12_beats_81 (rc183 hRK2) (by omega) (by decide) ?_
              refine Rn.iincN (lv' := [some (.ref 149), some (.int (nI N)), some (.int (nI (d + 1))), some (.int (nI (t + d)))]) dX12_beats_82 rfl (by decide) rfl ?_
              refine Rn.goto dX12_beats_85 ?_
              refine Rn.forget (lv' := [some (.ref 149), some (.int (nI N)), some (.int (nI (d + 1))), none]) (⟨rfl, ⟨rfl, ⟨rfl, trivial⟩⟩⟩) ?_
              exact ih (d + 1) _ (by omega) hF2.lg (hm2.eq rfl) h51b hs2 (by show upd (K2.1 183) ((t + d) % 60) _ = _; rw [hl2, hl]; rfl)
        refine Rn.iload_n dX12_beats_36 rfl ?_
        refine Rn.if_le dX12_beats_37 (fun k4 => ?_) (fun k4 => ?_)
        · skip
          have hN0 : N = 0 := by
            have := (nI_leI (b := 0) (by omega) (by decide)).mp k4; omega
          refine Rn.iconstv (v := 0) dX12_beats_45 ic_0 ?_
          refine Rn.istore_n (lv' := [some (.ref 149), some (.int (nI N)), some (.int 0), none]) dX12_beats_46 (by decide) rfl ?_
          exact loop N 0 N0 (by omega) hF0 hm0 (by rw [if_pos hN0]; exact h510) hs0 hl0
        · skip
          have hN0 : ¬ N = 0 := fun e => k4 (by rw [e]; decide)
          refine Rn.aload_n dX12_beats_40 rfl ?_
          refine Rn.iconstv (v := 0) dX12_beats_41 ic_0 ?_
          refine Rn.putI dX12_beats_42 fX12_340 rfl rfl rfl (rc149 hRN0) ?_
          refine Rn.iconstv (v := 0) dX12_beats_45 ic_0 ?_
          refine Rn.istore_n (lv' := [some (.ref 149), some (.int (nI N)), some (.int 0), none]) dX12_beats_46 (by decide) rfl ?_
          exact loop N 0 _ (by omega) ⟨hF0.1, fun a a1 a2 a3 a4 a5 a6 => (sI_ne a1).trans (hF0.2.1 a a1 a2 a3 a4 a5 a6), fun j a1 a2 a3 => (pk_un a2).trans (hF0.2.2.1 j a1 a2 a3), fun b hb => (hF0.2.2.2 b hb).f⟩ ⟨hm0.1, hm0.2.1, hm0.2.2.1, hm0.2.2.2⟩ (by rw [if_neg hN0]; rfl) hs0 hl0
      · skip
        refine Rn.iconstv (v := -1) dX12_beats_30 ic_m1 ?_
        exact Rn.iret (ty := .int) dX12_beats_31 rfl rfl (hQ.1 (Or.inr (Or.inr ⟨N, hN2, rfl, by have h9 : ¬ t + N ≤ 9999 := fun h => k3 ((nI_leI (b := 9999) (by omega) (by decide)).mpr h); omega⟩)) _ qR.rf.f0)
