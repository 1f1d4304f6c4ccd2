/-- who is known, by the reference's rows -/
def kbR (M : Mm) (m : Nat) : Int32 := knB (M.1 194) m 0 0
/-- the groans, as the reference has them -/
def GR (M : Mm) (ng m L : Nat) (tm ce mu al : Nat → Int32) : Prop := (M.1 149 70 = nI ng ∧ ng ≤ 24) ∧ (knN (M.1 149 71) (M.1 149 70) = nI m ∧ m ≤ ng) ∧ stOk (M.1 194) m ∧ (∀ i, i < m → (kbR M m >>> (nI i &&& 31)) &&& 1 = 1 → M.1 190 i = tm i ∧ M.1 191 i = ce i ∧ M.1 192 i = mu i ∧ M.1 193 i = al i ∧ ∃ c : Nat, c < 12 ∧ ce i = nI c) ∧ (lsT (kbR M m) tm ng + 1 = nI L ∧ L ≤ 64)
theorem lsT_hi {b : Int32} {tm : Nat → Int32} {m : Nat} (h : ∀ j, m ≤ j → j < 24 → ¬ (b >>> (nI j &&& 31)) &&& 1 = 1) : ∀ k : Nat, m + k ≤ 24 → lsT b tm (m + k) = lsT b tm m
  | 0, _ => rfl
  | k + 1, hk => (if_neg (h (m + k) (by omega) (by omega))).trans (lsT_hi h k (by omega))
theorem GR.q {M K : Mm} {ng m L : Nat} {tm ce mu al : Nat → Int32} (h : GR M ng m L tm ce mu al) (f : qR M K) : GR K ng m L tm ce mu al := by
  unfold GR kbR
  rw [f.2.2.1 70 (by omega) (by decide) (by decide) (by decide) (by decide), f.2.2.1 71 (by omega) (by decide) (by decide) (by decide) (by decide), f.at 190 (by omega), f.at 191 (by omega), f.at 192 (by omega), f.at 193 (by omega), f.at 194 (by omega)]
  exact h
theorem okB_nb {b t : Int32} {tm ce mu al up : Nat → Int32} {i : Nat} (h : ¬ (b >>> (nI i &&& 31)) &&& 1 = 1) : okB b t tm ce mu al up i = true := decide_eq_true (fun h2 => absurd h2 h)
theorem okB_nt {b t : Int32} {tm ce mu al up : Nat → Int32} {i : Nat} (h : ¬ tm i = t) : okB b t tm ce mu al up i = true := decide_eq_true (fun _ h2 => absurd h2 h)
theorem rvSo {G : Gx} {l : Launch} {ly : Ly} {M N : Mm} {n nw t : Nat} {p : P4} {het : Int32} {ca : Nat → Int32} {W : Wx} {pv sv : Lv} {s : Sc} {ng m L : Nat} {tm ce mu al : Nat → Int32} (hG : GR M ng m L tm ce mu al) (hq : qR M N) (hz : skR (N.1 195) (M.1 194) m) (hE : EVt N.1 1 n nw p het 0 ca W pv sv) (hpm : N.1 149 57 = -1) (hs : rAl N.1 1 nw t s) (ht : t ≤ 10000) (hR : RW ly M.2.2) {Q : Qt} (hQ : ∀ K : Mm, qR M K → K.1 195 = N.1 195 → (∀ j, j ≠ 54 → K.1 149 j = N.1 149 j) → Q (some (.int (b01 (soB (TR n nw p het 0 ca W pv sv) s (kbR M m) tm ce mu al ng L)))) ly K) : Mt G l mX12_areSo (8, 0, 0, false) [.ref 149] ly N Q := by
  obtain ⟨⟨hg1, hg24⟩, ⟨hk1, hkm⟩, hst, hrw, hL, hL64⟩ := hG
  refine Mt.of (lv := [some (.ref 149), none, none, none]) rfl ?_
  have hRN : RW ly N.2.2 := by rw [hq.1]; exact hR
  have hhi : ∀ j, m ≤ j → j < 24 → ¬ (kbR M m >>> (nI j &&& 31)) &&& 1 = 1 := fun j h1 h2 => knB_hi (by omega) (by omega) h1
  have hkn : ∀ K, qR M K → knN (K.1 149 71) (K.1 149 70) = nI m := fun K f => by rw [f.2.2.1 70 (by omega) (by decide) (by decide) (by decide) (by decide), f.2.2.1 71 (by omega) (by decide) (by decide) (by decide) (by decide)]; exact hk1
  refine Rn.iconstv (v := -1) dX12_areSo_0 ic_m1 ?_
  refine Rn.istore_n (lv' := [some (.ref 149), some (.int (-1)), none, none]) dX12_areSo_1 (by decide) rfl ?_
  refine Rn.iconstv (v := 0) dX12_areSo_2 ic_0 ?_
  refine Rn.istore_n (lv' := [some (.ref 149), some (.int (-1)), some (.int 0), none]) dX12_areSo_3 (by decide) rfl ?_
  have loop : ∀ (k i : Nat), i + k = m → Rn G l mX12_areSo (8, 0, 0, false) 4 [some (.ref 149), some (.int (lsT (kbR M m) tm i)), some (.int (nI i)), none] [] ly N Q := by
    intro k
    induction k with
    | zero =>
      intro i hi
      refine Rn.iload_n dX12_areSo_4 rfl ?_
      refine Rn.aload_n dX12_areSo_5 rfl ?_
      refine Rn.callV0 dX12_areSo_6 vX12_514 (rc149 hRN) (by decide) rfl (tX12_knownMany (M := N) hRN) (by decide) ⟨(Nat.le_of_ble_eq_true rfl), (Nat.le_of_ble_eq_true rfl), (Nat.le_of_ble_eq_true rfl)⟩ (fun h => by cases h) (fun v1 ly1 M1 ⟨q1, q2, q3⟩ => ?_)
      rw [q1, q2, q3]
      refine Rn.topI (y := nI m) (hkn N hq) ?_
      refine Rn.icmp_ge dX12_areSo_9 (fun hc => ?_) (fun hc => ?_)
      · skip
        have ei : m = i := by omega
        subst ei
        obtain ⟨la, hla⟩ : ∃ la : Int32, la = lsT (kbR M m) tm m := ⟨_, rfl⟩
        rw [← hla]
        have hla1 : la + 1 = nI L := by rw [hla, ← lsT_hi hhi (ng - m) (by omega), show m + (ng - m) = ng by omega]; exact hL
        refine Rn.iconstv (v := 0) dX12_areSo_37 ic_0 ?_
        refine Rn.istore_n (lv' := [some (.ref 149), some (.int la), some (.int 0), none]) dX12_areSo_38 (by decide) rfl ?_
        have loop2 : ∀ (f d : Nat) (KK : Mm), d + f = L → psF N KK 1 → EVt KK.1 1 n nw p het 0 ca W pv sv → rAl KK.1 1 nw (t + d) (itF (fun _ => TR n nw p het 0 ca W pv sv) d s) → (∀ e, e < d → allB (okB (kbR M m) (nI e) tm ce mu al (itF (fun _ => TR n nw p het 0 ca W pv sv) (e + 1) s).1) ng = true) → Rn G l mX12_areSo (8, 0, 0, false) 39 [some (.ref 149), some (.int la), some (.int (nI d)), none] [] ly KK Q := by
          intro f
          induction f with
          | zero =>
            intro d KK hd hF hE2 hs2 hall
            have hqK := hq.tr hF.q
            have hRKK : RW ly KK.2.2 := by rw [hqK.1]; exact hR
            refine Rn.iload_n dX12_areSo_39 rfl ?_
            refine Rn.iload_n dX12_areSo_40 rfl ?_
            refine Rn.icmp_gt dX12_areSo_41 (fun hc2 => ?_) (fun hc2 => ?_)
            · skip
              refine Rn.iconstv (v := 1) dX12_areSo_131 ic_1 ?_
              rw [show b01 (soB (TR n nw p het 0 ca W pv sv) s (kbR M m) tm ce mu al ng L) = 1 from (congrArg b01 (allB_t L (fun e he => hall e (by omega)))).trans rfl] at hQ
              exact Rn.iret (ty := .boolean) dX12_areSo_132 rfl rfl (hQ KK hqK (hF.at 195 (by omega)) hF.2.2.1)
            · skip
              exact absurd ((lst_lt hla1 hL64 (by omega)).mpr (by omega)) hc2
          | succ f ih2 =>
            intro d KK hd hF hE2 hs2 hall
            have hqK := hq.tr hF.q
            have hRKK : RW ly KK.2.2 := by rw [hqK.1]; exact hR
            refine Rn.iload_n dX12_areSo_39 rfl ?_
            refine Rn.iload_n dX12_areSo_40 rfl ?_
            refine Rn.icmp_gt dX12_areSo_41 (fun hc2 => ?_) (fun hc2 => ?_)
            · skip
              exact absurd ((lst_lt hla1 hL64 (by omega)).mp hc2) (by omega)
            · skip
              refine Rn.aload_n dX12_areSo_44 rfl ?_
              refine Rn.iconstv (v := 1) dX12_areSo_45 ic_1 ?_
              refine Rn.callV1 dX12_areSo_46 vX12_454 (rc149 hRKK) (by decide) rfl (rvPass (b := 1) (N := KK) (Q := fun v0 ly0 K2 => v0 = none ∧ ly0 = ly ∧ psF KK K2 1 ∧ EVt K2.1 1 n nw p het 0 ca W pv sv ∧ rAl K2.1 1 nw (t + d + 1) (itF (fun _ => TR n nw p het 0 ca W pv sv) (d + 1) s)) (by decide) hE2 ((hF.2.2.1 57 (by decide)).trans hpm) hs2 (by omega) hRKK (fun K2 a c d => ⟨rfl, rfl, a, c, d⟩)) (by decide) ⟨(Nat.le_of_ble_eq_true rfl), (Nat.le_of_ble_eq_true rfl), (Nat.le_of_ble_eq_true rfl)⟩ (fun h => by cases h) (fun v1 ly1 K2 ⟨q1, q2, hF2, hE3, hs3⟩ => ?_)
              rw [q1, q2]
              have hF3 := hF.tr hF2
              have hq3 := hq.tr hF3.q
              have hRK2 : RW ly K2.2.2 := by rw [hq3.1]; exact hR
              have hz3 : skR (K2.1 195) (M.1 194) m := by rw [hF3.at 195 (by omega)]; exact hz
              refine Rn.iconstv (v := 0) dX12_areSo_49 ic_0 ?_
              refine Rn.istore_n (lv' := [some (.ref 149), some (.int la), some (.int (nI d)), some (.int 0)]) dX12_areSo_50 (by decide) rfl ?_
              have loop3 : ∀ (g j : Nat), j + g = m → (∀ e, e < j → okB (kbR M m) (nI d) tm ce mu al (itF (fun _ => TR n nw p het 0 ca W pv sv) (d + 1) s).1 e = true) → Rn G l mX12_areSo (8, 0, 0, false) 51 [some (.ref 149), some (.int la), some (.int (nI d)), some (.int (nI j))] [] ly K2 Q := by
                intro g
                induction g with
                | zero =>
                  intro j hj hok
                  refine Rn.iload_n dX12_areSo_51 rfl ?_
                  refine Rn.aload_n dX12_areSo_52 rfl ?_
                  refine Rn.callV0 dX12_areSo_53 vX12_514 (rc149 hRK2) (by decide) rfl (tX12_knownMany (M := K2) hRK2) (by decide) ⟨(Nat.le_of_ble_eq_true rfl), (Nat.le_of_ble_eq_true rfl), (Nat.le_of_ble_eq_true rfl)⟩ (fun h => by cases h) (fun v1 ly1 M1 ⟨q1, q2, q3⟩ => ?_)
                  rw [q1, q2, q3]
                  refine Rn.topI (y := nI m) (hkn K2 hq3) ?_
                  refine Rn.icmp_ge dX12_areSo_56 (fun hc3 => ?_) (fun hc3 => ?_)
                  · skip
                    refine Rn.iincN (lv' := [some (.ref 149), some (.int la), some (.int (nI (d + 1))), some (.int (nI j))]) dX12_areSo_125 rfl (by decide) rfl ?_
                    refine Rn.goto dX12_areSo_128 ?_
                    refine Rn.forget (lv' := [some (.ref 149), some (.int la), some (.int (nI (d + 1))), none]) (⟨rfl, ⟨rfl, ⟨rfl, trivial⟩⟩⟩) ?_
                    exact ih2 (d + 1) K2 (by omega) hF3 hE3 hs3 (fun e he => if e2 : e = d then by rw [e2]; exact allB_t ng (fun i hi => if e3 : i < m then hok i (by omega) else okB_nb (hhi i (by omega) (by omega))) else hall e (by omega))
                  · skip
                    exact absurd (nI_le (a := m) (b := j) (by omega) (by omega)) hc3
                | succ g ih3 =>
                  intro j hj hok
                  refine Rn.iload_n dX12_areSo_51 rfl ?_
                  refine Rn.aload_n dX12_areSo_52 rfl ?_
                  refine Rn.callV0 dX12_areSo_53 vX12_514 (rc149 hRK2) (by decide) rfl (tX12_knownMany (M := K2) hRK2) (by decide) ⟨(Nat.le_of_ble_eq_true rfl), (Nat.le_of_ble_eq_true rfl), (Nat.le_of_ble_eq_true rfl)⟩ (fun h => by cases h) (fun v1 ly1 M1 ⟨q1, q2, q3⟩ => ?_)
                  rw [q1, q2, q3]
                  refine Rn.topI (y := nI m) (hkn K2 hq3) ?_
                  refine Rn.icmp_ge dX12_areSo_56 (fun hc3 => ?_) (fun hc3 => ?_)
                  · skip
                    exact absurd hc3 (nI_ge (a := j) (b := m) (by omega) (by omega))
                  · skip
                    refine Rn.aload_n dX12_areSo_59 rfl ?_
                    refine Rn.iload_n dX12_areSo_60 rfl ?_
                    refine Rn.callV1 dX12_areSo_61 vX12_517 (rc149 hRK2) (by decide) rfl (tX12_isGroan (M := K2) (k := j) (by omega) hRK2) (by decide) ⟨(Nat.le_of_ble_eq_true rfl), (Nat.le_of_ble_eq_true rfl), (Nat.le_of_ble_eq_true rfl)⟩ (fun h => by cases h) (fun v1 ly1 M1 ⟨q1, q2, q3⟩ => ?_)
                    rw [q1, q2, q3]
                    refine Rn.topI (y := gnR (K2.1 195 j) (M.1 194 j)) (by rw [hq3.at 194 (by omega)]) ?_
                    have hzj := hz3 j (by omega)
                    refine Rn.if_eq dX12_areSo_64 (fun hgn => ?_) (fun hgn => ?_)
                    · skip
                      have hnb : ¬ (kbR M m >>> (nI j &&& 31)) &&& 1 = 1 := fun h => absurd (hgn.symm.trans (hzj.1.mpr h)) (by decide)
                      refine Rn.iincN (lv' := [some (.ref 149), some (.int la), some (.int (nI d)), some (.int (nI (j + 1)))]) dX12_areSo_119 rfl (by decide) rfl ?_
                      refine Rn.goto dX12_areSo_122 ?_
                      exact ih3 (j + 1) (by omega) (fun e he => if e2 : e = j then by rw [e2]; exact okB_nb hnb else hok e (by omega))
                    · skip
                      have hbit : (kbR M m >>> (nI j &&& 31)) &&& 1 = 1 := hzj.1.mp (hzj.2.resolve_left hgn)
                      obtain ⟨g1, g2, g3, g4, c, hc12, g5⟩ := hrw j (by omega) hbit
                      refine Rn.aload_n dX12_areSo_67 rfl ?_
                      refine Rn.getR dX12_areSo_68 fX12_147 rfl (rc149 hRK2) (show K2.2.2 149 72 = some 190 from (rpt72 hRK2)) ?_
                      refine Rn.iload_n dX12_areSo_71 rfl ?_
                      refine Rn.ialdN (k0 := j) dX12_areSo_72 (rc190 hRK2) (by omega) (by decide) ?_
                      refine Rn.topI (y := tm j) ((congrFun (hq3.at 190 (by omega)) j).trans (g1)) ?_
                      refine Rn.iload_n dX12_areSo_73 rfl ?_
                      refine Rn.icmp_ne dX12_areSo_74 (fun htm => ?_) (fun htm => ?_)
                      · skip
                        refine Rn.iincN (lv' := [some (.ref 149), some (.int la), some (.int (nI d)), some (.int (nI (j + 1)))]) dX12_areSo_119 rfl (by decide) rfl ?_
                        refine Rn.goto dX12_areSo_122 ?_
                        exact ih3 (j + 1) (by omega) (fun e he => if e2 : e = j then by rw [e2]; exact okB_nt htm else hok e (by omega))
                      · skip
                        refine Rn.aload_n dX12_areSo_77 rfl ?_
                        refine Rn.getR dX12_areSo_78 fX12_86 rfl (rc149 hRK2) (show K2.2.2 149 39 = some 173 from (rpt39 hRK2)) ?_
                        refine Rn.bipushv (v := 12) dX12_areSo_81 bp_12 ?_
                        refine Rn.aload_n dX12_areSo_83 rfl ?_
                        refine Rn.getR dX12_areSo_84 fX12_150 rfl (rc149 hRK2) (show K2.2.2 149 73 = some 191 from (rpt73 hRK2)) ?_
                        refine Rn.iload_n dX12_areSo_87 rfl ?_
                        refine Rn.ialdN (k0 := j) dX12_areSo_88 (rc191 hRK2) (by omega) (by decide) ?_
                        refine Rn.topI (y := nI c) ((congrFun (hq3.at 191 (by omega)) j).trans (g2.trans g5)) ?_
                        refine Rn.iadd dX12_areSo_89 ?_
                        refine Rn.topI (y := nI (12 + c)) (nI_add 12 c) ?_
                        refine Rn.ialdN (k0 := (12 + c)) dX12_areSo_90 (rc173 hRK2) (by omega) (by decide) ?_
                        refine Rn.topI (y := (itF (fun _ => TR n nw p het 0 ca W pv sv) (d + 1) s).1 c) (hs3.1 c hc12) ?_
                        refine Rn.mabs dX12_areSo_91 jX12_441 jw_mabs ⟨(Nat.le_of_ble_eq_true rfl), (Nat.le_of_ble_eq_true rfl)⟩ ?_
                        refine Rn.aload_n dX12_areSo_94 rfl ?_
                        refine Rn.getR dX12_areSo_95 fX12_153 rfl (rc149 hRK2) (show K2.2.2 149 74 = some 192 from (rpt74 hRK2)) ?_
                        refine Rn.iload_n dX12_areSo_98 rfl ?_
                        refine Rn.ialdN (k0 := j) dX12_areSo_99 (rc192 hRK2) (by omega) (by decide) ?_
                        refine Rn.topI (y := mu j) ((congrFun (hq3.at 192 (by omega)) j).trans (g3)) ?_
                        obtain ⟨vv, hvv⟩ : ∃ vv : Int32, vv = (if ab ((itF (fun _ => TR n nw p het 0 ca W pv sv) (d + 1) s).1 (ce j).toNatClampNeg) < mu j then (0 : Int32) else 1) := ⟨_, rfl⟩
                        have hce : (ce j).toNatClampNeg = c := by rw [g5, nI_clamp (by omega)]
                        have join : Rn G l mX12_areSo (8, 0, 0, false) 108 [some (.ref 149), some (.int la), some (.int (nI d)), some (.int (nI j))] [.int vv] ly K2 Q := by
                          refine Rn.aload_n dX12_areSo_108 rfl ?_
                          refine Rn.getR dX12_areSo_109 fX12_156 rfl (rc149 hRK2) (show K2.2.2 149 75 = some 193 from (rpt75 hRK2)) ?_
                          refine Rn.iload_n dX12_areSo_112 rfl ?_
                          refine Rn.zaldN (k0 := j) dX12_areSo_113 (rc193 hRK2) (by omega) (by decide) ?_
                          refine Rn.topI (y := al j) ((congrFun (hq3.at 193 (by omega)) j).trans (g4)) ?_
                          refine Rn.icmp_eq dX12_areSo_114 (fun hal => ?_) (fun hal => ?_)
                          · skip
                            refine Rn.iincN (lv' := [some (.ref 149), some (.int la), some (.int (nI d)), some (.int (nI (j + 1)))]) dX12_areSo_119 rfl (by decide) rfl ?_
                            refine Rn.goto dX12_areSo_122 ?_
                            exact ih3 (j + 1) (by omega) (fun e he => if e2 : e = j then by rw [e2]; exact decide_eq_true (fun _ _ => hvv.symm.trans hal) else hok e (by omega))
                          · skip
                            refine Rn.iconstv (v := 0) dX12_areSo_117 ic_0 ?_
                            have hsf : soB (TR n nw p het 0 ca W pv sv) s (kbR M m) tm ce mu al ng L = false := allB_f L ⟨d, by omega, allB_f ng ⟨j, by omega, decide_eq_false (fun h => hal (hvv.trans (h hbit htm)))⟩⟩
                            rw [show b01 (soB (TR n nw p het 0 ca W pv sv) s (kbR M m) tm ce mu al ng L) = 0 by rw [hsf]; rfl] at hQ
                            exact Rn.iret (ty := .boolean) dX12_areSo_118 rfl rfl (hQ K2 hq3 (hF3.at 195 (by omega)) hF3.2.2.1)
                        refine Rn.icmp_lt dX12_areSo_100 (fun hlt => ?_) (fun hlt => ?_)
                        · skip
                          refine Rn.iconstv (v := 0) dX12_areSo_107 ic_0 ?_
                          refine Rn.topI (y := vv) (by rw [hvv, hce, if_pos hlt]) ?_
                          exact join
                        · skip
                          refine Rn.iconstv (v := 1) dX12_areSo_103 ic_1 ?_
                          refine Rn.goto dX12_areSo_104 ?_
                          refine Rn.topI (y := vv) (by rw [hvv, hce, if_neg hlt]) ?_
                          exact join
              exact loop3 m 0 (by omega) (fun e he => absurd he (by omega))
        exact loop2 L 0 N (by omega) psF.rf hE hs (fun e he => absurd he (by omega))
      · skip
        exact absurd (nI_le (a := m) (b := i) (by omega) (by omega)) hc
    | succ k ih =>
      intro i hi
      refine Rn.iload_n dX12_areSo_4 rfl ?_
      refine Rn.aload_n dX12_areSo_5 rfl ?_
      refine Rn.callV0 dX12_areSo_6 vX12_514 (rc149 hRN) (by decide) rfl (tX12_knownMany (M := N) hRN) (by decide) ⟨(Nat.le_of_ble_eq_true rfl), (Nat.le_of_ble_eq_true rfl), (Nat.le_of_ble_eq_true rfl)⟩ (fun h => by cases h) (fun v1 ly1 M1 ⟨q1, q2, q3⟩ => ?_)
      rw [q1, q2, q3]
      refine Rn.topI (y := nI m) (hkn N hq) ?_
      refine Rn.icmp_ge dX12_areSo_9 (fun hc => ?_) (fun hc => ?_)
      · skip
        exact absurd hc (nI_ge (a := i) (b := m) (by omega) (by omega))
      · skip
        refine Rn.aload_n dX12_areSo_12 rfl ?_
        refine Rn.iload_n dX12_areSo_13 rfl ?_
        refine Rn.callV1 dX12_areSo_14 vX12_517 (rc149 hRN) (by decide) rfl (tX12_isGroan (M := N) (k := i) (by omega) hRN) (by decide) ⟨(Nat.le_of_ble_eq_true rfl), (Nat.le_of_ble_eq_true rfl), (Nat.le_of_ble_eq_true rfl)⟩ (fun h => by cases h) (fun v1 ly1 M1 ⟨q1, q2, q3⟩ => ?_)
        rw [q1, q2, q3]
        refine Rn.topI (y := gnR (N.1 195 i) (M.1 194 i)) (by rw [hq.at 194 (by omega)]) ?_
        have hzi := hz i (by omega)
        refine Rn.if_eq dX12_areSo_17 (fun hgn => ?_) (fun hgn => ?_)
        · skip
          have hnb : ¬ (kbR M m >>> (nI i &&& 31)) &&& 1 = 1 := fun h => absurd (hgn.symm.trans (hzi.1.mpr h)) (by decide)
          refine Rn.iincN (lv' := [some (.ref 149), some (.int (lsT (kbR M m) tm i)), some (.int (nI (i + 1))), none]) dX12_areSo_31 rfl (by decide) rfl ?_
          refine Rn.goto dX12_areSo_34 ?_
          refine Rn.lveq (lv2 := [some (.ref 149), some (.int (lsT (kbR M m) tm (i + 1))), some (.int (nI (i + 1))), none]) (by rw [show lsT (kbR M m) tm (i + 1) = lsT (kbR M m) tm i from if_neg hnb]) ?_
          exact ih (i + 1) (by omega)
        · skip
          have hbit : (kbR M m >>> (nI i &&& 31)) &&& 1 = 1 := hzi.1.mp (hzi.2.resolve_left hgn)
          refine Rn.iload_n dX12_areSo_20 rfl ?_
          refine Rn.aload_n dX12_areSo_21 rfl ?_
          refine Rn.getR dX12_areSo_22 fX12_147 rfl (rc149 hRN) (show N.2.2 149 72 = some 190 from (rpt72 hRN)) ?_
          refine Rn.iload_n dX12_areSo_25 rfl ?_
          refine Rn.ialdN (k0 := i) dX12_areSo_26 (rc190 hRN) (by omega) (by decide) ?_
          refine Rn.topI (y := tm i) ((congrFun (hq.at 190 (by omega)) i).trans (hrw i (by omega) hbit).1) ?_
          refine Rn.mmax dX12_areSo_27 jX12_351 jw_mmax ⟨(Nat.le_of_ble_eq_true rfl), (Nat.le_of_ble_eq_true rfl)⟩ ?_
          refine Rn.topI (y := lsT (kbR M m) tm (i + 1)) ((if_pos hbit).symm) ?_
          refine Rn.istore_n (lv' := [some (.ref 149), some (.int (lsT (kbR M m) tm (i + 1))), some (.int (nI i)), none]) dX12_areSo_30 (by decide) rfl ?_
          refine Rn.iincN (lv' := [some (.ref 149), some (.int (lsT (kbR M m) tm (i + 1))), some (.int (nI (i + 1))), none]) dX12_areSo_31 rfl (by decide) rfl ?_
          refine Rn.goto dX12_areSo_34 ?_
          exact ih (i + 1) (by omega)
  exact loop m 0 (by omega)
theorem b01_01 (b : Bool) : b01 b = 0 ∨ b01 b = 1 := by cases b; exact Or.inl rfl; exact Or.inr rfl
theorem rvSet {G : Gx} {l : Launch} {ly : Ly} {M N : Mm} {n nw t nf : Nat} {p : P4} {h0 c0 : Int32} {W : Wx} {lw : Nat → (Nat → Int32) × Nat} {s : Sc} {fc fk : Nat → Int32} {ca : Nat → Int32} {z : Int32} {ng m L : Nat} {tm ce mu al : Nat → Int32} (hG : GR M ng m L tm ce mu al) (hm : md N (-1) 0) (hz : skR (N.1 195) (M.1 194) m) (hS : RS M n nw t nf p h0 c0 W lw s fc fk) (hca : cas n nf c0 fc fk ca) (hq : qR M N) (hR : RW ly M.2.2) {Q : Qt} (hQ : ∀ K : Mm, qR M K → md K (-1) 0 → skR (K.1 195) (M.1 194) m → Q (some (.int (b01 (soB (TR n nw p h0 0 ca W (fun m => valL m (lw 0).1 (lw 0).2) (fun m => valL m (lw 1).1 (lw 1).2)) (zsc 0 (lvO z (fun _ => 0) 6)) (kbR M m) tm ce mu al ng L)))) ly K) : Mt G l mX12_isSet (9, 0, 0, false) [.ref 149, .int z] ly N Q := by
  refine Mt.of (lv := [some (.ref 149), some (.int z)]) rfl ?_
  have hRN : RW ly N.2.2 := by rw [hq.1]; exact hR
  refine Rn.aload_n dX12_isSet_0 rfl ?_
  refine Rn.iload_n dX12_isSet_1 rfl ?_
  refine Rn.callV1 dX12_isSet_2 vX12_496 (rc149 hRN) (by decide) rfl (rvWith (M := M) (N := N) (x := (-1)) (z := z) (kp := 0) (Q := fun v0 ly0 K => v0 = none ∧ ly0 = ly ∧ Rt M K nw 0 nf (-1) 0 (zsc 0 (lvO z (fun _ => 0) 6)) fc fk ∧ K.1 171 1 = 0 ∧ K.1 195 = N.1 195) hm hS hq hR (fun K a c d => ⟨rfl, rfl, a, c, d⟩)) (by decide) ⟨(Nat.le_of_ble_eq_true rfl), (Nat.le_of_ble_eq_true rfl), (Nat.le_of_ble_eq_true rfl)⟩ (fun h => by cases h) (fun v1 ly1 N1 ⟨q1, q2, hT1, hb1, hz1⟩ => ?_)
  rw [q1, q2]
  have hRN1 : RW ly N1.2.2 := by rw [hT1.1.1]; exact hR
  have hz1b : skR (N1.1 195) (M.1 194) m := by rw [hz1]; exact hz
  have hE1 := hT1.ev2 (K := N1) hS (fun a _ _ => rfl) hb1 (by decide) (by decide) (by decide) (by decide) hca
  refine Rn.aload_n dX12_isSet_5 rfl ?_
  refine Rn.callV0 dX12_isSet_6 vX12_520 (rc149 hRN1) (by decide) rfl (rvSo (M := M) (N := N1) (Q := fun v0 ly0 K => v0 = some (.int (b01 (soB (TR n nw p h0 0 ca W (fun m => valL m (lw 0).1 (lw 0).2) (fun m => valL m (lw 1).1 (lw 1).2)) (zsc 0 (lvO z (fun _ => 0) 6)) (kbR M m) tm ce mu al ng L))) ∧ ly0 = ly ∧ qR M K ∧ md K (-1) 0 ∧ K.1 195 = N1.1 195) hG hT1.1 hz1b hE1 hT1.2.1.2.2.1 hT1.2.2.1 (by omega) hR (fun K a c d => ⟨rfl, rfl, a, ⟨(d 55 (by decide)).trans hT1.2.1.1, (d 56 (by decide)).trans hT1.2.1.2.1, (d 57 (by decide)).trans hT1.2.1.2.2.1, (d 62 (by decide)).trans hT1.2.1.2.2.2⟩, c⟩)) (by decide) ⟨(Nat.le_of_ble_eq_true rfl), (Nat.le_of_ble_eq_true rfl), (Nat.le_of_ble_eq_true rfl)⟩ (fun h => by cases h) (fun v1 ly1 N2 ⟨q1, q2, hq2, hm2, hz2⟩ => ?_)
  rw [q1, q2]
  have hRN2 : RW ly N2.2.2 := by rw [hq2.1]; exact hR
  exact Rn.iret (ty := .boolean) dX12_isSet_9 rfl (nar01 (b01_01 _)) (hQ N2 hq2 hm2 (by rw [hz2]; exact hz1b))
