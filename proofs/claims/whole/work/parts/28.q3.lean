/-- only the crowd's walkers count -/
theorem pasF_J {n nw : Nat} {su ss hd gl het bl upo : Int32} {ca wt bt fr wy sy wt' bt' fr' wy' sy' : Nat → Int32} {pv sv : (Nat → Int32) → Int64} {s : Sc} (h : ∀ w, w < nw → wt w = wt' w ∧ bt w = bt' w ∧ fr w = fr' w ∧ wy w = wy' w ∧ sy w = sy' w) : pasF n nw su ss hd gl het bl upo ca wt bt fr wy sy pv sv s = pasF n nw su ss hd gl het bl upo ca wt' bt' fr' wy' sy' pv sv s := by
  unfold pasF
  have e : ∀ s5 : W5, itF (wkG (nI n) s.2.2.2.2.2.2.1 het s.2.2.2.2.2.1 upo s.1 wt bt fr wy sy pv sv) nw s5 = itF (wkG (nI n) s.2.2.2.2.2.2.1 het s.2.2.2.2.2.1 upo s.1 wt' bt' fr' wy' sy' pv sv) nw s5 := fun s5 => itF_E (E := Eq) rfl nw (fun i a b hi hab => by
    obtain ⟨e1, e2, e3, e4, e5⟩ := h i hi
    subst hab
    unfold wkG stF
    rw [e1, e2, e3, e4, e5])
  rw [e]
def Jc (x y : Int32) : Nat → Nat → Int32 := fun k _ => if k = 1 then x else if k = 2 then y else if k = 4 then 1 else 0
theorem TG_J {I : Nat → Nat → Int32} {pl n nw : Nat} {J J' : Nat → Nat → Int32} {u nu v nv : Nat} {het bl upo : Int32} {ca : Nat → Int32} (h : ∀ w, w < nw → J 1 w = J' 1 w ∧ J 2 w = J' 2 w ∧ J 3 w = J' 3 w ∧ J 4 w = J' 4 w ∧ J 5 w = J' 5 w) : TG I pl n nw J u nu v nv het bl upo ca = TG I pl n nw J' u nu v nv het bl upo ca := by
  funext s
  exact pasF_J h
/-- the worst beat of the first k, its height -/
def fbS (T : Nat → Sc → Sc) (s : Sc) (n N : Nat) : Nat → Int32 × Int32
  | 0 => (1, -1)
  | k + 1 => if hgS (T (k + 1)) s n N ≤ (fbS T s n N k).2 then fbS T s n N k else (nI (k + 1), hgS (T (k + 1)) s n N)
theorem Rn.lveq {G : Gx} {l : Launch} {d : Md} {b : Bq} {pc : Nat} {lv lv2 : List (Option Value)} {st : List Value} {ly : Ly} {M : Mm} {Q : Qt} (h : lv = lv2) (k : Rn G l d b pc lv2 st ly M Q) : Rn G l d b pc lv st ly M Q := h ▸ k
theorem tX11_forbidden {G : Gx} {l : Launch} {ly : Ly} {M : Mm} {pl n nw nu nv nf : Nat} {x y z : Int32} (hXS : XS ly M pl n nw nu nv) (hF : M.1 87 0 = nI nf ∧ nf ≤ 8 ∧ ∀ i, i < nf → vp_in (M.1 88 i) 12) {Q : Qt} (hQ : (¬ ((1 ≤ x ∧ x ≤ 64) ∧ (1 ≤ y ∧ y ≤ 30) ∧ (0 ≤ z ∧ z ≤ 1)) → Q (some (.int (-1))) ly M) ∧ (∀ N : Nat, 1 ≤ N → N ≤ 64 → x = nI N → (1 ≤ y ∧ y ≤ 30) → (0 ≤ z ∧ z ≤ 1) → ∀ M' : Mm, quX M M' → Q (some (.int (if z = 0 then (fbS (fun b => TG M.1 pl n 1 (Jc y (nI b)) (pl + 18) nu (pl + 21) nv (M.1 75 4) 0 1 (M.1 90)) (zsc (M.1 75 15) (fun _ => 0)) n N 9).1 else (fbS (fun b => TG M.1 pl n 1 (Jc y (nI b)) (pl + 18) nu (pl + 21) nv (M.1 75 4) 0 1 (M.1 90)) (zsc (M.1 75 15) (fun _ => 0)) n N 9).2))) ly M')) : Mt G l mX11_forbidden (7, 0, 0, false) [.ref 0, .int x, .int y, .int z] ly M Q := by
  have hXS0 := hXS
  obtain ⟨hX, hpl, hp7, ⟨n0, n1, n2, n3⟩, ⟨hn, hn2, hn12⟩, ⟨hw1, hw2, hw6⟩, ⟨hu1, hu2, hv1, hv2⟩, hgl, hbb⟩ := hXS
  refine Mt.of (lv := [some (.ref 0), some (.int x), some (.int y), some (.int z), none, none, none, none]) rfl ?_
  refine Rn.iload_n dX11_forbidden_0 rfl ?_
  refine Rn.iconstv (v := 1) dX11_forbidden_1 ic_1 ?_
  refine Rn.bipushv (v := 64) dX11_forbidden_2 bp_64 ?_
  refine Rn.callS3 dX11_forbidden_4 vX11_295 (tX11_isIn) (by decide) ⟨(Nat.le_of_ble_eq_true rfl), (Nat.le_of_ble_eq_true rfl), (Nat.le_of_ble_eq_true rfl)⟩ (fun h => by cases h) (fun v1 ly1 M1 ⟨q1, q2, q3⟩ => ?_)
  rw [q1, q2, q3]
  refine Rn.if_eq dX11_forbidden_7 (fun g1 => ?_) (fun g1 => ?_)
  · skip
    refine Rn.iconstv (v := -1) dX11_forbidden_29 ic_m1 ?_
    exact Rn.iret (ty := .int) dX11_forbidden_30 rfl rfl (hQ.1 (fun h => inR_1.elim (fun k => k.2 h.1) (fun k => absurd (k.1.symm.trans g1) (by decide))))
  · skip
    obtain ⟨N, hN1, hN2, rfl⟩ : ∃ j : Nat, 1 ≤ j ∧ j ≤ 64 ∧ x = nI j := (inR_1 (x := x) (lo := 1) (hi := 64)).elim (fun k => absurd k.1 g1) (fun k => nat_of (b := 64) (k := 64) rfl (by decide) k.2.1 k.2.2)
    refine Rn.iload_n dX11_forbidden_10 rfl ?_
    refine Rn.iconstv (v := 1) dX11_forbidden_11 ic_1 ?_
    refine Rn.bipushv (v := 30) dX11_forbidden_12 bp_30 ?_
    refine Rn.callS3 dX11_forbidden_14 vX11_295 (tX11_isIn) (by decide) ⟨(Nat.le_of_ble_eq_true rfl), (Nat.le_of_ble_eq_true rfl), (Nat.le_of_ble_eq_true rfl)⟩ (fun h => by cases h) (fun v1 ly1 M1 ⟨q1, q2, q3⟩ => ?_)
    rw [q1, q2, q3]
    refine Rn.if_eq dX11_forbidden_17 (fun g2 => ?_) (fun g2 => ?_)
    · skip
      refine Rn.iconstv (v := -1) dX11_forbidden_29 ic_m1 ?_
      exact Rn.iret (ty := .int) dX11_forbidden_30 rfl rfl (hQ.1 (fun h => inR_1.elim (fun k => k.2 h.2.1) (fun k => absurd (k.1.symm.trans g2) (by decide))))
    · skip
      have g2h : 1 ≤ y ∧ y ≤ 30 := (inR_1 (x := y) (lo := 1) (hi := 30)).elim (fun k => absurd k.1 g2) (fun k => k.2)
      refine Rn.iload_n dX11_forbidden_20 rfl ?_
      refine Rn.iconstv (v := 0) dX11_forbidden_21 ic_0 ?_
      refine Rn.iconstv (v := 1) dX11_forbidden_22 ic_1 ?_
      refine Rn.callS3 dX11_forbidden_23 vX11_295 (tX11_isIn) (by decide) ⟨(Nat.le_of_ble_eq_true rfl), (Nat.le_of_ble_eq_true rfl), (Nat.le_of_ble_eq_true rfl)⟩ (fun h => by cases h) (fun v1 ly1 M1 ⟨q1, q2, q3⟩ => ?_)
      rw [q1, q2, q3]
      refine Rn.if_ne dX11_forbidden_26 (fun g3 => ?_) (fun g3 => ?_)
      · skip
        have g3h : 0 ≤ z ∧ z ≤ 1 := (inR_1 (x := z) (lo := 0) (hi := 1)).elim (fun k => absurd k.1 g3) (fun k => k.2)
        refine Rn.iconstv (v := 1) dX11_forbidden_31 ic_1 ?_
        refine Rn.istore (lv' := [some (.ref 0), some (.int (nI N)), some (.int y), some (.int z), some (.int 1), none, none, none]) dX11_forbidden_32 (by decide) rfl ?_
        refine Rn.iconstv (v := -1) dX11_forbidden_34 ic_m1 ?_
        refine Rn.istore (lv' := [some (.ref 0), some (.int (nI N)), some (.int y), some (.int z), some (.int 1), some (.int (-1)), none, none]) dX11_forbidden_35 (by decide) rfl ?_
        refine Rn.iconstv (v := 1) dX11_forbidden_37 ic_1 ?_
        refine Rn.istore (lv' := [some (.ref 0), some (.int (nI N)), some (.int y), some (.int z), some (.int 1), some (.int (-1)), some (.int 1), none]) dX11_forbidden_38 (by decide) rfl ?_
        have hQ2 := hQ.2 N hN1 hN2 rfl g2h g3h
        have loop : ∀ (k i : Nat) (N1 : Mm), i + k = 9 → quX M N1 → Rn G l mX11_forbidden (7, 0, 0, false) 40 [some (.ref 0), some (.int (nI N)), some (.int y), some (.int z), some (.int ((fbS (fun b => TG M.1 pl n 1 (Jc y (nI b)) (pl + 18) nu (pl + 21) nv (M.1 75 4) 0 1 (M.1 90)) (zsc (M.1 75 15) (fun _ => 0)) n N i).1)), some (.int ((fbS (fun b => TG M.1 pl n 1 (Jc y (nI b)) (pl + 18) nu (pl + 21) nv (M.1 75 4) 0 1 (M.1 90)) (zsc (M.1 75 15) (fun _ => 0)) n N i).2)), some (.int (nI (i + 1))), none] [] ly N1 Q := by
          intro k
          induction k with
          | zero =>
            intro i N1 hi hq1
            obtain rfl : i = 9 := by omega
            have hXN1 := (hq1).xw hX
            have hplN1 : N1.2.2 0 3 = some pl := ((hq1).2.2 0 3 (by decide)).trans hpl
            have hnN1 : N1.1 pl 0 = nI n := (congrFun ((hq1).p0 hp7) 0).trans hn
            have hw1N1 : N1.1 (pl + 1) 0 = nI nw := (congrFun ((hq1).pk hp7 (k := 1) (by decide)) 0).trans hw1
            refine Rn.iload dX11_forbidden_40 rfl ?_
            refine Rn.bipushv (v := 9) dX11_forbidden_42 bp_9 ?_
            refine Rn.icmp_gt dX11_forbidden_44 (fun hc => ?_) (fun hc => ?_)
            · skip
              refine Rn.iload_n dX11_forbidden_117 rfl ?_
              refine Rn.if_ne dX11_forbidden_118 (fun hz => ?_) (fun hz => ?_)
              · skip
                refine Rn.iload dX11_forbidden_126 rfl ?_
                exact Rn.iret (ty := .int) dX11_forbidden_128 rfl rfl (by have h := hQ2 N1 hq1; rw [if_neg hz] at h; exact h)
              · skip
                refine Rn.iload dX11_forbidden_121 rfl ?_
                refine Rn.goto dX11_forbidden_123 ?_
                exact Rn.iret (ty := .int) dX11_forbidden_128 rfl rfl (by have h := hQ2 N1 hq1; rw [if_pos hz] at h; exact h)
            · skip
              exact absurd (show (9 : Int32) < nI (9 + 1) by decide) hc
          | succ k ih =>
            intro i N1 hi hq1
            have hXN1 := (hq1).xw hX
            have hplN1 : N1.2.2 0 3 = some pl := ((hq1).2.2 0 3 (by decide)).trans hpl
            have hnN1 : N1.1 pl 0 = nI n := (congrFun ((hq1).p0 hp7) 0).trans hn
            have hw1N1 : N1.1 (pl + 1) 0 = nI nw := (congrFun ((hq1).pk hp7 (k := 1) (by decide)) 0).trans hw1
            refine Rn.iload dX11_forbidden_40 rfl ?_
            refine Rn.bipushv (v := 9) dX11_forbidden_42 bp_9 ?_
            refine Rn.icmp_gt dX11_forbidden_44 (fun hc => ?_) (fun hc => ?_)
            · skip
              exact absurd hc (Int32.not_lt.mpr ((nI_leI (a := i + 1) (b := 9) (by omega) (by decide)).mpr (by omega)))
            · skip
              refine Rn.aload_n dX11_forbidden_47 rfl ?_
              refine Rn.callV0 dX11_forbidden_48 vX11_328 (xc0 hXN1) (by decide) rfl (trRest (Q := fun v0 ly0 M0 => v0 = none ∧ ly0 = ly ∧ Tr ly M M0 pl n (pl + 7) nw (fun k => M.1 (pl + 7 + k)) (pl + 18) nu (pl + 21) nv (M.1 75 4) 0 1 (M.1 90) nf (M.1 88) (M.1 89) (zsc (M.1 75 15) (fun _ => 0)) ∧ quT N1 M0) hXS0 hF.1 hq1 (fun K h u => ⟨rfl, rfl, h, u⟩)) (by decide) ⟨(Nat.le_of_ble_eq_true rfl), (Nat.le_of_ble_eq_true rfl), (Nat.le_of_ble_eq_true rfl)⟩ (fun h => by cases h) (fun v1 ly1 N2 ⟨q1, q2, hT2, hU2⟩ => ?_)
              rw [q1, q2]
              have hXN2 := (hT2.1).xw hX
              have hplN2 : N2.2.2 0 3 = some pl := ((hT2.1).2.2 0 3 (by decide)).trans hpl
              have hnN2 : N2.1 pl 0 = nI n := (congrFun ((hT2.1).p0 hp7) 0).trans hn
              have hw1N2 : N2.1 (pl + 1) 0 = nI nw := (congrFun ((hT2.1).pk hp7 (k := 1) (by decide)) 0).trans hw1
              refine Rn.aload_n dX11_forbidden_51 rfl ?_
              refine Rn.getR dX11_forbidden_52 fX11_73 rfl (xc0 hXN2) (show N2.2.2 0 13 = some 138 from (xp0_13 hXN2)) ?_
              refine Rn.iconstv (v := 0) dX11_forbidden_55 ic_0 ?_
              refine Rn.putI dX11_forbidden_56 fX11_331 rfl rfl rfl (xc138 hXN2) ?_
              refine Rn.aload_n dX11_forbidden_59 rfl ?_
              refine Rn.getR dX11_forbidden_60 fX11_73 rfl (xc0 hXN2) (show N2.2.2 0 13 = some 138 from (xp0_13 hXN2)) ?_
              refine Rn.iload_n dX11_forbidden_63 rfl ?_
              refine Rn.iload dX11_forbidden_64 rfl ?_
              refine Rn.iconstv (v := 0) dX11_forbidden_66 ic_0 ?_
              refine Rn.iconstv (v := 1) dX11_forbidden_67 ic_1 ?_
              refine Rn.iconstv (v := 0) dX11_forbidden_68 ic_0 ?_
              refine Rn.callV5 dX11_forbidden_69 vX11_332 (xc138 hXN2) (by decide) rfl (tX0_add (M := sI N2 138 (upd (N2.1 138) 0 0)) (a := 138) (k := 0) (xCrowd138 (M := sI N2 138 (upd (N2.1 138) 0 0)) hXN2) rfl (by decide)) (by decide) ⟨(Nat.le_of_ble_eq_true rfl), (Nat.le_of_ble_eq_true rfl), (Nat.le_of_ble_eq_true rfl)⟩ (fun h => by cases h) (fun v1 ly1 M1 ⟨q1, q2, q3⟩ => ?_)
              rw [q1, q2, q3]
              generalize hK : (sI (sI (sI (sI (sI (sI (sI N2 138 (upd (N2.1 138) 0 0)) (138 + 1) (upd ((sI N2 138 (upd (N2.1 138) 0 0)).1 (138 + 1)) 0 y)) (138 + 2) (upd ((sI N2 138 (upd (N2.1 138) 0 0)).1 (138 + 2)) 0 (nI (i + 1)))) (138 + 3) (upd ((sI N2 138 (upd (N2.1 138) 0 0)).1 (138 + 3)) 0 0)) (138 + 4) (upd ((sI N2 138 (upd (N2.1 138) 0 0)).1 (138 + 4)) 0 1)) (138 + 5) (upd ((sI N2 138 (upd (N2.1 138) 0 0)).1 (138 + 5)) 0 0)) 138 (upd ((sI N2 138 (upd (N2.1 138) 0 0)).1 138) 0 (nI (0 + 1)))) = K
              have k0 : K.1 138 0 = nI 1 := by rw [← hK]; rfl
              have k1 : K.1 139 = upd (N2.1 139) 0 y := by rw [← hK]; rfl
              have k2 : K.1 140 = upd (N2.1 140) 0 (nI (i + 1)) := by rw [← hK]; rfl
              have k3 : K.1 141 = upd (N2.1 141) 0 0 := by rw [← hK]; rfl
              have k4 : K.1 142 = upd (N2.1 142) 0 1 := by rw [← hK]; rfl
              have k5 : K.1 143 = upd (N2.1 143) 0 0 := by rw [← hK]; rfl
              have kR : K.2.2 = N2.2.2 := by rw [← hK]; rfl
              have ko : ∀ k, (k < 138 ∨ 143 < k) → K.1 k = N2.1 k := by intro k hk; rw [← hK]; exact (sI_ne (by omega)).trans ((sI_ne (by omega)).trans ((sI_ne (by omega)).trans ((sI_ne (by omega)).trans ((sI_ne (by omega)).trans ((sI_ne (by omega)).trans (sI_ne (by omega)))))))
              have kq : quX M K := hT2.1.tr2 ⟨fun k _ _ _ h _ _ => ko k h, fun j _ => congrFun (ko 0 (by omega)) j, fun k j _ => by rw [kR]⟩
              have hT3 : Tr ly M K pl n (pl + 7) nw (fun k => M.1 (pl + 7 + k)) (pl + 18) nu (pl + 21) nv (M.1 75 4) 0 1 (M.1 90) nf (M.1 88) (M.1 89) (zsc (M.1 75 15) (fun _ => 0)) := Tr.out hXS0.ok hT2 kq kR (fun k _ _ => ko k (by omega)) (fun k _ => ko (pl + 7 + k) (by omega))
              have kok : okT ly M pl n 138 1 (pl + 18) nu (pl + 21) nv := ⟨hX, hp7, ⟨hn, hn12⟩, Or.inr rfl, by decide, Or.inl rfl, ⟨hu1, hu2⟩, Or.inl rfl, ⟨hv1, hv2⟩, hgl⟩
              have hXK := (kq).xw hX
              have hplK : K.2.2 0 3 = some pl := ((kq).2.2 0 3 (by decide)).trans hpl
              have hnK : K.1 pl 0 = nI n := (congrFun ((kq).p0 hp7) 0).trans hn
              have hw1K : K.1 (pl + 1) 0 = nI nw := (congrFun ((kq).pk hp7 (k := 1) (by decide)) 0).trans hw1
              refine Rn.aload_n dX11_forbidden_72 rfl ?_
              refine Rn.getR dX11_forbidden_73 fX11_43 rfl (xc0 hXK) (show K.2.2 0 6 = some 92 from (xp0_6 hXK)) ?_
              refine Rn.aload_n dX11_forbidden_76 rfl ?_
              refine Rn.getR dX11_forbidden_77 fX11_73 rfl (xc0 hXK) (show K.2.2 0 13 = some 138 from (xp0_13 hXK)) ?_
              refine Rn.putR dX11_forbidden_80 fX11_335 rfl rfl (by decide +kernel) (xc92 hXK) ?_
              have hT4m : Tr ly M (sR K 92 (va_up (K.2.2 92) 1 (some 138))) pl n 138 1 (fun k => if k = 1 then upd (N2.1 139) 0 y else if k = 2 then upd (N2.1 140) 0 (nI (i + 1)) else if k = 3 then upd (N2.1 141) 0 0 else if k = 4 then upd (N2.1 142) 0 1 else upd (N2.1 143) 0 0) (pl + 18) nu (pl + 21) nv (M.1 75 4) 0 1 (M.1 90) nf (M.1 88) (M.1 89) (zsc (M.1 75 15) (fun _ => 0)) := Tr.s_c hXS0.ok hT3 (J' := fun k => if k = 1 then upd (N2.1 139) 0 y else if k = 2 then upd (N2.1 140) 0 (nI (i + 1)) else if k = 3 then upd (N2.1 141) 0 0 else if k = 4 then upd (N2.1 142) 0 1 else upd (N2.1 143) 0 0) (w' := 1) k0 k1 k2 k3 k4 k5
              revert hT4m
              generalize (sR K 92 (va_up (K.2.2 92) 1 (some 138))) = N4
              intro hT4m
              have hT4 : Tr ly M N4 pl n 138 1 (fun k => if k = 1 then upd (N2.1 139) 0 y else if k = 2 then upd (N2.1 140) 0 (nI (i + 1)) else if k = 3 then upd (N2.1 141) 0 0 else if k = 4 then upd (N2.1 142) 0 1 else upd (N2.1 143) 0 0) (pl + 18) nu (pl + 21) nv (M.1 75 4) 0 1 (M.1 90) nf (M.1 88) (M.1 89) (zsc (M.1 75 15) (fun _ => 0)) := hT4m
              have hXN4 := (hT4.1).xw hX
              have hplN4 : N4.2.2 0 3 = some pl := ((hT4.1).2.2 0 3 (by decide)).trans hpl
              have hnN4 : N4.1 pl 0 = nI n := (congrFun ((hT4.1).p0 hp7) 0).trans hn
              have hw1N4 : N4.1 (pl + 1) 0 = nI nw := (congrFun ((hT4.1).pk hp7 (k := 1) (by decide)) 0).trans hw1
              refine Rn.aload_n dX11_forbidden_83 rfl ?_
              refine Rn.getR dX11_forbidden_84 fX11_43 rfl (xc0 hXN4) (show N4.2.2 0 6 = some 92 from (xp0_6 hXN4)) ?_
              refine Rn.iload_n dX11_forbidden_87 rfl ?_
              refine Rn.ldcw dX11_forbidden_88 kX11_269 ?_
              refine Rn.callV2 dX11_forbidden_91 vX11_303 (xc92 hXN4) (by decide) rfl (trHighAll (Q := fun v0 ly0 M0 => v0 = some (.int (hgS (TG M.1 pl n 1 (fun k => if k = 1 then upd (N2.1 139) 0 y else if k = 2 then upd (N2.1 140) 0 (nI (i + 1)) else if k = 3 then upd (N2.1 141) 0 0 else if k = 4 then upd (N2.1 142) 0 1 else upd (N2.1 143) 0 0) (pl + 18) nu (pl + 21) nv (M.1 75 4) 0 1 (M.1 90)) (zsc (M.1 75 15) (fun _ => 0)) n N)) ∧ ly0 = ly ∧ quX M M0 ∧ quT N4 M0) (by omega) kok hT4 (fun K h u => ⟨rfl, rfl, h, u⟩)) (by decide) ⟨(Nat.le_of_ble_eq_true rfl), (Nat.le_of_ble_eq_true rfl), (Nat.le_of_ble_eq_true rfl)⟩ (fun h => by cases h) (fun v1 ly1 N5 ⟨q1, q2, hq5, hU5⟩ => ?_)
              rw [q1, q2]
              have hXN5 := (hq5).xw hX
              have hplN5 : N5.2.2 0 3 = some pl := ((hq5).2.2 0 3 (by decide)).trans hpl
              have hnN5 : N5.1 pl 0 = nI n := (congrFun ((hq5).p0 hp7) 0).trans hn
              have hw1N5 : N5.1 (pl + 1) 0 = nI nw := (congrFun ((hq5).pk hp7 (k := 1) (by decide)) 0).trans hw1
              refine Rn.topI (y := hgS (TG M.1 pl n 1 (Jc y (nI (i + 1))) (pl + 18) nu (pl + 21) nv (M.1 75 4) 0 1 (M.1 90)) (zsc (M.1 75 15) (fun _ => 0)) n N) (by rw [TG_J (J' := Jc y (nI (i + 1))) (fun w hw => by have e0 : w = 0 := (by omega); subst e0; exact ⟨rfl, rfl, rfl, rfl, rfl⟩)]) ?_
              refine Rn.istore (lv' := [some (.ref 0), some (.int (nI N)), some (.int y), some (.int z), some (.int ((fbS (fun b => TG M.1 pl n 1 (Jc y (nI b)) (pl + 18) nu (pl + 21) nv (M.1 75 4) 0 1 (M.1 90)) (zsc (M.1 75 15) (fun _ => 0)) n N i).1)), some (.int ((fbS (fun b => TG M.1 pl n 1 (Jc y (nI b)) (pl + 18) nu (pl + 21) nv (M.1 75 4) 0 1 (M.1 90)) (zsc (M.1 75 15) (fun _ => 0)) n N i).2)), some (.int (nI (i + 1))), some (.int (hgS (TG M.1 pl n 1 (Jc y (nI (i + 1))) (pl + 18) nu (pl + 21) nv (M.1 75 4) 0 1 (M.1 90)) (zsc (M.1 75 15) (fun _ => 0)) n N))]) dX11_forbidden_94 (by decide) rfl ?_
              refine Rn.iload dX11_forbidden_96 rfl ?_
              refine Rn.iload dX11_forbidden_98 rfl ?_
              refine Rn.icmp_le dX11_forbidden_100 (fun hd => ?_) (fun hd => ?_)
              · skip
                have e : (fbS (fun b => TG M.1 pl n 1 (Jc y (nI b)) (pl + 18) nu (pl + 21) nv (M.1 75 4) 0 1 (M.1 90)) (zsc (M.1 75 15) (fun _ => 0)) n N (i + 1)) = fbS (fun b => TG M.1 pl n 1 (Jc y (nI b)) (pl + 18) nu (pl + 21) nv (M.1 75 4) 0 1 (M.1 90)) (zsc (M.1 75 15) (fun _ => 0)) n N i := if_pos hd
                refine Rn.forget (lv' := [some (.ref 0), some (.int (nI N)), some (.int y), some (.int z), some (.int ((fbS (fun b => TG M.1 pl n 1 (Jc y (nI b)) (pl + 18) nu (pl + 21) nv (M.1 75 4) 0 1 (M.1 90)) (zsc (M.1 75 15) (fun _ => 0)) n N i).1)), some (.int ((fbS (fun b => TG M.1 pl n 1 (Jc y (nI b)) (pl + 18) nu (pl + 21) nv (M.1 75 4) 0 1 (M.1 90)) (zsc (M.1 75 15) (fun _ => 0)) n N i).2)), some (.int (nI (i + 1))), none]) (⟨rfl, ⟨rfl, ⟨rfl, ⟨rfl, ⟨rfl, ⟨rfl, ⟨rfl, trivial⟩⟩⟩⟩⟩⟩⟩) ?_
                rw [← e]
                refine Rn.iincN (lv' := [some (.ref 0), some (.int (nI N)), some (.int y), some (.int z), some (.int ((fbS (fun b => TG M.1 pl n 1 (Jc y (nI b)) (pl + 18) nu (pl + 21) nv (M.1 75 4) 0 1 (M.1 90)) (zsc (M.1 75 15) (fun _ => 0)) n N (i + 1)).1)), some (.int ((fbS (fun b => TG M.1 pl n 1 (Jc y (nI b)) (pl + 18) nu (pl + 21) nv (M.1 75 4) 0 1 (M.1 90)) (zsc (M.1 75 15) (fun _ => 0)) n N (i + 1)).2)), some (.int (nI ((i + 1) + 1))), none]) dX11_forbidden_111 rfl (by decide) rfl ?_
                refine Rn.goto dX11_forbidden_114 ?_
                exact ih (i + 1) N5 (by omega) hq5
              · skip
                have e : (fbS (fun b => TG M.1 pl n 1 (Jc y (nI b)) (pl + 18) nu (pl + 21) nv (M.1 75 4) 0 1 (M.1 90)) (zsc (M.1 75 15) (fun _ => 0)) n N (i + 1)) = (nI (i + 1), hgS (TG M.1 pl n 1 (Jc y (nI (i + 1))) (pl + 18) nu (pl + 21) nv (M.1 75 4) 0 1 (M.1 90)) (zsc (M.1 75 15) (fun _ => 0)) n N) := if_neg hd
                refine Rn.iload dX11_forbidden_103 rfl ?_
                refine Rn.istore (lv' := [some (.ref 0), some (.int (nI N)), some (.int y), some (.int z), some (.int ((fbS (fun b => TG M.1 pl n 1 (Jc y (nI b)) (pl + 18) nu (pl + 21) nv (M.1 75 4) 0 1 (M.1 90)) (zsc (M.1 75 15) (fun _ => 0)) n N i).1)), some (.int (hgS (TG M.1 pl n 1 (Jc y (nI (i + 1))) (pl + 18) nu (pl + 21) nv (M.1 75 4) 0 1 (M.1 90)) (zsc (M.1 75 15) (fun _ => 0)) n N)), some (.int (nI (i + 1))), some (.int (hgS (TG M.1 pl n 1 (Jc y (nI (i + 1))) (pl + 18) nu (pl + 21) nv (M.1 75 4) 0 1 (M.1 90)) (zsc (M.1 75 15) (fun _ => 0)) n N))]) dX11_forbidden_105 (by decide) rfl ?_
                refine Rn.iload dX11_forbidden_107 rfl ?_
                refine Rn.istore (lv' := [some (.ref 0), some (.int (nI N)), some (.int y), some (.int z), some (.int (nI (i + 1))), some (.int (hgS (TG M.1 pl n 1 (Jc y (nI (i + 1))) (pl + 18) nu (pl + 21) nv (M.1 75 4) 0 1 (M.1 90)) (zsc (M.1 75 15) (fun _ => 0)) n N)), some (.int (nI (i + 1))), some (.int (hgS (TG M.1 pl n 1 (Jc y (nI (i + 1))) (pl + 18) nu (pl + 21) nv (M.1 75 4) 0 1 (M.1 90)) (zsc (M.1 75 15) (fun _ => 0)) n N))]) dX11_forbidden_109 (by decide) rfl ?_
                refine Rn.forget (lv' := [some (.ref 0), some (.int (nI N)), some (.int y), some (.int z), some (.int (nI (i + 1))), some (.int (hgS (TG M.1 pl n 1 (Jc y (nI (i + 1))) (pl + 18) nu (pl + 21) nv (M.1 75 4) 0 1 (M.1 90)) (zsc (M.1 75 15) (fun _ => 0)) n N)), some (.int (nI (i + 1))), none]) (⟨rfl, ⟨rfl, ⟨rfl, ⟨rfl, ⟨rfl, ⟨rfl, ⟨rfl, trivial⟩⟩⟩⟩⟩⟩⟩) ?_
                refine Rn.lveq (lv2 := [some (.ref 0), some (.int (nI N)), some (.int y), some (.int z), some (.int ((fbS (fun b => TG M.1 pl n 1 (Jc y (nI b)) (pl + 18) nu (pl + 21) nv (M.1 75 4) 0 1 (M.1 90)) (zsc (M.1 75 15) (fun _ => 0)) n N (i + 1)).1)), some (.int ((fbS (fun b => TG M.1 pl n 1 (Jc y (nI b)) (pl + 18) nu (pl + 21) nv (M.1 75 4) 0 1 (M.1 90)) (zsc (M.1 75 15) (fun _ => 0)) n N (i + 1)).2)), some (.int (nI (i + 1))), none]) (by rw [e]) ?_
                refine Rn.iincN (lv' := [some (.ref 0), some (.int (nI N)), some (.int y), some (.int z), some (.int ((fbS (fun b => TG M.1 pl n 1 (Jc y (nI b)) (pl + 18) nu (pl + 21) nv (M.1 75 4) 0 1 (M.1 90)) (zsc (M.1 75 15) (fun _ => 0)) n N (i + 1)).1)), some (.int ((fbS (fun b => TG M.1 pl n 1 (Jc y (nI b)) (pl + 18) nu (pl + 21) nv (M.1 75 4) 0 1 (M.1 90)) (zsc (M.1 75 15) (fun _ => 0)) n N (i + 1)).2)), some (.int (nI ((i + 1) + 1))), none]) dX11_forbidden_111 rfl (by decide) rfl ?_
                refine Rn.goto dX11_forbidden_114 ?_
                exact ih (i + 1) N5 (by omega) hq5
        exact loop 9 0 M (by omega) quX.rf
      · skip
        refine Rn.iconstv (v := -1) dX11_forbidden_29 ic_m1 ?_
        exact Rn.iret (ty := .int) dX11_forbidden_30 rfl rfl (hQ.1 (fun h => inR_1.elim (fun k => k.2 h.2.2) (fun k => absurd (k.1.symm.trans g3) (by decide))))
