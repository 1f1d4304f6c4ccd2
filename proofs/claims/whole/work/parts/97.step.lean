theorem nI_sub1 {a : Nat} (h : 0 < a) : nI a - 1 = nI (a - 1) := by
  obtain ⟨m, rfl⟩ : ∃ m, a = m + 1 := ⟨a - 1, by omega⟩
  exact nI_subk m 1
theorem nt01 {b : Bool} : (if b = true then (1 : Int32) else 0) = 0 ↔ b = false := by cases b <;> decide
theorem sgClose {G : Gx} {l : Launch} {ly : Ly} {M : Mm} {q pq i c op : Nat} {em wt : List Int32} {cb : Nat → Bool} {nt : Bool} {kd nv : Nat → Int32} {nx : Nat → Nat} (hC : CMs ly M q pq (i, c, em, wt, op, cb, false, nt)) (ho : 0 < op) (hk : kd i = 36) (hX : XW ly M.2.2) : Mt G l mX3_readSign (2, 0, 0, false) [.ref 5, .int (36)] ly M (fun v ly2 K => ly2 = ly ∧ ((∃ k, mst kd nv nx (i, c, em, wt, op, cb, false, nt) = .inl (mNo k i) ∧ v = some (.int k) ∧ ¬ k = 0 ∧ K = M) ∨ (∃ t : Ms, mst kd nv nx (i, c, em, wt, op, cb, false, nt) = .inr t ∧ t.i = nx i ∧ v = some (.int 0) ∧ cmF M K q pq ∧ CMs ly K q pq t))) := by
  refine Mt.of (lv := [some (.ref 5), some (.int 36), none, none]) rfl ?_
  obtain ⟨h1, ⟨h2, h3, h4, h5⟩, ⟨h6, h7, h8, h9_, h10⟩, ⟨h11, h12⟩, h13, h14, h15, h16⟩ := id hC
  have hq7 := h6.1
  have b1 : wt.length ≤ nO wt + op := h1.2.2.1
  have b2 : em.length + nO wt ≤ c := h1.1
  have b3 : c ≤ 64 := h1.2.1
  have b4 : op ≤ 8 := h1.2.2.2.1
  refine Rn.iload_n dX3_readSign_0 rfl ?_
  refine Rn.bipushv (v := 36) dX3_readSign_1 bp_36 ?_
  refine Rn.icmp_ne dX3_readSign_3 (fun h9 => (by first | exact absurd h9 (by decide) | exact absurd (by decide) h9)) (fun h9 => ?_)
  refine Rn.aload_n dX3_readSign_6 rfl ?_
  refine Rn.getI dX3_readSign_7 fX3_36 rfl (xc5 hX) ?_
  refine Rn.topI (y := nI op) (h13) ?_
  refine Rn.if_le dX3_readSign_10 (fun h9 => absurd ((nI_leI (a := op) (b := 0) (by omega) (by decide)).mp h9) (by omega)) (fun h9 => ?_)
  refine Rn.aload_n dX3_readSign_13 rfl ?_
  refine Rn.iconstv (v := 1) dX3_readSign_14 ic_1 ?_
  refine Rn.callV1 dX3_readSign_15 vX3_54 (xc5 hX) (by decide) rfl (pdC (M := M) (b := 1) (i2 := i) (by decide) hC hX) (by decide) ⟨(Nat.le_of_ble_eq_true rfl), (Nat.le_of_ble_eq_true rfl), (Nat.le_of_ble_eq_true rfl)⟩ (fun h => by cases h) (fun v1 ly1 N1 ⟨q1, q2, f1, g1⟩ => ?_)
  rw [q1, q2]
  have hXN1 : XW ly N1.2.2 := by rw [f1.1]; exact hX
  have g54 : N1.1 5 4 = nI (pdL 1 wt em).1.length := g1.2.2.2.1.1
  have g55 : N1.1 5 5 = nI op := g1.2.2.2.2.1
  refine Rn.aload_n dX3_readSign_18 rfl ?_
  refine Rn.iconstv (v := 0) dX3_readSign_19 ic_0 ?_
  refine Rn.aload_n dX3_readSign_20 rfl ?_
  refine Rn.getI dX3_readSign_21 fX3_33 rfl (xc5 hXN1) ?_
  refine Rn.topI (y := nI (pdL 1 wt em).1.length) (g54) ?_
  refine Rn.iconstv (v := 1) dX3_readSign_24 ic_1 ?_
  refine Rn.isub dX3_readSign_25 ?_
  refine Rn.mmax dX3_readSign_26 jX3_86 jw_mmax ⟨(Nat.le_of_ble_eq_true rfl), (Nat.le_of_ble_eq_true rfl)⟩ ?_
  refine Rn.topI (y := nI (pdL 1 wt em).1.tail.length) (by rw [mx0_pred (n := (pdL 1 wt em).1.length) (by have := g1.1.2.2.1; have := g1.1.1; have := g1.1.2.1; have e1 : (pdL 1 wt em).1.length ≤ nO (pdL 1 wt em).1 + op := g1.1.2.2.1; have e2 : (pdL 1 wt em).2.length + nO (pdL 1 wt em).1 ≤ c := g1.1.1; omega), List.length_tail]) ?_
  refine Rn.putI dX3_readSign_29 fX3_33 rfl rfl rfl (xc5 hXN1) ?_
  refine Rn.aload_n dX3_readSign_32 rfl ?_
  refine Rn.dup dX3_readSign_33 rfl ?_
  refine Rn.getI dX3_readSign_34 fX3_36 rfl (xc5 hXN1) ?_
  refine Rn.topI (y := nI op) (g55) ?_
  refine Rn.iconstv (v := 1) dX3_readSign_37 ic_1 ?_
  refine Rn.isub dX3_readSign_38 ?_
  refine Rn.topI (y := nI (op - 1)) (nI_sub1 ho) ?_
  refine Rn.putI dX3_readSign_39 fX3_36 rfl rfl rfl (xc5 hXN1) ?_
  refine Rn.meq (M2 := sI N1 5 (upd (upd (N1.1 5) 4 (nI (pdL 1 wt em).1.tail.length)) 5 (nI (op - 1)))) (sI_sI _ _ _ _) ?_
  refine Rn.iconstv (v := 0) dX3_readSign_42 ic_0 ?_
  refine Rn.iret (ty := .int) dX3_readSign_43 rfl rfl ⟨rfl, Or.inr ⟨_, mst_cl hk ho, rfl, rfl, f1.tr (cmF.f5 h3), ?_⟩⟩
  obtain ⟨k1, ⟨k2, k3, k4, k5⟩, ⟨k6, k7, k8, k9, k10⟩, ⟨k11, k12⟩, k13, k14, k15, k16⟩ := g1
  refine ⟨mI_cl h1 ho, ⟨k2, k3, k4, ?_⟩, ⟨k6, k7, k8, ?_, ?_⟩, ⟨rfl, ?_⟩, rfl, k14, k15, k16⟩
  · rw [sI_ne (show pq ≠ 5 by omega)]; exact k5
  · rw [sI_ne (show q ≠ 5 by omega)]; exact k9
  · rw [sI_ne (show q + 1 ≠ 5 by omega)]; exact k10
  · rw [sI_ne (show 6 ≠ 5 by decide)]
    show lsR (N1.1 6) (pdL 1 wt em).1.tail
    revert k12
    cases (pdL 1 wt em).1 with
    | nil => exact fun h => h
    | cons x u => exact fun h => h.2
theorem sgNo1 {G : Gx} {l : Launch} {ly : Ly} {M : Mm} {q pq i c op : Nat} {em wt : List Int32} {cb : Nat → Bool} {nt : Bool} {kd nv : Nat → Int32} {nx : Nat → Nat} (hC : CMs ly M q pq (i, c, em, wt, op, cb, false, nt)) (hn1 : ¬ (op = 0 ∧ kd i = 37)) (hn2 : ¬ (kd i = 36 ∧ 0 < op)) (hno : bnd (kd i) = 0 ∨ kd i = 18 ∨ (bnd (kd i) = 4 ∧ cb op = true)) (hX : XW ly M.2.2) : Mt G l mX3_readSign (2, 0, 0, false) [.ref 5, .int (kd i)] ly M (fun v ly2 K => ly2 = ly ∧ ((∃ k, mst kd nv nx (i, c, em, wt, op, cb, false, nt) = .inl (mNo k i) ∧ v = some (.int k) ∧ ¬ k = 0 ∧ K = M) ∨ (∃ t : Ms, mst kd nv nx (i, c, em, wt, op, cb, false, nt) = .inr t ∧ t.i = nx i ∧ v = some (.int 0) ∧ cmF M K q pq ∧ CMs ly K q pq t))) := by
  refine Mt.of (lv := [some (.ref 5), some (.int (kd i)), none, none]) rfl ?_
  obtain ⟨h1, ⟨h2, h3, h4, h5⟩, ⟨h6, h7, h8, h9_, h10⟩, ⟨h11, h12⟩, h13, h14, h15, h16⟩ := id hC
  have hq7 := h6.1
  have b1 : wt.length ≤ nO wt + op := h1.2.2.1
  have b2 : em.length + nO wt ≤ c := h1.1
  have b3 : c ≤ 64 := h1.2.1
  have b4 : op ≤ 8 := h1.2.2.2.1
  have hst := mst_no (kd := kd) (nv := nv) (nx := nx) (c := c) (em := em) (wt := wt) (nt := nt) hn1 hn2 hno
  have tail : Rn G l mX3_readSign (2, 0, 0, false) 44 [some (.ref 5), some (.int (kd i)), none, none] [] ly M (fun v ly2 K => ly2 = ly ∧ ((∃ k, mst kd nv nx (i, c, em, wt, op, cb, false, nt) = .inl (mNo k i) ∧ v = some (.int k) ∧ ¬ k = 0 ∧ K = M) ∨ (∃ t : Ms, mst kd nv nx (i, c, em, wt, op, cb, false, nt) = .inr t ∧ t.i = nx i ∧ v = some (.int 0) ∧ cmF M K q pq ∧ CMs ly K q pq t))) := by
    refine Rn.iload_n dX3_readSign_44 rfl ?_
    refine Rn.callS1 dX3_readSign_45 vX3_92 (tX3_bindingOf (M := M) (x := kd i)) (by decide) ⟨(Nat.le_of_ble_eq_true rfl), (Nat.le_of_ble_eq_true rfl), (Nat.le_of_ble_eq_true rfl)⟩ (fun h => by cases h) (fun v1 ly1 M1 ⟨q1, q2, q3⟩ => ?_)
    rw [q1, q2, q3]
    refine Rn.istore_n (lv' := [some (.ref 5), some (.int (kd i)), some (.int (bnd (kd i))), none]) dX3_readSign_48 (by decide) rfl ?_
    refine Rn.iload_n dX3_readSign_49 rfl ?_
    refine Rn.iconstv (v := 4) dX3_readSign_50 ic_4 ?_
    by_cases h4b : bnd (kd i) = 4
    · skip
      refine Rn.icmp_ne dX3_readSign_51 (fun h9 => absurd h4b h9) (fun h9 => ?_)
      refine Rn.iconstv (v := 1) dX3_readSign_54 ic_1 ?_
      refine Rn.goto dX3_readSign_55 ?_
      refine Rn.istore_n (lv' := [some (.ref 5), some (.int (kd i)), some (.int (bnd (kd i))), some (.int 1)]) dX3_readSign_59 (by decide) rfl ?_
      refine Rn.iload_n dX3_readSign_60 rfl ?_
      refine Rn.if_eq dX3_readSign_61 (fun h9 => absurd (h4b.symm.trans h9) (by decide)) (fun h9 => ?_)
      refine Rn.iload_n dX3_readSign_64 rfl ?_
      refine Rn.bipushv (v := 18) dX3_readSign_65 bp_18 ?_
      have hb : cb op = true := hno.elim (fun g => absurd (h4b.symm.trans g) (by decide)) (fun g => g.elim (fun g => absurd (h4b.symm.trans ((bnd_of _).2.2.2.2.2.1 g)) (by decide)) (fun g => g.2))
      refine Rn.icmp_eq dX3_readSign_67 (fun h9 => absurd (h4b.symm.trans ((bnd_of _).2.2.2.2.2.1 h9)) (by decide)) (fun h9 => ?_)
      refine Rn.iload_n dX3_readSign_70 rfl ?_
      refine Rn.if_eq dX3_readSign_71 (fun h9 => (by first | exact absurd h9 (by decide) | exact absurd (by decide) h9)) (fun h9 => ?_)
      refine Rn.aload_n dX3_readSign_74 rfl ?_
      refine Rn.getI dX3_readSign_75 fX3_39 rfl (xc5 hX) ?_
      refine Rn.aload_n dX3_readSign_78 rfl ?_
      refine Rn.getI dX3_readSign_79 fX3_36 rfl (xc5 hX) ?_
      refine Rn.topI (y := nI op) (h13) ?_
      refine Rn.ishr dX3_readSign_82 ?_
      refine Rn.iconstv (v := 1) dX3_readSign_83 ic_1 ?_
      refine Rn.iand dX3_readSign_84 ?_
      refine Rn.iconstv (v := 1) dX3_readSign_85 ic_1 ?_
      refine Rn.icmp_ne dX3_readSign_86 (fun h9 => absurd ((h14 op b4).mpr hb) h9) (fun h9 => ?_)
      refine Rn.iconstv (v := 1) dX3_readSign_89 ic_1 ?_
      exact Rn.iret (ty := .int) dX3_readSign_90 rfl rfl ⟨rfl, Or.inl ⟨1, hst, rfl, by decide, rfl⟩⟩
    · skip
      refine Rn.icmp_ne dX3_readSign_51 (fun h9 => ?_) (fun h9 => absurd h9 h4b)
      refine Rn.iconstv (v := 0) dX3_readSign_58 ic_0 ?_
      refine Rn.istore_n (lv' := [some (.ref 5), some (.int (kd i)), some (.int (bnd (kd i))), some (.int 0)]) dX3_readSign_59 (by decide) rfl ?_
      refine Rn.iload_n dX3_readSign_60 rfl ?_
      refine Rn.if_eq dX3_readSign_61 (fun h0 => ?_) (fun h0 => ?_)
      · skip
        refine Rn.iconstv (v := 1) dX3_readSign_89 ic_1 ?_
        exact Rn.iret (ty := .int) dX3_readSign_90 rfl rfl ⟨rfl, Or.inl ⟨1, hst, rfl, by decide, rfl⟩⟩
      · skip
        refine Rn.iload_n dX3_readSign_64 rfl ?_
        refine Rn.bipushv (v := 18) dX3_readSign_65 bp_18 ?_
        refine Rn.icmp_eq dX3_readSign_67 (fun h9 => ?_) (fun h9 => absurd (hno.elim (fun g => absurd g h0) (fun g => g.elim (fun g => absurd g h9) (fun g => absurd g.1 h4b))) id)
        refine Rn.iconstv (v := 1) dX3_readSign_89 ic_1 ?_
        exact Rn.iret (ty := .int) dX3_readSign_90 rfl rfl ⟨rfl, Or.inl ⟨1, hst, rfl, by decide, rfl⟩⟩
  refine Rn.iload_n dX3_readSign_0 rfl ?_
  refine Rn.bipushv (v := 36) dX3_readSign_1 bp_36 ?_
  refine Rn.icmp_ne dX3_readSign_3 (fun h36 => ?_) (fun h36 => ?_)
  · skip
    exact tail
  · skip
    refine Rn.aload_n dX3_readSign_6 rfl ?_
    refine Rn.getI dX3_readSign_7 fX3_36 rfl (xc5 hX) ?_
    refine Rn.topI (y := nI op) (h13) ?_
    refine Rn.if_le dX3_readSign_10 (fun h9 => ?_) (fun h9 => absurd (show nI op ≤ 0 by rw [show op = 0 from Nat.eq_zero_of_not_pos (fun g => hn2 ⟨h36, g⟩)]; decide) h9)
    exact tail
theorem sgNo2 {G : Gx} {l : Launch} {ly : Ly} {M : Mm} {q pq i c op : Nat} {em wt : List Int32} {cb : Nat → Bool} {nt : Bool} {kd nv : Nat → Int32} {nx : Nat → Nat} (hC : CMs ly M q pq (i, c, em, wt, op, cb, false, nt)) (hb0 : ¬ bnd (kd i) = 0) (h18 : ¬ kd i = 18) (h4c : ¬ (bnd (kd i) = 4 ∧ cb op = true)) (hc : c = 64) (hX : XW ly M.2.2) : Mt G l mX3_readSign (2, 0, 0, false) [.ref 5, .int (kd i)] ly M (fun v ly2 K => ly2 = ly ∧ ((∃ k, mst kd nv nx (i, c, em, wt, op, cb, false, nt) = .inl (mNo k i) ∧ v = some (.int k) ∧ ¬ k = 0 ∧ K = M) ∨ (∃ t : Ms, mst kd nv nx (i, c, em, wt, op, cb, false, nt) = .inr t ∧ t.i = nx i ∧ v = some (.int 0) ∧ cmF M K q pq ∧ CMs ly K q pq t))) := by
  refine Mt.of (lv := [some (.ref 5), some (.int (kd i)), none, none]) rfl ?_
  obtain ⟨h1, ⟨h2, h3, h4, h5⟩, ⟨h6, h7, h8, h9_, h10⟩, ⟨h11, h12⟩, h13, h14, h15, h16⟩ := id hC
  have hq7 := h6.1
  have b1 : wt.length ≤ nO wt + op := h1.2.2.1
  have b2 : em.length + nO wt ≤ c := h1.1
  have b3 : c ≤ 64 := h1.2.1
  have b4 : op ≤ 8 := h1.2.2.2.1
  have hst := mst_64 (kd := kd) (nv := nv) (nx := nx) (em := em) (wt := wt) (nt := nt) hb0 h18 h4c hc
  have hn36 : ¬ kd i = 36 := fun g => hb0 ((bnd_of _).2.2.2.2.2.2.1 g)
  refine Rn.iload_n dX3_readSign_0 rfl ?_
  refine Rn.bipushv (v := 36) dX3_readSign_1 bp_36 ?_
  refine Rn.icmp_ne dX3_readSign_3 (fun h9 => ?_) (fun h9 => absurd h9 hn36)
  refine Rn.iload_n dX3_readSign_44 rfl ?_
  refine Rn.callS1 dX3_readSign_45 vX3_92 (tX3_bindingOf (M := M) (x := kd i)) (by decide) ⟨(Nat.le_of_ble_eq_true rfl), (Nat.le_of_ble_eq_true rfl), (Nat.le_of_ble_eq_true rfl)⟩ (fun h => by cases h) (fun v1 ly1 M1 ⟨q1, q2, q3⟩ => ?_)
  rw [q1, q2, q3]
  refine Rn.istore_n (lv' := [some (.ref 5), some (.int (kd i)), some (.int (bnd (kd i))), none]) dX3_readSign_48 (by decide) rfl ?_
  refine Rn.iload_n dX3_readSign_49 rfl ?_
  refine Rn.iconstv (v := 4) dX3_readSign_50 ic_4 ?_
  by_cases h4b : bnd (kd i) = 4
  · skip
    refine Rn.icmp_ne dX3_readSign_51 (fun h9 => absurd h4b h9) (fun h9 => ?_)
    refine Rn.iconstv (v := 1) dX3_readSign_54 ic_1 ?_
    refine Rn.goto dX3_readSign_55 ?_
    refine Rn.istore_n (lv' := [some (.ref 5), some (.int (kd i)), some (.int (bnd (kd i))), some (.int 1)]) dX3_readSign_59 (by decide) rfl ?_
    refine Rn.iload_n dX3_readSign_60 rfl ?_
    refine Rn.if_eq dX3_readSign_61 (fun h9 => absurd h9 hb0) (fun h9 => ?_)
    refine Rn.iload_n dX3_readSign_64 rfl ?_
    refine Rn.bipushv (v := 18) dX3_readSign_65 bp_18 ?_
    refine Rn.icmp_eq dX3_readSign_67 (fun h9 => absurd h9 h18) (fun h9 => ?_)
    refine Rn.iload_n dX3_readSign_70 rfl ?_
    refine Rn.if_eq dX3_readSign_71 (fun h9 => (by first | exact absurd h9 (by decide) | exact absurd (by decide) h9)) (fun h9 => ?_)
    refine Rn.aload_n dX3_readSign_74 rfl ?_
    refine Rn.getI dX3_readSign_75 fX3_39 rfl (xc5 hX) ?_
    refine Rn.aload_n dX3_readSign_78 rfl ?_
    refine Rn.getI dX3_readSign_79 fX3_36 rfl (xc5 hX) ?_
    refine Rn.topI (y := nI op) (h13) ?_
    refine Rn.ishr dX3_readSign_82 ?_
    refine Rn.iconstv (v := 1) dX3_readSign_83 ic_1 ?_
    refine Rn.iand dX3_readSign_84 ?_
    refine Rn.iconstv (v := 1) dX3_readSign_85 ic_1 ?_
    refine Rn.icmp_ne dX3_readSign_86 (fun h9 => ?_) (fun h9 => absurd ⟨h4b, (h14 op b4).mp h9⟩ h4c)
    refine Rn.aload_n dX3_readSign_91 rfl ?_
    refine Rn.getR dX3_readSign_92 fX3_19 rfl (xc5 hX) (show M.2.2 5 1 = some pq from h2) ?_
    refine Rn.getI dX3_readSign_95 fX3_72 rfl h4 ?_
    refine Rn.topI (y := nI c) (h5) ?_
    refine Rn.bipushv (v := 64) dX3_readSign_98 bp_64 ?_
    refine Rn.icmp_lt dX3_readSign_100 (fun h9 => absurd ((nI_ltI (a := c) (b := 64) (by omega) (by decide)).mp h9) (by omega)) (fun h9 => ?_)
    refine Rn.iconstv (v := 2) dX3_readSign_103 ic_2 ?_
    exact Rn.iret (ty := .int) dX3_readSign_104 rfl rfl ⟨rfl, Or.inl ⟨2, hst, rfl, by decide, rfl⟩⟩
  · skip
    refine Rn.icmp_ne dX3_readSign_51 (fun h9 => ?_) (fun h9 => absurd h9 h4b)
    refine Rn.iconstv (v := 0) dX3_readSign_58 ic_0 ?_
    refine Rn.istore_n (lv' := [some (.ref 5), some (.int (kd i)), some (.int (bnd (kd i))), some (.int 0)]) dX3_readSign_59 (by decide) rfl ?_
    refine Rn.iload_n dX3_readSign_60 rfl ?_
    refine Rn.if_eq dX3_readSign_61 (fun h9 => absurd h9 hb0) (fun h9 => ?_)
    refine Rn.iload_n dX3_readSign_64 rfl ?_
    refine Rn.bipushv (v := 18) dX3_readSign_65 bp_18 ?_
    refine Rn.icmp_eq dX3_readSign_67 (fun h9 => absurd h9 h18) (fun h9 => ?_)
    refine Rn.iload_n dX3_readSign_70 rfl ?_
    refine Rn.if_eq dX3_readSign_71 (fun h9 => ?_) (fun h9 => (by first | exact absurd h9 (by decide) | exact absurd (by decide) h9))
    refine Rn.aload_n dX3_readSign_91 rfl ?_
    refine Rn.getR dX3_readSign_92 fX3_19 rfl (xc5 hX) (show M.2.2 5 1 = some pq from h2) ?_
    refine Rn.getI dX3_readSign_95 fX3_72 rfl h4 ?_
    refine Rn.topI (y := nI c) (h5) ?_
    refine Rn.bipushv (v := 64) dX3_readSign_98 bp_64 ?_
    refine Rn.icmp_lt dX3_readSign_100 (fun h9 => absurd ((nI_ltI (a := c) (b := 64) (by omega) (by decide)).mp h9) (by omega)) (fun h9 => ?_)
    refine Rn.iconstv (v := 2) dX3_readSign_103 ic_2 ?_
    exact Rn.iret (ty := .int) dX3_readSign_104 rfl rfl ⟨rfl, Or.inl ⟨2, hst, rfl, by decide, rfl⟩⟩
theorem sgGo {G : Gx} {l : Launch} {ly : Ly} {M : Mm} {q pq i c op : Nat} {em wt : List Int32} {cb : Nat → Bool} {nt : Bool} {kd nv : Nat → Int32} {nx : Nat → Nat} (hC : CMs ly M q pq (i, c, em, wt, op, cb, false, nt)) (hb0 : ¬ bnd (kd i) = 0) (h18 : ¬ kd i = 18) (h4c : ¬ (bnd (kd i) = 4 ∧ cb op = true)) (hc : c < 64) (hX : XW ly M.2.2) : Mt G l mX3_readSign (2, 0, 0, false) [.ref 5, .int (kd i)] ly M (fun v ly2 K => ly2 = ly ∧ ((∃ k, mst kd nv nx (i, c, em, wt, op, cb, false, nt) = .inl (mNo k i) ∧ v = some (.int k) ∧ ¬ k = 0 ∧ K = M) ∨ (∃ t : Ms, mst kd nv nx (i, c, em, wt, op, cb, false, nt) = .inr t ∧ t.i = nx i ∧ v = some (.int 0) ∧ cmF M K q pq ∧ CMs ly K q pq t))) := by
  refine Mt.of (lv := [some (.ref 5), some (.int (kd i)), none, none]) rfl ?_
  obtain ⟨h1, ⟨h2, h3, h4, h5⟩, ⟨h6, h7, h8, h9_, h10⟩, ⟨h11, h12⟩, h13, h14, h15, h16⟩ := id hC
  have hq7 := h6.1
  have b1 : wt.length ≤ nO wt + op := h1.2.2.1
  have b2 : em.length + nO wt ≤ c := h1.1
  have b3 : c ≤ 64 := h1.2.1
  have b4 : op ≤ 8 := h1.2.2.2.1
  have hst := mst_sg (kd := kd) (nv := nv) (nx := nx) (em := em) (wt := wt) (nt := nt) hb0 h18 h4c hc
  have hn36 : ¬ kd i = 36 := fun g => hb0 ((bnd_of _).2.2.2.2.2.2.1 g)
  have hb1 : 1 ≤ bnd (kd i) := by
    rcases (bnd_of (kd i)).1 with g | g | g | g | g | g | g
    · exact absurd g hb0
    all_goals (rw [g]; decide)
  have hn35 : ¬ kd i = 35 := fun g => hb0 (by rw [g]; decide)
  have hnI := mI_nt (i2 := nx i) (x := kd i) (cb2 := cb) (d2 := false) (t2 := nt) (mI_pd (i2 := i) (cb2 := cb) (d2 := false) (t2 := nt) hb1 h1) hc hn35 (Int32.not_lt.mpr hb1)
  have hC1 := CMs.kn (i2 := i) hC hc
  have hwl : (pdL (bnd (kd i)) wt em).1.length < 72 := by have := hnI.2.2.1; have e2 := hnI.1; have e3 : (pdL (bnd (kd i)) wt em).1.length + 1 ≤ nO (kd i :: (pdL (bnd (kd i)) wt em).1) + op := this; have e4 : (pdL (bnd (kd i)) wt em).2.length + nO (kd i :: (pdL (bnd (kd i)) wt em).1) ≤ c + 1 := e2; omega
  refine Rn.iload_n dX3_readSign_0 rfl ?_
  refine Rn.bipushv (v := 36) dX3_readSign_1 bp_36 ?_
  refine Rn.icmp_ne dX3_readSign_3 (fun h9 => ?_) (fun h9 => absurd h9 hn36)
  refine Rn.iload_n dX3_readSign_44 rfl ?_
  refine Rn.callS1 dX3_readSign_45 vX3_92 (tX3_bindingOf (M := M) (x := kd i)) (by decide) ⟨(Nat.le_of_ble_eq_true rfl), (Nat.le_of_ble_eq_true rfl), (Nat.le_of_ble_eq_true rfl)⟩ (fun h => by cases h) (fun v1 ly1 M1 ⟨q1, q2, q3⟩ => ?_)
  rw [q1, q2, q3]
  refine Rn.istore_n (lv' := [some (.ref 5), some (.int (kd i)), some (.int (bnd (kd i))), none]) dX3_readSign_48 (by decide) rfl ?_
  refine Rn.iload_n dX3_readSign_49 rfl ?_
  refine Rn.iconstv (v := 4) dX3_readSign_50 ic_4 ?_
  by_cases h4b : bnd (kd i) = 4
  · skip
    refine Rn.icmp_ne dX3_readSign_51 (fun h9 => absurd h4b h9) (fun h9 => ?_)
    refine Rn.iconstv (v := 1) dX3_readSign_54 ic_1 ?_
    refine Rn.goto dX3_readSign_55 ?_
    refine Rn.istore_n (lv' := [some (.ref 5), some (.int (kd i)), some (.int (bnd (kd i))), some (.int 1)]) dX3_readSign_59 (by decide) rfl ?_
    refine Rn.iload_n dX3_readSign_60 rfl ?_
    refine Rn.if_eq dX3_readSign_61 (fun h9 => absurd h9 hb0) (fun h9 => ?_)
    refine Rn.iload_n dX3_readSign_64 rfl ?_
    refine Rn.bipushv (v := 18) dX3_readSign_65 bp_18 ?_
    refine Rn.icmp_eq dX3_readSign_67 (fun h9 => absurd h9 h18) (fun h9 => ?_)
    refine Rn.iload_n dX3_readSign_70 rfl ?_
    refine Rn.if_eq dX3_readSign_71 (fun h9 => (by first | exact absurd h9 (by decide) | exact absurd (by decide) h9)) (fun h9 => ?_)
    refine Rn.aload_n dX3_readSign_74 rfl ?_
    refine Rn.getI dX3_readSign_75 fX3_39 rfl (xc5 hX) ?_
    refine Rn.aload_n dX3_readSign_78 rfl ?_
    refine Rn.getI dX3_readSign_79 fX3_36 rfl (xc5 hX) ?_
    refine Rn.topI (y := nI op) (h13) ?_
    refine Rn.ishr dX3_readSign_82 ?_
    refine Rn.iconstv (v := 1) dX3_readSign_83 ic_1 ?_
    refine Rn.iand dX3_readSign_84 ?_
    refine Rn.iconstv (v := 1) dX3_readSign_85 ic_1 ?_
    refine Rn.icmp_ne dX3_readSign_86 (fun h9 => ?_) (fun h9 => absurd ⟨h4b, (h14 op b4).mp h9⟩ h4c)
    refine Rn.aload_n dX3_readSign_91 rfl ?_
    refine Rn.getR dX3_readSign_92 fX3_19 rfl (xc5 hX) (show M.2.2 5 1 = some pq from h2) ?_
    refine Rn.getI dX3_readSign_95 fX3_72 rfl h4 ?_
    refine Rn.topI (y := nI c) (h5) ?_
    refine Rn.bipushv (v := 64) dX3_readSign_98 bp_64 ?_
    refine Rn.icmp_lt dX3_readSign_100 (fun h9 => ?_) (fun h9 => absurd ((nI_ltI (a := c) (b := 64) (by omega) (by decide)).mpr hc) h9)
    refine Rn.aload_n dX3_readSign_105 rfl ?_
    refine Rn.getR dX3_readSign_106 fX3_19 rfl (xc5 hX) (show M.2.2 5 1 = some pq from h2) ?_
    refine Rn.dup dX3_readSign_109 rfl ?_
    refine Rn.getI dX3_readSign_110 fX3_72 rfl h4 ?_
    refine Rn.topI (y := nI c) (h5) ?_
    refine Rn.iconstv (v := 1) dX3_readSign_113 ic_1 ?_
    refine Rn.iadd dX3_readSign_114 ?_
    refine Rn.topI (y := nI (c + 1)) (nI_add c 1) ?_
    refine Rn.putI dX3_readSign_115 fX3_72 rfl rfl rfl h4 ?_
    obtain ⟨N1, e1⟩ : ∃ N9, N9 = sI M pq (upd (M.1 pq) 8 (nI (c + 1))) := ⟨_, rfl⟩
    rw [← e1]
    rw [← e1] at hC1
    have f1 : cmF M N1 q pq := by rw [e1]; exact cmF.kn
    have hXN1 : XW ly N1.2.2 := by rw [f1.1]; exact hX
    refine Rn.aload_n dX3_readSign_118 rfl ?_
    refine Rn.iload_n dX3_readSign_119 rfl ?_
    refine Rn.callV1 dX3_readSign_120 vX3_54 (xc5 hXN1) (by decide) rfl (pdC (M := N1) (i2 := i) hb1 hC1 hXN1) (by decide) ⟨(Nat.le_of_ble_eq_true rfl), (Nat.le_of_ble_eq_true rfl), (Nat.le_of_ble_eq_true rfl)⟩ (fun h => by cases h) (fun v1 ly1 N2 ⟨q1, q2, f2, hC2⟩ => ?_)
    rw [q1, q2]
    have g2 := f1.tr f2
    have hXN2 : XW ly N2.2.2 := by rw [g2.1]; exact hX
    refine Rn.aload_n dX3_readSign_123 rfl ?_
    refine Rn.iload_n dX3_readSign_124 rfl ?_
    refine Rn.callV1 dX3_readSign_125 vX3_80 (xc5 hXN2) (by decide) rfl (awC (M := N2) (i2 := nx i) hC2 hnI hwl hXN2) (by decide) ⟨(Nat.le_of_ble_eq_true rfl), (Nat.le_of_ble_eq_true rfl), (Nat.le_of_ble_eq_true rfl)⟩ (fun h => by cases h) (fun v1 ly1 N3 ⟨q1, q2, f3, hC3⟩ => ?_)
    rw [q1, q2]
    have g3 := g2.tr f3
    have hXN3 : XW ly N3.2.2 := by rw [g3.1]; exact hX
    have k55 : N3.1 5 5 = nI op := hC3.2.2.2.2.1
    have k56 := hC3.2.2.2.2.2.1
    have hno : ¬ (kd i = 17 ∨ kd i = 16) := fun g => ((bnd_of _).2.2.2.2.1 g).elim (fun g => absurd (h4b.symm.trans g) (by decide)) (fun g => absurd (h4b.symm.trans g) (by decide))
    rw [if_pos h4b, decide_eq_false hno] at hst
    refine Rn.aload_n dX3_readSign_128 rfl ?_
    refine Rn.iload_n dX3_readSign_129 rfl ?_
    refine Rn.bipushv (v := 17) dX3_readSign_130 bp_17 ?_
    refine Rn.icmp_eq dX3_readSign_132 (fun h9 => absurd (Or.inl h9) hno) (fun h9 => ?_)
    refine Rn.iload_n dX3_readSign_135 rfl ?_
    refine Rn.bipushv (v := 16) dX3_readSign_136 bp_16 ?_
    refine Rn.icmp_ne dX3_readSign_138 (fun h9 => ?_) (fun h9 => absurd h9 (fun g => hno (Or.inr g)))
    refine Rn.iconstv (v := 0) dX3_readSign_145 ic_0 ?_
    refine Rn.putZ dX3_readSign_146 fX3_46 rfl rfl rfl (by decide) (xc5 hXN3) ?_
    refine Rn.iload_n dX3_readSign_149 rfl ?_
    show Rn G l mX3_readSign (2, 0, 0, false) 150 [some (.ref 5), some (.int (kd i)), some (.int (bnd (kd i))), some (.int 1)] [.int 1] ly (sI N3 5 (upd (N3.1 5) 8 0)) (fun v ly2 K => ly2 = ly ∧ ((∃ k, mst kd nv nx (i, c, em, wt, op, cb, false, nt) = .inl (mNo k i) ∧ v = some (.int k) ∧ ¬ k = 0 ∧ K = M) ∨ (∃ t : Ms, mst kd nv nx (i, c, em, wt, op, cb, false, nt) = .inr t ∧ t.i = nx i ∧ v = some (.int 0) ∧ cmF M K q pq ∧ CMs ly K q pq t)))
    refine Rn.if_eq dX3_readSign_150 (fun h9 => (by first | exact absurd h9 (by decide) | exact absurd (by decide) h9)) (fun h9 => ?_)
    refine Rn.aload_n dX3_readSign_153 rfl ?_
    refine Rn.dup dX3_readSign_154 rfl ?_
    refine Rn.getI dX3_readSign_155 fX3_39 rfl (xc5 hXN3) ?_
    refine Rn.iconstv (v := 1) dX3_readSign_158 ic_1 ?_
    refine Rn.aload_n dX3_readSign_159 rfl ?_
    refine Rn.getI dX3_readSign_160 fX3_36 rfl (xc5 hXN3) ?_
    refine Rn.topI (y := nI op) (k55) ?_
    refine Rn.ishl dX3_readSign_163 ?_
    refine Rn.ior dX3_readSign_164 ?_
    refine Rn.putI dX3_readSign_165 fX3_39 rfl rfl rfl (xc5 hXN3) ?_
    refine Rn.meq (M2 := sI N3 5 (upd (upd (N3.1 5) 8 0) 6 ((N3.1 5 6) ||| (1 <<< ((nI op) &&& 31))))) (sI_sI _ _ _ _) ?_
    refine Rn.goto dX3_readSign_168 ?_
    refine Rn.aload_n dX3_readSign_195 rfl ?_
    refine Rn.iconstv (v := 1) dX3_readSign_196 ic_1 ?_
    refine Rn.putZ dX3_readSign_197 fX3_42 rfl rfl rfl (by decide) (xc5 hXN3) ?_
    refine Rn.meq (M2 := sI N3 5 (upd (upd (upd (N3.1 5) 8 0) 6 ((N3.1 5 6) ||| (1 <<< ((nI op) &&& 31)))) 7 1)) (sI_sI _ _ _ _) ?_
    refine Rn.iconstv (v := 0) dX3_readSign_200 ic_0 ?_
    exact Rn.iret (ty := .int) dX3_readSign_201 rfl rfl ⟨rfl, Or.inr ⟨_, hst, rfl, rfl, g3.tr (cmF.f5 h3), hC3.f5 rfl rfl (bit_set k56 b4) rfl rfl⟩⟩
  · skip
    refine Rn.icmp_ne dX3_readSign_51 (fun h9 => ?_) (fun h9 => absurd h9 h4b)
    refine Rn.iconstv (v := 0) dX3_readSign_58 ic_0 ?_
    refine Rn.istore_n (lv' := [some (.ref 5), some (.int (kd i)), some (.int (bnd (kd i))), some (.int 0)]) dX3_readSign_59 (by decide) rfl ?_
    refine Rn.iload_n dX3_readSign_60 rfl ?_
    refine Rn.if_eq dX3_readSign_61 (fun h9 => absurd h9 hb0) (fun h9 => ?_)
    refine Rn.iload_n dX3_readSign_64 rfl ?_
    refine Rn.bipushv (v := 18) dX3_readSign_65 bp_18 ?_
    refine Rn.icmp_eq dX3_readSign_67 (fun h9 => absurd h9 h18) (fun h9 => ?_)
    refine Rn.iload_n dX3_readSign_70 rfl ?_
    refine Rn.if_eq dX3_readSign_71 (fun h9 => ?_) (fun h9 => (by first | exact absurd h9 (by decide) | exact absurd (by decide) h9))
    refine Rn.aload_n dX3_readSign_91 rfl ?_
    refine Rn.getR dX3_readSign_92 fX3_19 rfl (xc5 hX) (show M.2.2 5 1 = some pq from h2) ?_
    refine Rn.getI dX3_readSign_95 fX3_72 rfl h4 ?_
    refine Rn.topI (y := nI c) (h5) ?_
    refine Rn.bipushv (v := 64) dX3_readSign_98 bp_64 ?_
    refine Rn.icmp_lt dX3_readSign_100 (fun h9 => ?_) (fun h9 => absurd ((nI_ltI (a := c) (b := 64) (by omega) (by decide)).mpr hc) h9)
    refine Rn.aload_n dX3_readSign_105 rfl ?_
    refine Rn.getR dX3_readSign_106 fX3_19 rfl (xc5 hX) (show M.2.2 5 1 = some pq from h2) ?_
    refine Rn.dup dX3_readSign_109 rfl ?_
    refine Rn.getI dX3_readSign_110 fX3_72 rfl h4 ?_
    refine Rn.topI (y := nI c) (h5) ?_
    refine Rn.iconstv (v := 1) dX3_readSign_113 ic_1 ?_
    refine Rn.iadd dX3_readSign_114 ?_
    refine Rn.topI (y := nI (c + 1)) (nI_add c 1) ?_
    refine Rn.putI dX3_readSign_115 fX3_72 rfl rfl rfl h4 ?_
    obtain ⟨N1, e1⟩ : ∃ N9, N9 = sI M pq (upd (M.1 pq) 8 (nI (c + 1))) := ⟨_, rfl⟩
    rw [← e1]
    rw [← e1] at hC1
    have f1 : cmF M N1 q pq := by rw [e1]; exact cmF.kn
    have hXN1 : XW ly N1.2.2 := by rw [f1.1]; exact hX
    refine Rn.aload_n dX3_readSign_118 rfl ?_
    refine Rn.iload_n dX3_readSign_119 rfl ?_
    refine Rn.callV1 dX3_readSign_120 vX3_54 (xc5 hXN1) (by decide) rfl (pdC (M := N1) (i2 := i) hb1 hC1 hXN1) (by decide) ⟨(Nat.le_of_ble_eq_true rfl), (Nat.le_of_ble_eq_true rfl), (Nat.le_of_ble_eq_true rfl)⟩ (fun h => by cases h) (fun v1 ly1 N2 ⟨q1, q2, f2, hC2⟩ => ?_)
    rw [q1, q2]
    have g2 := f1.tr f2
    have hXN2 : XW ly N2.2.2 := by rw [g2.1]; exact hX
    refine Rn.aload_n dX3_readSign_123 rfl ?_
    refine Rn.iload_n dX3_readSign_124 rfl ?_
    refine Rn.callV1 dX3_readSign_125 vX3_80 (xc5 hXN2) (by decide) rfl (awC (M := N2) (i2 := nx i) hC2 hnI hwl hXN2) (by decide) ⟨(Nat.le_of_ble_eq_true rfl), (Nat.le_of_ble_eq_true rfl), (Nat.le_of_ble_eq_true rfl)⟩ (fun h => by cases h) (fun v1 ly1 N3 ⟨q1, q2, f3, hC3⟩ => ?_)
    rw [q1, q2]
    have g3 := g2.tr f3
    have hXN3 : XW ly N3.2.2 := by rw [g3.1]; exact hX
    have k55 : N3.1 5 5 = nI op := hC3.2.2.2.2.1
    have k56 := hC3.2.2.2.2.2.1
    rw [if_neg h4b] at hst
    by_cases hao : kd i = 17 ∨ kd i = 16
    · skip
      rw [if_pos hao, decide_eq_true hao] at hst
      refine Rn.aload_n dX3_readSign_128 rfl ?_
      refine Rn.iload_n dX3_readSign_129 rfl ?_
      refine Rn.bipushv (v := 17) dX3_readSign_130 bp_17 ?_
      refine Rn.icmp_eq dX3_readSign_132 (fun h17 => ?_) (fun h17 => ?_)
      · skip
        refine Rn.iconstv (v := 1) dX3_readSign_141 ic_1 ?_
        refine Rn.goto dX3_readSign_142 ?_
        refine Rn.putZ dX3_readSign_146 fX3_46 rfl rfl rfl (by decide) (xc5 hXN3) ?_
        refine Rn.iload_n dX3_readSign_149 rfl ?_
        show Rn G l mX3_readSign (2, 0, 0, false) 150 [some (.ref 5), some (.int (kd i)), some (.int (bnd (kd i))), some (.int 0)] [.int 0] ly (sI N3 5 (upd (N3.1 5) 8 1)) (fun v ly2 K => ly2 = ly ∧ ((∃ k, mst kd nv nx (i, c, em, wt, op, cb, false, nt) = .inl (mNo k i) ∧ v = some (.int k) ∧ ¬ k = 0 ∧ K = M) ∨ (∃ t : Ms, mst kd nv nx (i, c, em, wt, op, cb, false, nt) = .inr t ∧ t.i = nx i ∧ v = some (.int 0) ∧ cmF M K q pq ∧ CMs ly K q pq t)))
        refine Rn.if_eq dX3_readSign_150 (fun h9 => ?_) (fun h9 => (by first | exact absurd h9 (by decide) | exact absurd (by decide) h9))
        refine Rn.aload_n dX3_readSign_171 rfl ?_
        refine Rn.getI dX3_readSign_172 fX3_46 rfl (xc5 hXN3) ?_
        show Rn G l mX3_readSign (2, 0, 0, false) 175 [some (.ref 5), some (.int (kd i)), some (.int (bnd (kd i))), some (.int 0)] [.int 1] ly (sI N3 5 (upd (N3.1 5) 8 1)) (fun v ly2 K => ly2 = ly ∧ ((∃ k, mst kd nv nx (i, c, em, wt, op, cb, false, nt) = .inl (mNo k i) ∧ v = some (.int k) ∧ ¬ k = 0 ∧ K = M) ∨ (∃ t : Ms, mst kd nv nx (i, c, em, wt, op, cb, false, nt) = .inr t ∧ t.i = nx i ∧ v = some (.int 0) ∧ cmF M K q pq ∧ CMs ly K q pq t)))
        refine Rn.if_eq dX3_readSign_175 (fun h9 => (by first | exact absurd h9 (by decide) | exact absurd (by decide) h9)) (fun h9 => ?_)
        refine Rn.aload_n dX3_readSign_178 rfl ?_
        refine Rn.dup dX3_readSign_179 rfl ?_
        refine Rn.getI dX3_readSign_180 fX3_39 rfl (xc5 hXN3) ?_
        refine Rn.iconstv (v := 1) dX3_readSign_183 ic_1 ?_
        refine Rn.aload_n dX3_readSign_184 rfl ?_
        refine Rn.getI dX3_readSign_185 fX3_36 rfl (xc5 hXN3) ?_
        refine Rn.topI (y := nI op) (k55) ?_
        refine Rn.ishl dX3_readSign_188 ?_
        refine Rn.iconstv (v := -1) dX3_readSign_189 ic_m1 ?_
        refine Rn.ixor dX3_readSign_190 ?_
        refine Rn.iand dX3_readSign_191 ?_
        refine Rn.putI dX3_readSign_192 fX3_39 rfl rfl rfl (xc5 hXN3) ?_
        refine Rn.meq (M2 := sI N3 5 (upd (upd (N3.1 5) 8 1) 6 ((N3.1 5 6) &&& ((1 <<< ((nI op) &&& 31)) ^^^ (-1))))) (sI_sI _ _ _ _) ?_
        refine Rn.aload_n dX3_readSign_195 rfl ?_
        refine Rn.iconstv (v := 1) dX3_readSign_196 ic_1 ?_
        refine Rn.putZ dX3_readSign_197 fX3_42 rfl rfl rfl (by decide) (xc5 hXN3) ?_
        refine Rn.meq (M2 := sI N3 5 (upd (upd (upd (N3.1 5) 8 1) 6 ((N3.1 5 6) &&& ((1 <<< ((nI op) &&& 31)) ^^^ (-1)))) 7 1)) (sI_sI _ _ _ _) ?_
        refine Rn.iconstv (v := 0) dX3_readSign_200 ic_0 ?_
        exact Rn.iret (ty := .int) dX3_readSign_201 rfl rfl ⟨rfl, Or.inr ⟨_, hst, rfl, rfl, g3.tr (cmF.f5 h3), hC3.f5 rfl rfl (bit_clr k56 b4) rfl rfl⟩⟩
      · skip
        refine Rn.iload_n dX3_readSign_135 rfl ?_
        refine Rn.bipushv (v := 16) dX3_readSign_136 bp_16 ?_
        refine Rn.icmp_ne dX3_readSign_138 (fun h9 => absurd (hao.elim (fun g => absurd g h17) id) h9) (fun h9 => ?_)
        refine Rn.iconstv (v := 1) dX3_readSign_141 ic_1 ?_
        refine Rn.goto dX3_readSign_142 ?_
        refine Rn.putZ dX3_readSign_146 fX3_46 rfl rfl rfl (by decide) (xc5 hXN3) ?_
        refine Rn.iload_n dX3_readSign_149 rfl ?_
        show Rn G l mX3_readSign (2, 0, 0, false) 150 [some (.ref 5), some (.int (kd i)), some (.int (bnd (kd i))), some (.int 0)] [.int 0] ly (sI N3 5 (upd (N3.1 5) 8 1)) (fun v ly2 K => ly2 = ly ∧ ((∃ k, mst kd nv nx (i, c, em, wt, op, cb, false, nt) = .inl (mNo k i) ∧ v = some (.int k) ∧ ¬ k = 0 ∧ K = M) ∨ (∃ t : Ms, mst kd nv nx (i, c, em, wt, op, cb, false, nt) = .inr t ∧ t.i = nx i ∧ v = some (.int 0) ∧ cmF M K q pq ∧ CMs ly K q pq t)))
        refine Rn.if_eq dX3_readSign_150 (fun h9 => ?_) (fun h9 => (by first | exact absurd h9 (by decide) | exact absurd (by decide) h9))
        refine Rn.aload_n dX3_readSign_171 rfl ?_
        refine Rn.getI dX3_readSign_172 fX3_46 rfl (xc5 hXN3) ?_
        show Rn G l mX3_readSign (2, 0, 0, false) 175 [some (.ref 5), some (.int (kd i)), some (.int (bnd (kd i))), some (.int 0)] [.int 1] ly (sI N3 5 (upd (N3.1 5) 8 1)) (fun v ly2 K => ly2 = ly ∧ ((∃ k, mst kd nv nx (i, c, em, wt, op, cb, false, nt) = .inl (mNo k i) ∧ v = some (.int k) ∧ ¬ k = 0 ∧ K = M) ∨ (∃ t : Ms, mst kd nv nx (i, c, em, wt, op, cb, false, nt) = .inr t ∧ t.i = nx i ∧ v = some (.int 0) ∧ cmF M K q pq ∧ CMs ly K q pq t)))
        refine Rn.if_eq dX3_readSign_175 (fun h9 => (by first | exact absurd h9 (by decide) | exact absurd (by decide) h9)) (fun h9 => ?_)
        refine Rn.aload_n dX3_readSign_178 rfl ?_
        refine Rn.dup dX3_readSign_179 rfl ?_
        refine Rn.getI dX3_readSign_180 fX3_39 rfl (xc5 hXN3) ?_
        refine Rn.iconstv (v := 1) dX3_readSign_183 ic_1 ?_
        refine Rn.aload_n dX3_readSign_184 rfl ?_
        refine Rn.getI dX3_readSign_185 fX3_36 rfl (xc5 hXN3) ?_
        refine Rn.topI (y := nI op) (k55) ?_
        refine Rn.ishl dX3_readSign_188 ?_
        refine Rn.iconstv (v := -1) dX3_readSign_189 ic_m1 ?_
        refine Rn.ixor dX3_readSign_190 ?_
        refine Rn.iand dX3_readSign_191 ?_
        refine Rn.putI dX3_readSign_192 fX3_39 rfl rfl rfl (xc5 hXN3) ?_
        refine Rn.meq (M2 := sI N3 5 (upd (upd (N3.1 5) 8 1) 6 ((N3.1 5 6) &&& ((1 <<< ((nI op) &&& 31)) ^^^ (-1))))) (sI_sI _ _ _ _) ?_
        refine Rn.aload_n dX3_readSign_195 rfl ?_
        refine Rn.iconstv (v := 1) dX3_readSign_196 ic_1 ?_
        refine Rn.putZ dX3_readSign_197 fX3_42 rfl rfl rfl (by decide) (xc5 hXN3) ?_
        refine Rn.meq (M2 := sI N3 5 (upd (upd (upd (N3.1 5) 8 1) 6 ((N3.1 5 6) &&& ((1 <<< ((nI op) &&& 31)) ^^^ (-1)))) 7 1)) (sI_sI _ _ _ _) ?_
        refine Rn.iconstv (v := 0) dX3_readSign_200 ic_0 ?_
        exact Rn.iret (ty := .int) dX3_readSign_201 rfl rfl ⟨rfl, Or.inr ⟨_, hst, rfl, rfl, g3.tr (cmF.f5 h3), hC3.f5 rfl rfl (bit_clr k56 b4) rfl rfl⟩⟩
    · skip
      rw [if_neg hao, decide_eq_false hao] at hst
      refine Rn.aload_n dX3_readSign_128 rfl ?_
      refine Rn.iload_n dX3_readSign_129 rfl ?_
      refine Rn.bipushv (v := 17) dX3_readSign_130 bp_17 ?_
      refine Rn.icmp_eq dX3_readSign_132 (fun h9 => absurd (Or.inl h9) hao) (fun h9 => ?_)
      refine Rn.iload_n dX3_readSign_135 rfl ?_
      refine Rn.bipushv (v := 16) dX3_readSign_136 bp_16 ?_
      refine Rn.icmp_ne dX3_readSign_138 (fun h9 => ?_) (fun h9 => absurd (Or.inr h9) hao)
      refine Rn.iconstv (v := 0) dX3_readSign_145 ic_0 ?_
      refine Rn.putZ dX3_readSign_146 fX3_46 rfl rfl rfl (by decide) (xc5 hXN3) ?_
      refine Rn.iload_n dX3_readSign_149 rfl ?_
      show Rn G l mX3_readSign (2, 0, 0, false) 150 [some (.ref 5), some (.int (kd i)), some (.int (bnd (kd i))), some (.int 0)] [.int 0] ly (sI N3 5 (upd (N3.1 5) 8 0)) (fun v ly2 K => ly2 = ly ∧ ((∃ k, mst kd nv nx (i, c, em, wt, op, cb, false, nt) = .inl (mNo k i) ∧ v = some (.int k) ∧ ¬ k = 0 ∧ K = M) ∨ (∃ t : Ms, mst kd nv nx (i, c, em, wt, op, cb, false, nt) = .inr t ∧ t.i = nx i ∧ v = some (.int 0) ∧ cmF M K q pq ∧ CMs ly K q pq t)))
      refine Rn.if_eq dX3_readSign_150 (fun h9 => ?_) (fun h9 => (by first | exact absurd h9 (by decide) | exact absurd (by decide) h9))
      refine Rn.aload_n dX3_readSign_171 rfl ?_
      refine Rn.getI dX3_readSign_172 fX3_46 rfl (xc5 hXN3) ?_
      show Rn G l mX3_readSign (2, 0, 0, false) 175 [some (.ref 5), some (.int (kd i)), some (.int (bnd (kd i))), some (.int 0)] [.int 0] ly (sI N3 5 (upd (N3.1 5) 8 0)) (fun v ly2 K => ly2 = ly ∧ ((∃ k, mst kd nv nx (i, c, em, wt, op, cb, false, nt) = .inl (mNo k i) ∧ v = some (.int k) ∧ ¬ k = 0 ∧ K = M) ∨ (∃ t : Ms, mst kd nv nx (i, c, em, wt, op, cb, false, nt) = .inr t ∧ t.i = nx i ∧ v = some (.int 0) ∧ cmF M K q pq ∧ CMs ly K q pq t)))
      refine Rn.if_eq dX3_readSign_175 (fun h9 => ?_) (fun h9 => (by first | exact absurd h9 (by decide) | exact absurd (by decide) h9))
      refine Rn.aload_n dX3_readSign_195 rfl ?_
      refine Rn.iconstv (v := 1) dX3_readSign_196 ic_1 ?_
      refine Rn.putZ dX3_readSign_197 fX3_42 rfl rfl rfl (by decide) (xc5 hXN3) ?_
      refine Rn.meq (M2 := sI N3 5 (upd (upd (N3.1 5) 8 0) 7 1)) (sI_sI _ _ _ _) ?_
      refine Rn.iconstv (v := 0) dX3_readSign_200 ic_0 ?_
      exact Rn.iret (ty := .int) dX3_readSign_201 rfl rfl ⟨rfl, Or.inr ⟨_, hst, rfl, rfl, g3.tr (cmF.f5 h3), hC3.f5 rfl rfl (k56) rfl rfl⟩⟩
/-- readSign is a step -/
theorem sgStep {G : Gx} {l : Launch} {ly : Ly} {M : Mm} {q pq i c op : Nat} {em wt : List Int32} {cb : Nat → Bool} {nt : Bool} {kd nv : Nat → Int32} {nx : Nat → Nat} (hC : CMs ly M q pq (i, c, em, wt, op, cb, false, nt)) (hn1 : ¬ (op = 0 ∧ kd i = 37)) (hX : XW ly M.2.2) : Mt G l mX3_readSign (2, 0, 0, false) [.ref 5, .int (kd i)] ly M (fun v ly2 K => ly2 = ly ∧ ((∃ k, mst kd nv nx (i, c, em, wt, op, cb, false, nt) = .inl (mNo k i) ∧ v = some (.int k) ∧ ¬ k = 0 ∧ K = M) ∨ (∃ t : Ms, mst kd nv nx (i, c, em, wt, op, cb, false, nt) = .inr t ∧ t.i = nx i ∧ v = some (.int 0) ∧ cmF M K q pq ∧ CMs ly K q pq t))) := by
  by_cases h36 : kd i = 36 ∧ 0 < op
  · have := sgClose (G := G) (l := l) (nv := nv) (nx := nx) hC h36.2 h36.1 hX
    rw [h36.1]; exact this
  · by_cases hno : bnd (kd i) = 0 ∨ kd i = 18 ∨ (bnd (kd i) = 4 ∧ cb op = true)
    · exact sgNo1 hC hn1 h36 hno hX
    · have hb0 : ¬ bnd (kd i) = 0 := fun g => hno (Or.inl g)
      have h18 : ¬ kd i = 18 := fun g => hno (Or.inr (Or.inl g))
      have h4c : ¬ (bnd (kd i) = 4 ∧ cb op = true) := fun g => hno (Or.inr (Or.inr g))
      by_cases hc : c = 64
      · exact sgNo2 hC hb0 h18 h4c hc hX
      · exact sgGo hC hb0 h18 h4c (Nat.lt_of_le_of_ne hC.1.2.1 hc) hX
theorem rOpen8 {G : Gx} {l : Launch} {ly : Ly} {M : Mm} (h8 : M.1 5 5 = 8) (hX : XW ly M.2.2) : Mt G l mX3_readOpen (1, 0, 0, false) [.ref 5] ly M (Is (some (.int 2)) ly M) := by
  refine Mt.is (fun Q hQ => ?_)
  refine Mt.of (lv := [some (.ref 5)]) rfl ?_
  refine Rn.aload_n dX3_readOpen_0 rfl ?_
  refine Rn.getI dX3_readOpen_1 fX3_36 rfl (xc5 hX) ?_
  refine Rn.topI (y := 8) (h8) ?_
  refine Rn.bipushv (v := 8) dX3_readOpen_4 bp_8 ?_
  refine Rn.icmp_lt dX3_readOpen_6 (fun h9 => (by first | exact absurd h9 (by decide) | exact absurd (by decide) h9)) (fun h9 => ?_)
  refine Rn.iconstv (v := 2) dX3_readOpen_9 ic_2 ?_
  exact Rn.iret (ty := .int) dX3_readOpen_10 rfl rfl hQ
theorem oprOpenC {ly : Ly} {M K : Mm} {q pq i i2 c op : Nat} {em wt : List Int32} {cb : Nat → Bool} {nt : Bool} (hC : CMs ly M q pq (i, c, em, wt, op, cb, true, nt)) (ho : op < 8) (a1 : K.2.2 = M.2.2) (a2 : ∀ a, a ≠ 5 → a ≠ 6 → K.1 a = M.1 a) (a3 : K.1 6 = upd (M.1 6) wt.length 35) (a4 : K.1 5 4 = nI (wt.length + 1)) (a5 : K.1 5 5 = nI (op + 1)) (a6 : K.1 5 6 = M.1 5 6 &&& (((1 : Int32) <<< (nI (op + 1) &&& 31)) ^^^ (-1))) (a7 : K.1 5 8 = 1) (a8 : ∀ j, (j < 4 ∨ j = 7 ∨ 8 < j) → K.1 5 j = M.1 5 j) : cmF M K q pq ∧ CMs ly K q pq (i2, c, em, 35 :: wt, op + 1, setB cb (op + 1) false, true, true) := by
  obtain ⟨h1, ⟨h2, h3, h4, h5⟩, ⟨h6, h7, h8, h9, h10⟩, ⟨h11, h12⟩, h13, h14, h15, h16⟩ := hC
  have hq7 := h6.1
  refine ⟨⟨a1, fun a x1 x2 _ _ _ => a2 a x1 x2, fun j _ => by rw [a2 pq (by omega) (by omega)]⟩, mI_op h1 ho, ⟨by rw [a1]; exact h2, h3, h4, by rw [a2 pq (by omega) (by omega)]; exact h5⟩, ⟨by rw [a1]; exact h6, h7, h8, by rw [a2 q (by omega) (by omega)]; exact h9, by rw [a2 (q + 1) (by omega) (by omega)]; exact h10⟩, ⟨a4, by rw [a3]; exact lsR.c h12⟩, a5, by rw [a6]; exact bit_clr h14 ho, (a8 7 (by omega)).trans h15, a7⟩
theorem nuR.v {a b : Int32} (h : nuR a b) : (9999 < a ↔ 9999 < b) ∧ (¬ 9999 < b → a = b) := by
  rcases h with ⟨v, hv, rfl, rfl⟩ | ⟨v, u, hv, hu, rfl, rfl⟩
  · exact ⟨Iff.rfl, fun _ => rfl⟩
  · have e1 : 9999 < nI v := (nI_ltI (a := 9999) (b := v) (by decide) (by omega)).mpr (by omega)
    have e2 : 9999 < nI u := (nI_ltI (a := 9999) (b := u) (by decide) (by omega)).mpr (by omega)
    exact ⟨⟨fun _ => e2, fun _ => e1⟩, fun g => absurd e2 g⟩
theorem oprOpen {G : Gx} {l : Launch} {ly : Ly} {M : Mm} {q pq i c op : Nat} {em wt : List Int32} {cb : Nat → Bool} {nt : Bool} {kd nv : Nat → Int32} {nx : Nat → Nat} (hC : CMs ly M q pq (i, c, em, wt, op, cb, true, nt)) (hk : kd i = 35) (hX : XW ly M.2.2) : Mt G l mX3_readOperand (2, 0, 0, false) [.ref 5, .int (35)] ly M (fun v ly2 K => ly2 = ly ∧ ((∃ k, mst kd nv nx (i, c, em, wt, op, cb, true, nt) = .inl (mNo k i) ∧ v = some (.int k) ∧ ¬ k = 0 ∧ K = M) ∨ (∃ t : Ms, mst kd nv nx (i, c, em, wt, op, cb, true, nt) = .inr t ∧ t.i = nx i ∧ v = some (.int 0) ∧ cmF M K q pq ∧ CMs ly K q pq t))) := by
  refine Mt.of (lv := [some (.ref 5), some (.int 35), none]) rfl ?_
  obtain ⟨h1, ⟨h2, h3, h4, h5⟩, ⟨h6, h7, h8, h9_, h10⟩, ⟨h11, h12⟩, h13, h14, h15, h16⟩ := id hC
  have hq7 := h6.1
  have b1 : wt.length ≤ nO wt + op := h1.2.2.1
  have b2 : em.length + nO wt ≤ c := h1.1
  have b3 : c ≤ 64 := h1.2.1
  have b4 : op ≤ 8 := h1.2.2.2.1
  refine Rn.iload_n dX3_readOperand_0 rfl ?_
  refine Rn.bipushv (v := 35) dX3_readOperand_1 bp_35 ?_
  refine Rn.icmp_ne dX3_readOperand_3 (fun h9 => (by first | exact absurd h9 (by decide) | exact absurd (by decide) h9)) (fun h9 => ?_)
  refine Rn.aload_n dX3_readOperand_6 rfl ?_
  by_cases o8 : op = 8
  · skip
    refine Rn.callV0 dX3_readOperand_7 vX3_68 (xc5 hX) (by decide) rfl (rOpen8 (M := M) (by rw [h13, o8]; rfl) hX) (by decide) ⟨(Nat.le_of_ble_eq_true rfl), (Nat.le_of_ble_eq_true rfl), (Nat.le_of_ble_eq_true rfl)⟩ (fun h => by cases h) (fun v1 ly1 M1 ⟨q1, q2, q3⟩ => ?_)
    rw [q1, q2, q3]
    exact Rn.iret (ty := .int) dX3_readOperand_10 rfl rfl ⟨rfl, Or.inl ⟨2, mst_op8 hk o8, rfl, by decide, rfl⟩⟩
  · skip
    refine Rn.callV0 dX3_readOperand_7 vX3_68 (xc5 hX) (by decide) rfl (tX3_readOpen (M := M) (op := op) (k := wt.length) (Q := fun v0 ly0 K => ly0 = ly ∧ v0 = some (.int 0) ∧ cmF M K q pq ∧ CMs ly K q pq (nx i, c, em, 35 :: wt, op + 1, setB cb (op + 1) false, true, true)) ⟨h13, b4⟩ ⟨h11, by omega⟩ hX ⟨fun g => absurd g o8, fun g K a1 a2 a3 a4 a5 a6 a7 a8 => ⟨rfl, rfl, oprOpenC hC g a1 a2 a3 a4 a5 a6 a7 a8⟩⟩) (by decide) ⟨(Nat.le_of_ble_eq_true rfl), (Nat.le_of_ble_eq_true rfl), (Nat.le_of_ble_eq_true rfl)⟩ (fun h => by cases h) (fun v1 ly1 N1 ⟨q2, q1, f1, hC1⟩ => ?_)
    rw [q2, q1]
    exact Rn.iret (ty := .int) dX3_readOperand_10 rfl rfl ⟨rfl, Or.inr ⟨_, mst_op hk o8, rfl, rfl, f1, hC1⟩⟩
/-- readOperand is a step -/
theorem oprStep {G : Gx} {l : Launch} {ly : Ly} {M : Mm} {q pq i c op : Nat} {em wt : List Int32} {cb : Nat → Bool} {nt : Bool} {kd nv : Nat → Int32} {nx : Nat → Nat} (hC : CMs ly M q pq (i, c, em, wt, op, cb, true, nt)) (hnum : kd i = 38 → nuR (M.1 3 2) (nv i)) (hX : XW ly M.2.2) : Mt G l mX3_readOperand (2, 0, 0, false) [.ref 5, .int (kd i)] ly M (fun v ly2 K => ly2 = ly ∧ ((∃ k, mst kd nv nx (i, c, em, wt, op, cb, true, nt) = .inl (mNo k i) ∧ v = some (.int k) ∧ ¬ k = 0 ∧ K = M) ∨ (∃ t : Ms, mst kd nv nx (i, c, em, wt, op, cb, true, nt) = .inr t ∧ t.i = nx i ∧ v = some (.int 0) ∧ cmF M K q pq ∧ CMs ly K q pq t))) := by
  obtain ⟨h1, ⟨h2, h3, h4, h5⟩, ⟨h6, h7, h8, h9, h10⟩, ⟨h11, h12⟩, h13, h14, h15, h16⟩ := id hC
  have hq7 := h6.1
  have b1 : wt.length ≤ nO wt + op := h1.2.2.1
  have b2 : em.length + nO wt ≤ c := h1.1
  have b3 : c ≤ 64 := h1.2.1
  have b4 : op ≤ 8 := h1.2.2.2.1
  by_cases h35 : kd i = 35
  · have := oprOpen (G := G) (l := l) (nv := nv) (nx := nx) hC h35 hX
    rw [h35]; exact this
  · have h8n : (¬ M.1 5 8 = 0) ↔ nt = true := by rw [h16]; show (¬ (if nt = true then (1 : Int32) else 0) = 0) ↔ nt = true; clear hC h1 h16; cases nt <;> decide
    have hbg : (kd i = 38 ∧ 9999 < M.1 3 2) ↔ bigN (kd i) (nv i) := ⟨fun g => ⟨g.1, (hnum g.1).v.1.mp g.2⟩, fun g => ⟨g.1, (hnum g.1).v.1.mpr g.2⟩⟩
    by_cases hl : lfK (kd i) ∨ (kd i = 18 ∧ nt = true)
    · by_cases hb : c = 64 ∨ bigN (kd i) (nv i)
      · refine tX3_readNo (pq := pq) (c := c) h35 h2 h4 ⟨h5, b3⟩ (fun g => g.2 (hb.imp id hbg.mpr)) hX ⟨fun g1 g2 => absurd (hl.imp (fun g => g) (fun g => (⟨g.1, h8n.mpr g.2⟩ : kd i = 18 ∧ ¬ M.1 5 8 = 0))) (fun g => g.elim g1 g2), fun _ _ => ⟨rfl, Or.inl ⟨2, mst_ob hl hb, rfl, by decide, rfl⟩⟩⟩
      · have hc : c < 64 := Nat.lt_of_le_of_ne b3 (fun g => hb (Or.inl g))
        have hnb : ¬ bigN (kd i) (nv i) := fun g => hb (Or.inr g)
        by_cases h18 : kd i = 18
        · have hnt : nt = true := hl.elim (fun g => absurd h18 (lfK_n g).2) (fun g => g.2)
          rw [h18]
          refine tX3_readNot (k := wt.length) (pq := pq) (c := c) h2 h3 h4 ⟨h5, hc⟩ (h8n.mpr hnt) ⟨h11, by omega⟩ hX (fun K a1 a2 a3 a4 a5 a6 a7 => ⟨rfl, Or.inr ⟨_, mst_nt h18 hnt hc, rfl, rfl, ⟨a1, fun a x1 x2 _ _ x5 => a2 a x1 x2 x5, fun j hj => by rw [a7]; exact pk_un hj⟩, mI_nt h1 hc (by decide) (by decide), ⟨by rw [a1]; exact h2, h3, h4, by rw [a7]; exact pk_us⟩, ⟨by rw [a1]; exact h6, h7, h8, by rw [a2 q (by omega) (by omega) h7]; exact h9, by rw [a2 (q + 1) (by omega) (by omega) h8]; exact h10⟩, ⟨a4, by rw [a3]; exact lsR.c h12⟩, (a6 5 (by decide) (by decide)).trans h13, by rw [a6 6 (by decide) (by decide)]; exact h14, a5, (a6 8 (by decide) (by decide)).trans h16⟩⟩)
        · have hlf : lfK (kd i) := hl.elim id (fun g => absurd g.1 h18)
          have fin : ∀ (K : Mm) (x : Int32), x = leafV (kd i) (nv i) → K.2.2 = M.2.2 → (∀ a, a ≠ 5 → a ≠ q → a ≠ q + 1 → a ≠ pq → K.1 a = M.1 a) → K.1 (q + 1) = upd (M.1 (q + 1)) em.length x → K.1 q = upd (M.1 q) 0 (nI (em.length + 1)) → K.1 5 = upd (M.1 5) 7 0 → K.1 pq = upd (M.1 pq) 8 (nI (c + 1)) → cmF M K q pq ∧ CMs ly K q pq (nx i, c + 1, leafV (kd i) (nv i) :: em, wt, op, cb, false, nt) := by
            intro K x hx a1 a2 a3 a4 a5 a6
            refine ⟨⟨a1, fun a x1 _ x3 x4 x5 => a2 a x1 x3 x4 x5, fun j hj => by rw [a6]; exact pk_un hj⟩, mI_lf h1 hc, ⟨by rw [a1]; exact h2, h3, h4, by rw [a6]; exact pk_us⟩, ⟨by rw [a1]; exact h6, h7, h8, by rw [a4]; exact pk_us, by rw [a3, hx]; exact lsR.c h10⟩, ⟨?_, ?_⟩, ?_, ?_, ?_, ?_⟩
            · rw [a5, pk_un (by decide)]; exact h11
            · rw [a2 6 (by decide) (by omega) (by omega) (by omega)]; exact h12
            · rw [a5, pk_un (by decide)]; exact h13
            · rw [a5, pk_un (by decide)]; exact h14
            · rw [a5, pk_us]; rfl
            · rw [a5, pk_un (by decide)]; exact h16
          by_cases h38 : kd i = 38
          · have hv := (hnum h38).v
            have hnv : ¬ 9999 < nv i := fun g => hnb ⟨h38, g⟩
            have hle : M.1 3 2 ≤ 9999 := Int32.not_lt.mp (fun g => hnv (hv.1.mp g))
            rw [h38]
            refine tX3_readNumber (q := q) (k := em.length) (pq := pq) (c := c) h2 h3 h4 ⟨h5, hc⟩ h6 ⟨h7, h8⟩ ⟨h9, by omega⟩ hle hX (fun K a1 a2 a3 a4 a5 a6 => ?_)
            have := fin K _ (show M.1 3 2 = _ by rw [hv.2 hnv]; exact (if_pos h38).symm) a1 a2 a3 a4 a5 a6
            exact ⟨rfl, Or.inr ⟨_, mst_lf hlf hc hnb, rfl, rfl, this⟩⟩
          · refine tX3_readName (q := q) (k := em.length) (pq := pq) (c := c) h2 h3 h4 ⟨h5, hc⟩ h6 ⟨h7, h8⟩ ⟨h9, by omega⟩ (hlf.elim (fun g => absurd g h38) id) hX (fun K a1 a2 a3 a4 a5 a6 => ?_)
            have := fin K _ (if_neg h38).symm a1 a2 a3 a4 a5 a6
            exact ⟨rfl, Or.inr ⟨_, mst_lf hlf hc hnb, rfl, rfl, this⟩⟩
    · refine tX3_readNo (pq := pq) (c := c) h35 h2 h4 ⟨h5, b3⟩ (fun g => hl (g.1.imp (fun g => g) (fun g => ⟨g.1, h8n.mp g.2⟩))) hX ⟨fun g1 g2 => ⟨rfl, Or.inl ⟨1, mst_on h35 (fun g => hl (Or.inl g)) (fun g => hl (Or.inr g)), rfl, by decide, rfl⟩⟩, fun g _ => absurd (g.imp (fun g => g) (fun g => (⟨g.1, h8n.mp g.2⟩ : kd i = 18 ∧ nt = true))) hl⟩
