theorem INV.rw {ly : Ly} {M : Mm} (h : INV ly M) : RW ly M.2.2 := by
  obtain ⟨pl, ps, n, A, hC, hR, hP⟩ := h
  exact hR.1
/-- what the reference's look answers, t being what it would throw -/
def PrR (G : Gx) (l : Launch) (ly : Ly) (x y t : Int32) (N : Mm) : Prop := ∃ r : Int32, (t = 0 → N.2.1 196 0 = r.toInt64) ∧ Mt G l mX12_look (140, 0, 0, false) [.ref 149, .int x, .int y] ly N (fun v2 l2 K => l2 = ly ∧ v2 = some (.int r) ∧ K.1 149 0 = t ∧ K.2.1 = N.2.1 ∧ INV ly K)
theorem look_back {G : Gx} {l : Launch} {ly : Ly} {M N : Mm} {Q : Qt} {i dep ca sa : Nat} {v5 v6 : Option Value} {t : Int32} (hdep : 140 + 1 ≤ dep) (hi : i + 6 ≤ G.2.2.2.2.1) (hL : G.2.2.2.2.1 ≤ 3072) (hI : INV ly M) (ho : ly[196]? = some (.inl (3, 1))) (h : PrR G l ly (G.2.2.2.2.2 (i + 1)) (G.2.2.2.2.2 (i + 2)) t N) (k : ∀ (K : Mm) (v5 v6 : Option Value), INV ly K → Rn G l mL_law (dep, ca, sa, false) 1507 [some (.float 0), some (.ref 0), some (.ref 149), some (.ref 196), some (.int (nI i)), v5, v6] [] ly K Q) : Rn G l mL_law (dep, ca, sa, false) 373 [some (.float 0), some (.ref 0), some (.ref 149), some (.ref 196), some (.int (nI i)), v5, v6] [.int t] ly N Q := by
  obtain ⟨r, ht, h2⟩ := h
  refine Rn.istore (lv' := [some (.float 0), some (.ref 0), some (.ref 149), some (.ref 196), some (.int (nI i)), some (.int t), v6]) dL_law_373 (by decide) rfl ?_
  refine Rn.aload_n dL_law_375 rfl ?_
  refine Rn.argS (k := 1) dL_law_376 dL_law_377 dL_law_379 dL_law_380 dL_law_381 (by decide) rfl rfl (by omega) hL ?_
  refine Rn.argS (k := 2) dL_law_382 dL_law_383 dL_law_385 dL_law_386 dL_law_387 (by decide) rfl rfl (by omega) hL ?_
  refine Rn.callV2 dL_law_388 vL_44 hI.o1 (by decide) rfl h2 hdep ⟨(Nat.le_of_ble_eq_true rfl), (Nat.le_of_ble_eq_true rfl), (Nat.le_of_ble_eq_true rfl)⟩ (fun h => by cases h) (fun w1 l1 K ⟨q1, q2, q3, q4, hK⟩ => ?_)
  rw [q1, q2]
  refine Rn.istore (lv' := [some (.float 0), some (.ref 0), some (.ref 149), some (.ref 196), some (.int (nI i)), some (.int t), some (.int r)]) dL_law_391 (by decide) rfl ?_
  refine Rn.aload_n dL_law_393 rfl ?_
  refine Rn.callV0 dL_law_394 vL_45 hI.o1 (by decide) rfl (tX12_thrown hK.rw) (by omega) ⟨(Nat.le_of_ble_eq_true rfl), (Nat.le_of_ble_eq_true rfl), (Nat.le_of_ble_eq_true rfl)⟩ (fun h => by cases h) (fun w2 l2 K2 ⟨e1, e2, e3⟩ => ?_)
  rw [e1, e2, e3]
  refine Rn.iload dL_law_397 rfl ?_
  refine Rn.icmp_eq dL_law_399 (fun _ => ?_) (fun g => absurd q3 g)
  refine Rn.iload dL_law_404 rfl ?_
  refine Rn.if_ne dL_law_406 (fun _ => ?_) (fun g => ?_)
  · exact Rn.goto dL_law_421 (k K _ _ hK)
  · refine Rn.aload_n dL_law_409 rfl ?_
    refine Rn.iconstv (v := 0) dL_law_410 ic_0 ?_
    refine Rn.laldN (k0 := 0) dL_law_411 ho (by decide) (by decide) ?_
    refine Rn.iload dL_law_412 rfl ?_
    refine Rn.i2l dL_law_414 ?_
    refine Rn.lcmp dL_law_415 ?_
    refine Rn.topI (y := 0) (by rw [q4, ht g]; exact lg_cmp_rf _) ?_
    refine Rn.if_eq dL_law_416 (fun _ => ?_) (fun h => absurd rfl h)
    exact Rn.goto dL_law_421 (k K _ _ hK)
/-- what the reference answers where the class throws -/
theorem prR1 {G : Gx} {l : Launch} {ly : Ly} {M : Mm} {x y : Int32} {nw : Nat} (hI : INV ly M) (hw : M.1 151 6 = nI nw) (hw6 : nw ≤ 6) (hx : ¬ ∃ j : Nat, j < nw ∧ x = nI j) : PrR G l ly x y 1 M := by
  have hI2 := hI
  obtain ⟨pl, ps, n, A, hC, hR, hP⟩ := hI
  refine ⟨0, fun h => absurd h (by decide), Mt.deep (k1 := 2) (tX12_look (nw := nw) ⟨hw, hw6⟩ hR.1 ⟨fun _ => ⟨rfl, rfl, rfl, rfl, INV.qq hC hR hP quX.rf (qR.rf.fv (v := 1))⟩, fun j hj e => absurd ⟨j, hj, e⟩ hx⟩) (by decide)⟩
theorem prR2 {G : Gx} {l : Launch} {ly : Ly} {M : Mm} {x y : Int32} {nw : Nat} (hI : INV ly M) (hw : M.1 151 6 = nI nw) (hw6 : nw ≤ 6) (hx : ∃ j : Nat, j < nw ∧ x = nI j) (hy : y < 0 ∨ 4 < y) : PrR G l ly x y 2 M := by
  obtain ⟨pl, ps, n, A, hC, hR, hP⟩ := hI
  refine ⟨0, fun h => absurd h (by decide), Mt.deep (k1 := 2) (tX12_look (nw := nw) ⟨hw, hw6⟩ hR.1 ⟨fun h => absurd hx h, fun j hj e => ?_⟩) (by decide)⟩
  have no : ∀ c : Int32, 0 ≤ c → c ≤ 4 → y = c → False := fun c a b e => hy.elim (fun g => absurd (e ▸ g) (Int32.not_lt.mpr a)) (fun g => absurd (e ▸ g) (Int32.not_lt.mpr b))
  exact ⟨fun _ => ⟨rfl, rfl, rfl, rfl, INV.qq hC hR hP quX.rf (qR.rf.fv (v := 2))⟩, fun e => (no 0 (by decide) (by decide) e).elim, fun e => (no 1 (by decide) (by decide) e).elim, fun e => (no 2 (by decide) (by decide) e).elim, fun e => (no 3 (by decide) (by decide) e).elim, fun e => (no 4 (by decide) (by decide) e).elim⟩
