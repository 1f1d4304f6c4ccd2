def mL_look : Md := (yL_look, cL_look, 5, some .int)
theorem tL_look {G : Gx} {l : Launch} {ly : Ly} {M : Mm} {x y r : Int32} (hx : ly[0]? = some (.inr 11)) (ho : ly[196]? = some (.inl (3, 1))) (hm : Mt G l mX11_look (2, 0, 0, false) [.ref 0, .int x, .int y] ly M (Is (some (.int r)) ly M)) {Q : Qt} (hQ : Q (some (.int 0)) ly (sL M 196 (vp_updL (M.2.1 196) 0 r.toInt64))) : Mt G l mL_look (3, 0, 0, false) [.ref 0, .int x, .int y, .ref 196] ly M Q := by
  refine Mt.of (lv := [some (.ref 0), some (.int x), some (.int y), some (.ref 196), none]) rfl ?_
  refine Rn.aload_n dL_look_0 rfl ?_
  refine Rn.iconstv (v := 0) dL_look_1 ic_0 ?_
  refine Rn.aload_n dL_look_2 rfl ?_
  refine Rn.iload_n dL_look_3 rfl ?_
  refine Rn.iload_n dL_look_4 rfl ?_
  refine Rn.callV2 dL_look_5 vL_7 hx (by decide) rfl hm (by decide) ⟨(Nat.le_of_ble_eq_true rfl), (Nat.le_of_ble_eq_true rfl), (Nat.le_of_ble_eq_true rfl)⟩ (fun h => by cases h) (fun v1 ly1 M1 ⟨q1, q2, q3⟩ => ?_)
  rw [q1, q2, q3]
  refine Rn.i2l dL_look_8 ?_
  refine Rn.lastN (k0 := 0) dL_look_9 ho (by decide) (by decide) ?_
  refine Rn.goto dL_look_10 ?_
  refine Rn.iconstv (v := 0) dL_look_21 ic_0 ?_
  exact Rn.iret (ty := .int) dL_look_22 rfl rfl hQ
theorem qR.fv {M N : Mm} {v : Int32} (h : qR M N) : qR M (sI N 149 (upd (N.1 149) 0 v)) := h.tr ⟨rfl, fun a a1 a2 a3 a4 => sI_ne a1, fun j a1 a2 a3 a4 a5 => pk_un a2, fun a ha j a1 a2 => congrFun (sI_ne (by omega)) j, fun a ha j hj => congrFun (sI_ne (by omega)) j, fun a ha j hj => congrFun (sI_ne (by omega)) j⟩
theorem INV.sl {ly : Ly} {M : Mm} {a : Nat} {f : Nat → Int64} (h : INV ly M) : INV ly (sL M a f) := h
/-- the pair of look: the law's look of the class, then the reference's; t is what was thrown -/
def PrK (G : Gx) (l : Launch) (ly : Ly) (x y : Int32) (M : Mm) : Prop := Mt G l mL_look (140, 0, 0, false) [.ref 0, .int x, .int y, .ref 196] ly M (fun v l1 N => l1 = ly ∧ ∃ t r : Int32, v = some (.int t) ∧ (t = 0 → N.2.1 196 0 = r.toInt64) ∧ Mt G l mX12_look (140, 0, 0, false) [.ref 149, .int x, .int y] ly N (fun v2 l2 K => l2 = ly ∧ v2 = some (.int r) ∧ K.1 149 0 = t ∧ K.2.1 = N.2.1 ∧ INV ly K))
theorem pr_lookN {G : Gx} {l : Launch} {ly : Ly} {M : Mm} {j k nw : Nat} (ho : ly[196]? = some (.inl (3, 1))) (hI : INV ly M) (hw : M.1 151 6 = nI nw) (hw6 : nw ≤ 6) (hj : j < nw) (hk : k ≤ 4) : PrK G l ly (nI j) (nI k) M := by
  obtain ⟨pl, ps, n, A, hC, hR, hP⟩ := hI
  have hX := hC.1
  have hpl := hC.2.1.2.1
  have hp7 : pl = 7 ∨ pl = 41 := hC.2.1.1.elim (fun h => Or.inl h.1) (fun h => Or.inr h.1)
  have c6 := hP.w6
  have hw2 : M.1 151 6 = nI (A.p.ct 0) := hR.2.2.2.1.2.1 0 (by decide)
  obtain rfl : A.p.ct 0 = nw := nI_inj (by omega) (by omega) (hw2.symm.trans hw)
  have hwC : M.1 (pl + 1) 0 = nI (A.p.ct 0) ∧ A.p.ct 0 ≤ 6 := ⟨hC.2.2.2.2.1.2.1 0 (by decide), hw6⟩
  have w1 := hR.2.2.2.2.1.1.2.2.2.2.1 j hj
  rw [show A.X.s = vS M.1 75 from hC.2.2.2.2.2.1.2.1] at w1
  have w2 : wk1 A.X.t (M.1 177 j) (M.1 178 j) (M.1 179 j) (M.1 84 j) (M.1 85 j) (M.1 86 j) := by
    rw [show 6 * 0 + j = j by omega] at w1
    exact w1
  have e0 : (if M.1 86 j = 1 then M.1 84 j else -1) = M.1 177 j := w2.2.2.1.symm
  have e3 : M.1 85 j = M.1 178 j := w2.1.symm
  have e4 : M.1 86 j = M.1 179 j := w2.2.1.symm
  have d1 : ∀ r, 5 ≤ r → r ≤ 6 → M.1 (pl + cOf r) j = M.1 (rCl r) j := fun r a b => by
    have hkn : knD r = 0 := if_pos (by omega)
    exact (hC.2.2.2.2.1.2.2.2.1 r (by omega) (by omega) j (by rw [hkn]; exact hj)).trans (hR.2.2.2.1.2.2.1 r (by omega) (by omega) j (by rw [hkn]; exact hj) (fun g => absurd g (by omega))).symm
  have e1 : M.1 (pl + 8) j = M.1 153 j := d1 5 (by decide) (by decide)
  have e2 : M.1 (pl + 9) j = M.1 154 j := d1 6 (by decide) (by decide)
  have fin : ∀ f : Nat → Int64, INV ly (sI (sL M 196 f) 149 (upd (M.1 149) 0 0)) := fun f => (INV.qq hC hR hP quX.rf (qR.rf.fv (v := 0))).sl (a := 196) (f := f)
  unfold PrK
  rcases (show k = 0 ∨ k = 1 ∨ k = 2 ∨ k = 3 ∨ k = 4 by omega) with rfl | rfl | rfl | rfl | rfl
  · refine Mt.deep (k1 := 3) (tL_look (r := M.1 177 j) (xc0 hX) ho (tX11_look0 hwC hj hX hpl hp7 ⟨by rw [e0], rfl, rfl⟩) ⟨rfl, 0, M.1 177 j, rfl, fun _ => rfl, ?_⟩) (by decide)
    refine Mt.deep (k1 := 2) (tX12_look (M := sL M 196 (vp_updL (M.2.1 196) 0 (M.1 177 j).toInt64)) (nw := A.p.ct 0) ⟨hw2, hw6⟩ hR.1 ⟨fun h => absurd ⟨j, hj, rfl⟩ h, fun j2 h2 e9 => ?_⟩) (by decide)
    obtain rfl : j = j2 := nI_inj (by omega) (by omega) e9
    exact ⟨fun h => absurd h (by decide), fun _ => ⟨rfl, rfl, rfl, rfl, fin _⟩, fun h => absurd h (by decide), fun h => absurd h (by decide), fun h => absurd h (by decide), fun h => absurd h (by decide)⟩
  · refine Mt.deep (k1 := 3) (tL_look (r := M.1 153 j) (xc0 hX) ho (tX11_look1 hwC hj hX hpl hp7 ⟨by rw [e1], rfl, rfl⟩) ⟨rfl, 0, M.1 153 j, rfl, fun _ => rfl, ?_⟩) (by decide)
    refine Mt.deep (k1 := 2) (tX12_look (M := sL M 196 (vp_updL (M.2.1 196) 0 (M.1 153 j).toInt64)) (nw := A.p.ct 0) ⟨hw2, hw6⟩ hR.1 ⟨fun h => absurd ⟨j, hj, rfl⟩ h, fun j2 h2 e9 => ?_⟩) (by decide)
    obtain rfl : j = j2 := nI_inj (by omega) (by omega) e9
    exact ⟨fun h => absurd h (by decide), fun h => absurd h (by decide), fun _ => ⟨rfl, rfl, rfl, rfl, fin _⟩, fun h => absurd h (by decide), fun h => absurd h (by decide), fun h => absurd h (by decide)⟩
  · refine Mt.deep (k1 := 3) (tL_look (r := M.1 154 j) (xc0 hX) ho (tX11_look2 hwC hj hX hpl hp7 ⟨by rw [e2], rfl, rfl⟩) ⟨rfl, 0, M.1 154 j, rfl, fun _ => rfl, ?_⟩) (by decide)
    refine Mt.deep (k1 := 2) (tX12_look (M := sL M 196 (vp_updL (M.2.1 196) 0 (M.1 154 j).toInt64)) (nw := A.p.ct 0) ⟨hw2, hw6⟩ hR.1 ⟨fun h => absurd ⟨j, hj, rfl⟩ h, fun j2 h2 e9 => ?_⟩) (by decide)
    obtain rfl : j = j2 := nI_inj (by omega) (by omega) e9
    exact ⟨fun h => absurd h (by decide), fun h => absurd h (by decide), fun h => absurd h (by decide), fun _ => ⟨rfl, rfl, rfl, rfl, fin _⟩, fun h => absurd h (by decide), fun h => absurd h (by decide)⟩
  · refine Mt.deep (k1 := 3) (tL_look (r := M.1 178 j) (xc0 hX) ho (tX11_look3 hwC hj hX hpl hp7 ⟨by rw [e3], rfl, rfl⟩) ⟨rfl, 0, M.1 178 j, rfl, fun _ => rfl, ?_⟩) (by decide)
    refine Mt.deep (k1 := 2) (tX12_look (M := sL M 196 (vp_updL (M.2.1 196) 0 (M.1 178 j).toInt64)) (nw := A.p.ct 0) ⟨hw2, hw6⟩ hR.1 ⟨fun h => absurd ⟨j, hj, rfl⟩ h, fun j2 h2 e9 => ?_⟩) (by decide)
    obtain rfl : j = j2 := nI_inj (by omega) (by omega) e9
    exact ⟨fun h => absurd h (by decide), fun h => absurd h (by decide), fun h => absurd h (by decide), fun h => absurd h (by decide), fun _ => ⟨rfl, rfl, rfl, rfl, fin _⟩, fun h => absurd h (by decide)⟩
  · refine Mt.deep (k1 := 3) (tL_look (r := M.1 179 j) (xc0 hX) ho (tX11_look4 hwC hj hX hpl hp7 ⟨by rw [e4], rfl, rfl⟩) ⟨rfl, 0, M.1 179 j, rfl, fun _ => rfl, ?_⟩) (by decide)
    refine Mt.deep (k1 := 2) (tX12_look (M := sL M 196 (vp_updL (M.2.1 196) 0 (M.1 179 j).toInt64)) (nw := A.p.ct 0) ⟨hw2, hw6⟩ hR.1 ⟨fun h => absurd ⟨j, hj, rfl⟩ h, fun j2 h2 e9 => ?_⟩) (by decide)
    obtain rfl : j = j2 := nI_inj (by omega) (by omega) e9
    exact ⟨fun h => absurd h (by decide), fun h => absurd h (by decide), fun h => absurd h (by decide), fun h => absurd h (by decide), fun h => absurd h (by decide), fun _ => ⟨rfl, rfl, rfl, rfl, fin _⟩⟩
