/-- the same, the count of lines too -/
def rlG (M K : Mm) : Prop := K.2.2 = M.2.2 ∧ (∀ a j, a ≠ 149 → (a < 151 ∨ 168 < a ∨ j < rhN a) → K.1 a j = M.1 a j) ∧ (∀ j, (j < 21 ∨ j = 24 ∨ j = 31 ∨ j = 32 ∨ 34 < j) → K.1 149 j = M.1 149 j)
theorem rlF.g {M K : Mm} (h : rlF M K) : rlG M K := ⟨h.1, h.2.1, fun j hj => h.2.2 j (by omega)⟩
theorem rlG.tr {M N K : Mm} (h : rlG M N) (g : rlG N K) : rlG M K := ⟨g.1.trans h.1, fun a j x y => (g.2.1 a j x y).trans (h.2.1 a j x y), fun j x => (g.2.2 j x).trans (h.2.2 j x)⟩
theorem rlG.f {M : Mm} {g : Nat → Int32} (hg : ∀ j, (j < 21 ∨ j = 24 ∨ j = 31 ∨ j = 32 ∨ 34 < j) → g j = M.1 149 j) : rlG M (sI M 149 g) := ⟨rfl, fun a j x _ => congrFun (sI_ne x) j, hg⟩
def lnP (ly : Ly) (M : Mm) (f : Nat → Int32) (n m : Nat) (r : Rs) : Qt := fun v ly2 K => v = none ∧ ly2 = ly ∧ rlG M K ∧ ((∃ p2 j, r = .inl (p2, j) ∧ RPs K f n p2 j ∧ K.1 149 23 = nI (m + 1)) ∨ (∃ q j, r = .inr (q, j) ∧ faR f n K q j))
theorem bitW.or {x : Int32} {tb : Nat → Bool} {k : Nat} (h : bitW x tb) (hk : k ≤ 10) (tb2 : Nat → Bool) (h2 : ∀ j, j ≤ 3 ∨ j = 7 ∨ j = 8 → tb2 j = if j = k then true else tb j) (h14 : tb2 14 = tb 14 ∧ tb2 15 = tb 15) : bitW (x ||| ((1 : Int32) <<< (nI k &&& 31))) tb2 := by
  refine ⟨fun j hj => ?_, ?_, ?_⟩
  · rw [or2 x (by omega) (by omega), h2 j hj, h.1 j hj]
  · rw [or2 x (by omega) (by omega), if_neg (by omega), h14.1]; exact h.2.1
  · rw [or2 x (by omega) (by omega), if_neg (by omega), h14.2]; exact h.2.2
theorem setB_e {tb : Nat → Bool} {k j : Nat} {v : Bool} : setB tb k v j = if j = k then v else tb j := rfl
theorem bitW.law {x : Int32} {tb : Nat → Bool} {k : Nat} (h : bitW x tb) (hk : k < 2) : bitW (x ||| ((1 : Int32) <<< (nI (16 + k) &&& 31))) (setB tb (14 + k) true) := by
  refine ⟨fun j hj => ?_, ?_, ?_⟩
  · rw [or2 x (by omega) (by omega), setB_e, if_neg (show ¬ j = 16 + k by omega), if_neg (show ¬ j = 14 + k by omega)]; exact h.1 j hj
  · rw [or2 x (by omega) (by omega), setB_e]
    by_cases e : k = 0
    · subst e; rw [if_pos rfl, if_pos rfl]
    · rw [if_neg (by omega), if_neg (by omega)]; exact h.2.1
  · rw [or2 x (by omega) (by omega), setB_e]
    by_cases e : k = 1
    · subst e; rw [if_pos rfl, if_pos rfl]
    · rw [if_neg (by omega), if_neg (by omega)]; exact h.2.2
theorem RPs.z {M : Mm} {f : Nat → Int32} {n i : Nat} {p : Pl} (h : RPs M f n p i) : RDz M f n i := ⟨h.1, h.2.1, h.2.2.1⟩
theorem RPs.tk {M K : Mm} {f : Nat → Int32} {n i j : Nat} {p : Pl} (h : RPs M f n p i) (t : tkF M K) (z : RDz K f n j) : RPs K f n p j := by
  obtain ⟨h1, h2, h3, h4, h5, h6, h7, h8, h9⟩ := h
  exact ⟨z.1, z.2.1, z.2.2, ⟨(t.2.2 33 (by omega)).trans h4.1, (t.2.2 30 (by omega)).trans h4.2⟩, (t.2.2 34 (by omega)).trans h5, by rw [t.2.2 21 (by omega)]; exact h6, (t.2.2 22 (by omega)).trans h7, h8.of (fun a ha _ => t.2.1 a (by omega)), h9⟩
theorem RPs.told {M : Mm} {f : Nat → Int32} {n i : Nat} {p : Pl} {x : Int32} {tb2 : Nat → Bool} (h : RPs M f n p i) (hb : bitW x tb2) : RPs (sI M 149 (upd (M.1 149) 21 x)) f n (p.D, p.ct, p.lw, p.c, tb2, p.hc) i := by
  obtain ⟨h1, h2, h3, h4, h5, h6, h7, h8, h9⟩ := h
  have hz := (show RDz M f n i from ⟨h1, h2, h3⟩).of (K := sI M 149 (upd (M.1 149) 21 x)) ⟨rfl, rfl, rfl, rfl, rfl, rfl⟩ rfl
  exact ⟨hz.1, hz.2.1, hz.2.2, h4, h5, hb, h7, h8.of (fun a ha _ => sI_ne (by omega)), h9⟩
theorem RPs.num {M : Mm} {f : Nat → Int32} {n i ix : Nat} {p : Pl} {x : Int32} (h : RPs M f n p i) (hi : ix < 6 ∨ ix = 10 ∨ ix = 11) (hx : ix = 0 → ∃ m : Nat, x = nI m ∧ 2 ≤ m ∧ m ≤ 12) : RPs (sI M 151 (upd (M.1 151) (13 + ix) x)) f n (set2 p.D 0 ix x, p.ct, p.lw, p.c, p.tb, p.hc) i := by
  obtain ⟨h1, h2, h3, h4, h5, h6, h7, h8, h9⟩ := h
  have hz := (show RDz M f n i from ⟨h1, h2, h3⟩).of (K := sI M 151 (upd (M.1 151) (13 + ix) x)) ⟨rfl, rfl, rfl, rfl, rfl, rfl⟩ rfl
  refine ⟨hz.1, hz.2.1, hz.2.2, h4, h5, h6, h7, h8.num hi, h9.1, h9.2.1, h9.2.2.1, h9.2.2.2.1, h9.2.2.2.2.1, ?_⟩
  show ∃ m : Nat, set2 p.D 0 ix x 0 0 = nI m ∧ 2 ≤ m ∧ m ≤ 12
  by_cases e : ix = 0
  · subst e; rw [set2_s]; exact hx rfl
  · exact m00 (by omega) h9.2.2.2.2.2
theorem lnF_of {kd nv : Nat → Int32} {nx : Nat → Nat} {p p2 : Pl} {i j : Nat} (h : lnC kd nv nx p i = .inl (p2, j)) : lnF kd nv nx p i = if kd j = 37 then .inl (p2, nx j) else .inr (1, j) := by unfold lnF; rw [h]; rfl
theorem lnF_no {kd nv : Nat → Int32} {nx : Nat → Nat} {p : Pl} {i j : Nat} {q : Int32} (h : lnC kd nv nx p i = .inr (q, j)) : lnF kd nv nx p i = .inr (q, j) := by unfold lnF; rw [h]; rfl
theorem faR.of {f : Nat → Int32} {n : Nat} {K K2 : Mm} {q : Int32} {j : Nat} (h : faR f n K q j) (h1 : K2.1 149 29 = K.1 149 29) (h2 : K2.1 149 30 = K.1 149 30) : faR f n K2 q j := ⟨h1.trans h.1, h.2.1, h2.trans h.2.2⟩
theorem nat2 {x : Int32} (h : 2 ≤ x ∧ x ≤ 12) : ∃ m : Nat, x = nI m ∧ 2 ≤ m ∧ m ≤ 12 := by
  obtain ⟨m, m1, m2⟩ := nI_of (x := x) (fun g => absurd (Int32.le_trans (show (0 : Int32) ≤ 2 by decide) h.1) (Int32.not_le.mpr g))
  exact ⟨m, m2, (nI_leI (a := 2) (b := m) (by decide) m1).mp (by rw [← m2]; exact h.1), (nI_leI (a := m) (b := 12) m1 (by decide)).mp (by rw [← m2]; exact h.2)⟩
theorem rlTail {G : Gx} {l : Launch} {ly : Ly} {M K : Mm} {f : Nat → Int32} {n m j : Nat} {p2 : Pl} (hS : RPs K f n p2 j) (hF : rlF M K) (h23 : M.1 149 23 = nI m) (hR : RW ly M.2.2) : Rn G l mX12_line (128, 0, 0, false) 468 [some (.ref 149), none, none, none] [] ly K (lnP ly M f n m (if kdF f n j = 37 then .inl (p2, nx f n j) else .inr (1, j))) := by
  have hRK : RW ly K.2.2 := by rw [hF.1]; exact hR
  have hz := hS.z
  have htc := hz.tc
  have k23 : K.1 149 23 = nI m := (hF.2.2 23 (by omega)).trans h23
  refine Rn.aload_n dX12_line_468 rfl ?_
  refine Rn.getI dX12_line_469 fX12_222 rfl (rc149 hRK) ?_
  refine Rn.if_eq dX12_line_472 (fun h9 => ?_) (fun h9 => absurd hz.2.2 h9)
  by_cases h37 : kdF f n j = 37
  · skip
    refine Rn.aload_n dX12_line_476 rfl ?_
    refine Rn.bipushv (v := 59) dX12_line_477 bp_59 ?_
    refine Rn.callV1 dX12_line_479 vX12_285 (rc149 hRK) (by decide) rfl (tX12_isSign (M := K) (x := 59) hRK) (by omega) ⟨(Nat.le_of_ble_eq_true rfl), (Nat.le_of_ble_eq_true rfl), (Nat.le_of_ble_eq_true rfl)⟩ (fun h => by cases h) (fun v1 ly1 M1 ⟨q1, q2, q3⟩ => ?_)
    rw [q1, q2, q3]
    refine Rn.topI (y := 1) (isT_y hz.2.2 ((htc.1.g (q := 59) (by decide)).mpr (htc.2.1.trans h37))) ?_
    refine Rn.if_ne dX12_line_482 (fun h9 => ?_) (fun h9 => (by first | exact absurd h9 (by decide) | exact absurd (by decide) h9))
    refine Rn.aload_n dX12_line_493 rfl ?_
    refine Rn.callV0 dX12_line_494 vX12_228 (rc149 hRK) (by decide) rfl (rtok (M := K) hz hRK) (by decide) ⟨(Nat.le_of_ble_eq_true rfl), (Nat.le_of_ble_eq_true rfl), (Nat.le_of_ble_eq_true rfl)⟩ (fun h => by cases h) (fun v1 ly1 N1 ⟨q1, q2, t1, z1⟩ => ?_)
    rw [q1, q2]
    have r1 : rlF M N1 := hF.tr (rlF.tok t1)
    have hRN1 : RW ly N1.2.2 := by rw [r1.1]; exact hR
    have n23 : N1.1 149 23 = nI m := (t1.2.2 23 (by omega)).trans k23
    refine Rn.aload_n dX12_line_497 rfl ?_
    refine Rn.dup dX12_line_498 rfl ?_
    refine Rn.getI dX12_line_499 fX12_288 rfl (rc149 hRN1) ?_
    refine Rn.topI (y := nI m) (n23) ?_
    refine Rn.iconstv (v := 1) dX12_line_502 ic_1 ?_
    refine Rn.iadd dX12_line_503 ?_
    refine Rn.topI (y := nI (m + 1)) (nI_add m 1) ?_
    refine Rn.putI dX12_line_504 fX12_288 rfl rfl rfl (rc149 hRN1) ?_
    have hS1 := hS.tk t1 z1
    obtain ⟨h1, h2, h3, h4, h5, h6, h7, h8, h9⟩ := hS1
    have hz2 := (show RDz N1 f n (nx f n j) from ⟨h1, h2, h3⟩).of (K := sI N1 149 (upd (N1.1 149) 23 (nI (m + 1)))) ⟨rfl, rfl, rfl, rfl, rfl, rfl⟩ rfl
    exact Rn.vret dX12_line_507 rfl ⟨rfl, rfl, r1.g.tr (rlG.f (fun j hj => pk_un (by omega))), Or.inl ⟨p2, nx f n j, if_pos h37, ⟨hz2.1, hz2.2.1, hz2.2.2, h4, h5, h6, h7, h8.of (fun a ha _ => sI_ne (by omega)), h9⟩, rfl⟩⟩
  · skip
    refine Rn.aload_n dX12_line_476 rfl ?_
    refine Rn.bipushv (v := 59) dX12_line_477 bp_59 ?_
    refine Rn.callV1 dX12_line_479 vX12_285 (rc149 hRK) (by decide) rfl (tX12_isSign (M := K) (x := 59) hRK) (by omega) ⟨(Nat.le_of_ble_eq_true rfl), (Nat.le_of_ble_eq_true rfl), (Nat.le_of_ble_eq_true rfl)⟩ (fun h => by cases h) (fun v1 ly1 M1 ⟨q1, q2, q3⟩ => ?_)
    rw [q1, q2, q3]
    refine Rn.topI (y := 0) (isT_n (fun g => h37 (htc.2.1.symm.trans ((htc.1.g (q := 59) (by decide)).mp g)))) ?_
    refine Rn.if_ne dX12_line_482 (fun h9 => (by first | exact absurd h9 (by decide) | exact absurd (by decide) h9)) (fun h9 => ?_)
    refine Rn.aload_n dX12_line_485 rfl ?_
    refine Rn.iconstv (v := 1) dX12_line_486 ic_1 ?_
    refine Rn.callV1 dX12_line_487 vX12_231 (rc149 hRK) (by decide) rfl (rdWrong (M := K) (x := 1) hz.2.2 hRK) (by omega) ⟨(Nat.le_of_ble_eq_true rfl), (Nat.le_of_ble_eq_true rfl), (Nat.le_of_ble_eq_true rfl)⟩ (fun h => by cases h) (fun v1 ly1 M1 ⟨q1, q2, q3⟩ => ?_)
    rw [q1, q2, q3]
    have hfa := hz.wr (k := 1) (by decide)
    obtain ⟨N9, e9⟩ : ∃ N0, N0 = wrM K 1 := ⟨_, rfl⟩
    rw [← e9]
    rw [← e9] at hfa
    have r9 : rlF M N9 := by rw [e9]; exact hF.tr rlF.wr
    clear e9
    have hRN9 : RW ly N9.2.2 := by rw [r9.1]; exact hR
    have n23 : N9.1 149 23 = nI m := (r9.2.2 23 (by omega)).trans h23
    refine Rn.goto dX12_line_490 ?_
    refine Rn.aload_n dX12_line_497 rfl ?_
    refine Rn.dup dX12_line_498 rfl ?_
    refine Rn.getI dX12_line_499 fX12_288 rfl (rc149 hRN9) ?_
    refine Rn.topI (y := nI m) (n23) ?_
    refine Rn.iconstv (v := 1) dX12_line_502 ic_1 ?_
    refine Rn.iadd dX12_line_503 ?_
    refine Rn.topI (y := nI (m + 1)) (nI_add m 1) ?_
    refine Rn.putI dX12_line_504 fX12_288 rfl rfl rfl (rc149 hRN9) ?_
    exact Rn.vret dX12_line_507 rfl ⟨rfl, rfl, r9.g.tr (rlG.f (fun j hj => pk_un (by omega))), Or.inr ⟨1, j, if_neg h37, hfa.1, hfa.2.1, hfa.2.2⟩⟩
theorem rlTail0 {G : Gx} {l : Launch} {ly : Ly} {M K : Mm} {f : Nat → Int32} {n m j : Nat} {q : Int32} {r : Rs} (hfa : faR f n K q j) (hF : rlF M K) (hr : r = .inr (q, j)) (hR : RW ly M.2.2) : Rn G l mX12_line (128, 0, 0, false) 468 [some (.ref 149), none, none, none] [] ly K (lnP ly M f n m r) := by
  have hRK : RW ly K.2.2 := by rw [hF.1]; exact hR
  refine Rn.aload_n dX12_line_468 rfl ?_
  refine Rn.getI dX12_line_469 fX12_222 rfl (rc149 hRK) ?_
  refine Rn.if_eq dX12_line_472 (fun h9 => absurd (hfa.1.symm.trans h9) hfa.2.1) (fun h9 => ?_)
  exact Rn.vret dX12_line_475 rfl ⟨rfl, rfl, hF.g, Or.inr ⟨q, j, hr, hfa⟩⟩
theorem rline {G : Gx} {l : Launch} {ly : Ly} {M : Mm} {f : Nat → Int32} {n i m : Nat} {p : Pl} (hS : RPs M f n p i) (h23 : M.1 149 23 = nI m) (hR : RW ly M.2.2) : Mt G l mX12_line (128, 0, 0, false) [.ref 149] ly M (lnP ly M f n m (lnF (kdF f n) (nvF f n) (nx f n) p i)) := by
  refine Mt.of (lv := [some (.ref 149), none, none, none]) rfl ?_
  have hS0 := hS
  obtain ⟨hrd, h150, h29, h33, h34, hbw, h22, hP, hct⟩ := hS
  have hz : RDz M f n i := ⟨hrd, h150, h29⟩
  have htc := hz.tc
  have hcm : ∀ k, k < 4 → M.1 151 (19 + k) = nI (p.ct k) := hP.2.1
  by_cases c0 : kdF f n i = 0
  · skip
    have hln : lnC (kdF f n) (nvF f n) (nx f n) p i = _ := if_pos c0
    have hsv := (htc.1.w (w := 0) (by decide)).mpr (htc.2.1.trans c0)
    refine Rn.aload_n dX12_line_0 rfl ?_
    refine Rn.getI dX12_line_1 fX12_188 rfl (rc149 hR) ?_
    refine Rn.topI (y := 0) (hsv.1) ?_
    refine Rn.if_ne dX12_line_4 (fun h9 => (by first | exact absurd h9 (by decide) | exact absurd (by decide) h9)) (fun h9 => ?_)
    refine Rn.aload_n dX12_line_7 rfl ?_
    refine Rn.getI dX12_line_8 fX12_198 rfl (rc149 hR) ?_
    refine Rn.topI (y := 0) (hsv.2) ?_
    refine Rn.bipushv (v := 10) dX12_line_11 bp_10 ?_
    refine Rn.icmp_le dX12_line_13 (fun h9 => ?_) (fun h9 => (by first | exact absurd h9 (by decide) | exact absurd (by decide) h9))
    refine Rn.aload_n dX12_line_22 rfl ?_
    refine Rn.getI dX12_line_23 fX12_198 rfl (rc149 hR) ?_
    refine Rn.topI (y := 0) (hsv.2) ?_
    refine Rn.istore_n (lv' := [some (.ref 149), some (.int 0), none, none]) dX12_line_26 (by decide) rfl ?_
    refine Rn.aload_n dX12_line_27 rfl ?_
    refine Rn.iload_n dX12_line_28 rfl ?_
    refine Rn.callV1 dX12_line_29 vX12_249 (rc149 hR) (by decide) rfl (tX12_isFull (M := M) (x := 0) hR) (by decide) ⟨(Nat.le_of_ble_eq_true rfl), (Nat.le_of_ble_eq_true rfl), (Nat.le_of_ble_eq_true rfl)⟩ (fun h => by cases h) (fun v1 ly1 M1 ⟨q1, q2, q3⟩ => ?_)
    rw [q1, q2, q3]
    refine Rn.topI (y := 0) (if_neg (by rintro (g | g | g | g) <;> exact absurd g.1 (by decide))) ?_
    refine Rn.if_eq dX12_line_32 (fun h9 => ?_) (fun h9 => (by first | exact absurd h9 (by decide) | exact absurd (by decide) h9))
    refine Rn.iload_n dX12_line_43 rfl ?_
    refine Rn.callS1 dX12_line_44 vX12_252 (tX12_isOnce (M := M) (x := 0)) (by decide) ⟨(Nat.le_of_ble_eq_true rfl), (Nat.le_of_ble_eq_true rfl), (Nat.le_of_ble_eq_true rfl)⟩ (fun h => by cases h) (fun v1 ly1 M1 ⟨q1, q2, q3⟩ => ?_)
    rw [q1, q2, q3]
    refine Rn.topI (y := 1) (by decide) ?_
    refine Rn.if_eq dX12_line_47 (fun h9 => (by first | exact absurd h9 (by decide) | exact absurd (by decide) h9)) (fun h9 => ?_)
    have hbt : ((M.1 149 21) >>> (0 &&& 31)) &&& 1 = 1 ↔ p.tb 0 = true := by rw [← hbw.1 0 (by decide)]; exact bt2 (M.1 149 21) (j := 0) (by decide)
    refine Rn.aload_n dX12_line_50 rfl ?_
    refine Rn.getI dX12_line_51 fX12_255 rfl (rc149 hR) ?_
    refine Rn.iload_n dX12_line_54 rfl ?_
    refine Rn.ishr dX12_line_55 ?_
    refine Rn.iconstv (v := 1) dX12_line_56 ic_1 ?_
    refine Rn.iand dX12_line_57 ?_
    refine Rn.iconstv (v := 1) dX12_line_58 ic_1 ?_
    refine Rn.icmp_ne dX12_line_59 (fun hto => ?_) (fun hto => ?_)
    · skip
      have htb : ¬ p.tb 0 = true := fun g => hto (hbt.mpr g)
      refine Rn.iload_n dX12_line_70 rfl ?_
      refine Rn.if_ne dX12_line_71 (fun h9 => (by first | exact absurd h9 (by decide) | exact absurd (by decide) h9)) (fun h9 => ?_)
      refine Rn.aload_n dX12_line_74 rfl ?_
      refine Rn.getI dX12_line_75 fX12_258 rfl (rc149 hR) ?_
      refine Rn.if_eq dX12_line_78 (fun h22b => ?_) (fun h22b => ?_)
      · skip
        have hhc : ¬ p.hc = true := fun g => by rw [h22, if_pos g] at h22b; exact absurd h22b (by decide)
        refine Rn.aload_n dX12_line_86 rfl ?_
        refine Rn.getI dX12_line_87 fX12_222 rfl (rc149 hR) ?_
        refine Rn.if_eq dX12_line_90 (fun h9 => ?_) (fun h9 => absurd h29 h9)
        refine Rn.aload_n dX12_line_94 rfl ?_
        refine Rn.dup dX12_line_95 rfl ?_
        refine Rn.getI dX12_line_96 fX12_255 rfl (rc149 hR) ?_
        refine Rn.iconstv (v := 1) dX12_line_99 ic_1 ?_
        refine Rn.iload_n dX12_line_100 rfl ?_
        refine Rn.ishl dX12_line_101 ?_
        refine Rn.ior dX12_line_102 ?_
        refine Rn.putI dX12_line_103 fX12_255 rfl rfl rfl (rc149 hR) ?_
        refine Rn.aload_n dX12_line_106 rfl ?_
        obtain ⟨N1, e1⟩ : ∃ N9, N9 = sI M 149 (upd (M.1 149) 21 ((M.1 149 21) ||| ((1 : Int32) <<< (0 &&& 31)))) := ⟨_, rfl⟩
        rw [← e1]
        have r1 : rlF M N1 := by rw [e1]; exact rlF.f (fun j hj => pk_un (by omega))
        have hS1 : RPs N1 f n (p.D, p.ct, p.lw, p.c, setB p.tb 0 true, p.hc) i := by rw [e1]; exact hS0.told (hbw.or (k := 0) (by decide) _ (fun j hj => rfl) ⟨rfl, rfl⟩)
        clear e1
        have hRN1 : RW ly N1.2.2 := by rw [r1.1]; exact hR
        refine Rn.callV0 dX12_line_107 vX12_228 (rc149 hRN1) (by decide) rfl (rtok (M := N1) hS1.z hRN1) (by decide) ⟨(Nat.le_of_ble_eq_true rfl), (Nat.le_of_ble_eq_true rfl), (Nat.le_of_ble_eq_true rfl)⟩ (fun h => by cases h) (fun v1 ly1 N2 ⟨q1, q2, t1, z1⟩ => ?_)
        rw [q1, q2]
        have r2 : rlF M N2 := r1.tr (rlF.tok t1)
        have hS2 := hS1.tk t1 z1
        have hRN2 : RW ly N2.2.2 := by rw [r2.1]; exact hR
        clear hS1
        refine Rn.iload_n dX12_line_110 rfl ?_
        refine Rn.tableIn (off := 53) (tgt := 164) dX12_line_111 (by decide) (by decide) (by decide) (by decide) ?_
        refine Rn.aload_n dX12_line_164 rfl ?_
        refine Rn.iconstv (v := 0) dX12_line_165 ic_0 ?_
        refine Rn.aload_n dX12_line_166 rfl ?_
        refine Rn.iconstv (v := 2) dX12_line_167 ic_2 ?_
        refine Rn.bipushv (v := 12) dX12_line_168 bp_12 ?_
        refine Rn.callV2 dX12_line_170 vX12_262 (rc149 hRN2) (by decide) rfl (rnum (M := N2) (i := nx f n i) hS2.z hRN2) (by decide) ⟨(Nat.le_of_ble_eq_true rfl), (Nat.le_of_ble_eq_true rfl), (Nat.le_of_ble_eq_true rfl)⟩ (fun h => by cases h) (fun v1 ly1 A0 ⟨q2, hh⟩ => ?_)
        rw [q2]
        rcases hh with ⟨zz0, q1, bb0, tt0, za0⟩ | ⟨zz0, q1, gg0, hfa⟩
        · skip
          rw [q1]
          have rA0 : rlF M A0 := r2.tr (rlF.tok tt0)
          have hSA0 := hS2.tk tt0 za0
          have hRA0 : RW ly A0.2.2 := by rw [rA0.1]; exact hR
          refine Rn.callV2 dX12_line_173 vX12_265 (rc149 hRA0) (by decide) rfl (tX12_reads (M := A0) (k := 0) (x := nvF f n (nx f n i)) (by decide) hRA0) (by omega) ⟨(Nat.le_of_ble_eq_true rfl), (Nat.le_of_ble_eq_true rfl), (Nat.le_of_ble_eq_true rfl)⟩ (fun h => by cases h) (fun v1 ly1 M1 ⟨q1, q2, q3⟩ => ?_)
          rw [q1, q2, q3]
          obtain ⟨B0, eB⟩ : ∃ N9, N9 = sI A0 151 (upd (A0.1 151) (13 + 0) (nvF f n (nx f n i))) := ⟨_, rfl⟩
          rw [← eB]
          have rB0 : rlF M B0 := by rw [eB]; exact rA0.tr (rlF.r (by decide) ⟨by decide, by decide, by show 13 ≤ _; omega⟩)
          have hSB0 := by have h9 := hSA0.num (ix := 0) (x := nvF f n (nx f n i)) (by decide) (fun _ => nat2 bb0); rw [← eB] at h9; exact h9
          clear eB
          have hRB0 : RW ly B0.2.2 := by rw [rB0.1]; exact hR
          refine Rn.aload_n dX12_line_176 rfl ?_
          refine Rn.iconstv (v := 1) dX12_line_177 ic_1 ?_
          refine Rn.aload_n dX12_line_178 rfl ?_
          refine Rn.iconstv (v := 0) dX12_line_179 ic_0 ?_
          refine Rn.bipushv (v := 9) dX12_line_180 bp_9 ?_
          refine Rn.callV2 dX12_line_182 vX12_262 (rc149 hRB0) (by decide) rfl (rnum (M := B0) (i := nx f n (nx f n i)) hSB0.z hRB0) (by decide) ⟨(Nat.le_of_ble_eq_true rfl), (Nat.le_of_ble_eq_true rfl), (Nat.le_of_ble_eq_true rfl)⟩ (fun h => by cases h) (fun v1 ly1 A1 ⟨q2, hh⟩ => ?_)
          rw [q2]
          rcases hh with ⟨zz1, q1, bb1, tt1, za1⟩ | ⟨zz1, q1, gg1, hfa⟩
          · skip
            rw [q1]
            have rA1 : rlF M A1 := rB0.tr (rlF.tok tt1)
            have hSA1 := hSB0.tk tt1 za1
            have hRA1 : RW ly A1.2.2 := by rw [rA1.1]; exact hR
            refine Rn.callV2 dX12_line_185 vX12_265 (rc149 hRA1) (by decide) rfl (tX12_reads (M := A1) (k := 1) (x := nvF f n (nx f n (nx f n i))) (by decide) hRA1) (by omega) ⟨(Nat.le_of_ble_eq_true rfl), (Nat.le_of_ble_eq_true rfl), (Nat.le_of_ble_eq_true rfl)⟩ (fun h => by cases h) (fun v1 ly1 M1 ⟨q1, q2, q3⟩ => ?_)
            rw [q1, q2, q3]
            obtain ⟨B1, eB⟩ : ∃ N9, N9 = sI A1 151 (upd (A1.1 151) (13 + 1) (nvF f n (nx f n (nx f n i)))) := ⟨_, rfl⟩
            rw [← eB]
            have rB1 : rlF M B1 := by rw [eB]; exact rA1.tr (rlF.r (by decide) ⟨by decide, by decide, by show 13 ≤ _; omega⟩)
            have hSB1 := by have h9 := hSA1.num (ix := 1) (x := nvF f n (nx f n (nx f n i))) (by decide) (fun g => absurd g (by decide)); rw [← eB] at h9; exact h9
            clear eB
            have hRB1 : RW ly B1.2.2 := by rw [rB1.1]; exact hR
            refine Rn.aload_n dX12_line_188 rfl ?_
            refine Rn.iconstv (v := 2) dX12_line_189 ic_2 ?_
            refine Rn.aload_n dX12_line_190 rfl ?_
            refine Rn.iconstv (v := 0) dX12_line_191 ic_0 ?_
            refine Rn.bipushv (v := 9) dX12_line_192 bp_9 ?_
            refine Rn.callV2 dX12_line_194 vX12_262 (rc149 hRB1) (by decide) rfl (rnum (M := B1) (i := nx f n (nx f n (nx f n i))) hSB1.z hRB1) (by decide) ⟨(Nat.le_of_ble_eq_true rfl), (Nat.le_of_ble_eq_true rfl), (Nat.le_of_ble_eq_true rfl)⟩ (fun h => by cases h) (fun v1 ly1 A2 ⟨q2, hh⟩ => ?_)
            rw [q2]
            rcases hh with ⟨zz2, q1, bb2, tt2, za2⟩ | ⟨zz2, q1, gg2, hfa⟩
            · skip
              rw [q1]
              have rA2 : rlF M A2 := rB1.tr (rlF.tok tt2)
              have hSA2 := hSB1.tk tt2 za2
              have hRA2 : RW ly A2.2.2 := by rw [rA2.1]; exact hR
              refine Rn.callV2 dX12_line_197 vX12_265 (rc149 hRA2) (by decide) rfl (tX12_reads (M := A2) (k := 2) (x := nvF f n (nx f n (nx f n (nx f n i)))) (by decide) hRA2) (by omega) ⟨(Nat.le_of_ble_eq_true rfl), (Nat.le_of_ble_eq_true rfl), (Nat.le_of_ble_eq_true rfl)⟩ (fun h => by cases h) (fun v1 ly1 M1 ⟨q1, q2, q3⟩ => ?_)
              rw [q1, q2, q3]
              obtain ⟨B2, eB⟩ : ∃ N9, N9 = sI A2 151 (upd (A2.1 151) (13 + 2) (nvF f n (nx f n (nx f n (nx f n i))))) := ⟨_, rfl⟩
              rw [← eB]
              have rB2 : rlF M B2 := by rw [eB]; exact rA2.tr (rlF.r (by decide) ⟨by decide, by decide, by show 13 ≤ _; omega⟩)
              have hSB2 := by have h9 := hSA2.num (ix := 2) (x := nvF f n (nx f n (nx f n (nx f n i)))) (by decide) (fun g => absurd g (by decide)); rw [← eB] at h9; exact h9
              clear eB
              have hRB2 : RW ly B2.2.2 := by rw [rB2.1]; exact hR
              have hres := lnF_of (hln.trans ((if_neg htb).trans ((if_neg hhc).trans ((qK_0 zz0).trans ((qK_0 zz1).trans ((qK_0 zz2).trans (rfl)))))))
              refine Rn.goto dX12_line_200 ?_
              refine Rn.forget (lv' := [some (.ref 149), none, none, none]) (⟨rfl, trivial⟩) ?_
              rw [hres]
              exact rlTail hSB2 rB2 h23 hR
            · skip
              rw [q1]
              have rA2 : rlF M A2 := rB1.tr gg2
              have hRA2 : RW ly A2.2.2 := by rw [rA2.1]; exact hR
              have hf9 : ¬ A2.1 149 29 = 0 := fun g => hfa.2.1 (hfa.1.symm.trans g)
              refine Rn.callV2 dX12_line_197 vX12_265 (rc149 hRA2) (by decide) rfl (tX12_reads (M := A2) (k := 2) (x := 0) (by decide) hRA2) (by omega) ⟨(Nat.le_of_ble_eq_true rfl), (Nat.le_of_ble_eq_true rfl), (Nat.le_of_ble_eq_true rfl)⟩ (fun h => by cases h) (fun v1 ly1 M1 ⟨q1, q2, q3⟩ => ?_)
              rw [q1, q2, q3]
              obtain ⟨C2, eC⟩ : ∃ N9, N9 = sI A2 151 (upd (A2.1 151) (13 + 2) 0) := ⟨_, rfl⟩
              rw [← eC]
              have rC2 : rlF M C2 := by rw [eC]; exact rA2.tr (rlF.r (by decide) ⟨by decide, by decide, by show 13 ≤ _; omega⟩)
              have hfaC2 := hfa.of (K2 := C2) (by rw [eC]; rfl) (by rw [eC]; rfl)
              clear eC
              have hRC2 : RW ly C2.2.2 := by rw [rC2.1]; exact hR
              have hf9 : ¬ C2.1 149 29 = 0 := fun g => hfaC2.2.1 (hfaC2.1.symm.trans g)
              refine Rn.goto dX12_line_200 ?_
              refine Rn.forget (lv' := [some (.ref 149), none, none, none]) (⟨rfl, trivial⟩) ?_
              exact rlTail0 hfaC2 rC2 (lnF_no (hln.trans ((if_neg htb).trans ((if_neg hhc).trans ((qK_0 zz0).trans ((qK_0 zz1).trans (qK_n zz2))))))) hR
          · skip
            rw [q1]
            have rA1 : rlF M A1 := rB0.tr gg1
            have hRA1 : RW ly A1.2.2 := by rw [rA1.1]; exact hR
            have hf9 : ¬ A1.1 149 29 = 0 := fun g => hfa.2.1 (hfa.1.symm.trans g)
            refine Rn.callV2 dX12_line_185 vX12_265 (rc149 hRA1) (by decide) rfl (tX12_reads (M := A1) (k := 1) (x := 0) (by decide) hRA1) (by omega) ⟨(Nat.le_of_ble_eq_true rfl), (Nat.le_of_ble_eq_true rfl), (Nat.le_of_ble_eq_true rfl)⟩ (fun h => by cases h) (fun v1 ly1 M1 ⟨q1, q2, q3⟩ => ?_)
            rw [q1, q2, q3]
            obtain ⟨C1, eC⟩ : ∃ N9, N9 = sI A1 151 (upd (A1.1 151) (13 + 1) 0) := ⟨_, rfl⟩
            rw [← eC]
            have rC1 : rlF M C1 := by rw [eC]; exact rA1.tr (rlF.r (by decide) ⟨by decide, by decide, by show 13 ≤ _; omega⟩)
            have hfaC1 := hfa.of (K2 := C1) (by rw [eC]; rfl) (by rw [eC]; rfl)
            clear eC
            have hRC1 : RW ly C1.2.2 := by rw [rC1.1]; exact hR
            have hf9 : ¬ C1.1 149 29 = 0 := fun g => hfaC1.2.1 (hfaC1.1.symm.trans g)
            refine Rn.aload_n dX12_line_188 rfl ?_
            refine Rn.iconstv (v := 2) dX12_line_189 ic_2 ?_
            refine Rn.aload_n dX12_line_190 rfl ?_
            refine Rn.iconstv (v := 0) dX12_line_191 ic_0 ?_
            refine Rn.bipushv (v := 9) dX12_line_192 bp_9 ?_
            refine Rn.callV2 dX12_line_194 vX12_262 (rc149 hRC1) (by decide) rfl (rnum0 (M := C1) hf9 hRC1) (by omega) ⟨(Nat.le_of_ble_eq_true rfl), (Nat.le_of_ble_eq_true rfl), (Nat.le_of_ble_eq_true rfl)⟩ (fun h => by cases h) (fun v1 ly1 M1 ⟨q1, q2, q3⟩ => ?_)
            rw [q1, q2, q3]
            refine Rn.callV2 dX12_line_197 vX12_265 (rc149 hRC1) (by decide) rfl (tX12_reads (M := C1) (k := 2) (x := 0) (by decide) hRC1) (by omega) ⟨(Nat.le_of_ble_eq_true rfl), (Nat.le_of_ble_eq_true rfl), (Nat.le_of_ble_eq_true rfl)⟩ (fun h => by cases h) (fun v1 ly1 M1 ⟨q1, q2, q3⟩ => ?_)
            rw [q1, q2, q3]
            obtain ⟨C2, eC⟩ : ∃ N9, N9 = sI C1 151 (upd (C1.1 151) (13 + 2) 0) := ⟨_, rfl⟩
            rw [← eC]
            have rC2 : rlF M C2 := by rw [eC]; exact rC1.tr (rlF.r (by decide) ⟨by decide, by decide, by show 13 ≤ _; omega⟩)
            have hfaC2 := hfaC1.of (K2 := C2) (by rw [eC]; rfl) (by rw [eC]; rfl)
            clear eC
            have hRC2 : RW ly C2.2.2 := by rw [rC2.1]; exact hR
            have hf9 : ¬ C2.1 149 29 = 0 := fun g => hfaC2.2.1 (hfaC2.1.symm.trans g)
            refine Rn.goto dX12_line_200 ?_
            refine Rn.forget (lv' := [some (.ref 149), none, none, none]) (⟨rfl, trivial⟩) ?_
            exact rlTail0 hfaC2 rC2 (lnF_no (hln.trans ((if_neg htb).trans ((if_neg hhc).trans ((qK_0 zz0).trans (qK_n zz1)))))) hR
        · skip
          rw [q1]
          have rA0 : rlF M A0 := r2.tr gg0
          have hRA0 : RW ly A0.2.2 := by rw [rA0.1]; exact hR
          have hf9 : ¬ A0.1 149 29 = 0 := fun g => hfa.2.1 (hfa.1.symm.trans g)
          refine Rn.callV2 dX12_line_173 vX12_265 (rc149 hRA0) (by decide) rfl (tX12_reads (M := A0) (k := 0) (x := 2) (by decide) hRA0) (by omega) ⟨(Nat.le_of_ble_eq_true rfl), (Nat.le_of_ble_eq_true rfl), (Nat.le_of_ble_eq_true rfl)⟩ (fun h => by cases h) (fun v1 ly1 M1 ⟨q1, q2, q3⟩ => ?_)
          rw [q1, q2, q3]
          obtain ⟨C0, eC⟩ : ∃ N9, N9 = sI A0 151 (upd (A0.1 151) (13 + 0) 2) := ⟨_, rfl⟩
          rw [← eC]
          have rC0 : rlF M C0 := by rw [eC]; exact rA0.tr (rlF.r (by decide) ⟨by decide, by decide, by show 13 ≤ _; omega⟩)
          have hfaC0 := hfa.of (K2 := C0) (by rw [eC]; rfl) (by rw [eC]; rfl)
          clear eC
          have hRC0 : RW ly C0.2.2 := by rw [rC0.1]; exact hR
          have hf9 : ¬ C0.1 149 29 = 0 := fun g => hfaC0.2.1 (hfaC0.1.symm.trans g)
          refine Rn.aload_n dX12_line_176 rfl ?_
          refine Rn.iconstv (v := 1) dX12_line_177 ic_1 ?_
          refine Rn.aload_n dX12_line_178 rfl ?_
          refine Rn.iconstv (v := 0) dX12_line_179 ic_0 ?_
          refine Rn.bipushv (v := 9) dX12_line_180 bp_9 ?_
          refine Rn.callV2 dX12_line_182 vX12_262 (rc149 hRC0) (by decide) rfl (rnum0 (M := C0) hf9 hRC0) (by omega) ⟨(Nat.le_of_ble_eq_true rfl), (Nat.le_of_ble_eq_true rfl), (Nat.le_of_ble_eq_true rfl)⟩ (fun h => by cases h) (fun v1 ly1 M1 ⟨q1, q2, q3⟩ => ?_)
          rw [q1, q2, q3]
          refine Rn.callV2 dX12_line_185 vX12_265 (rc149 hRC0) (by decide) rfl (tX12_reads (M := C0) (k := 1) (x := 0) (by decide) hRC0) (by omega) ⟨(Nat.le_of_ble_eq_true rfl), (Nat.le_of_ble_eq_true rfl), (Nat.le_of_ble_eq_true rfl)⟩ (fun h => by cases h) (fun v1 ly1 M1 ⟨q1, q2, q3⟩ => ?_)
          rw [q1, q2, q3]
          obtain ⟨C1, eC⟩ : ∃ N9, N9 = sI C0 151 (upd (C0.1 151) (13 + 1) 0) := ⟨_, rfl⟩
          rw [← eC]
          have rC1 : rlF M C1 := by rw [eC]; exact rC0.tr (rlF.r (by decide) ⟨by decide, by decide, by show 13 ≤ _; omega⟩)
          have hfaC1 := hfaC0.of (K2 := C1) (by rw [eC]; rfl) (by rw [eC]; rfl)
          clear eC
          have hRC1 : RW ly C1.2.2 := by rw [rC1.1]; exact hR
          have hf9 : ¬ C1.1 149 29 = 0 := fun g => hfaC1.2.1 (hfaC1.1.symm.trans g)
          refine Rn.aload_n dX12_line_188 rfl ?_
          refine Rn.iconstv (v := 2) dX12_line_189 ic_2 ?_
          refine Rn.aload_n dX12_line_190 rfl ?_
          refine Rn.iconstv (v := 0) dX12_line_191 ic_0 ?_
          refine Rn.bipushv (v := 9) dX12_line_192 bp_9 ?_
          refine Rn.callV2 dX12_line_194 vX12_262 (rc149 hRC1) (by decide) rfl (rnum0 (M := C1) hf9 hRC1) (by omega) ⟨(Nat.le_of_ble_eq_true rfl), (Nat.le_of_ble_eq_true rfl), (Nat.le_of_ble_eq_true rfl)⟩ (fun h => by cases h) (fun v1 ly1 M1 ⟨q1, q2, q3⟩ => ?_)
          rw [q1, q2, q3]
          refine Rn.callV2 dX12_line_197 vX12_265 (rc149 hRC1) (by decide) rfl (tX12_reads (M := C1) (k := 2) (x := 0) (by decide) hRC1) (by omega) ⟨(Nat.le_of_ble_eq_true rfl), (Nat.le_of_ble_eq_true rfl), (Nat.le_of_ble_eq_true rfl)⟩ (fun h => by cases h) (fun v1 ly1 M1 ⟨q1, q2, q3⟩ => ?_)
          rw [q1, q2, q3]
          obtain ⟨C2, eC⟩ : ∃ N9, N9 = sI C1 151 (upd (C1.1 151) (13 + 2) 0) := ⟨_, rfl⟩
          rw [← eC]
          have rC2 : rlF M C2 := by rw [eC]; exact rC1.tr (rlF.r (by decide) ⟨by decide, by decide, by show 13 ≤ _; omega⟩)
          have hfaC2 := hfaC1.of (K2 := C2) (by rw [eC]; rfl) (by rw [eC]; rfl)
          clear eC
          have hRC2 : RW ly C2.2.2 := by rw [rC2.1]; exact hR
          have hf9 : ¬ C2.1 149 29 = 0 := fun g => hfaC2.2.1 (hfaC2.1.symm.trans g)
          refine Rn.goto dX12_line_200 ?_
          refine Rn.forget (lv' := [some (.ref 149), none, none, none]) (⟨rfl, trivial⟩) ?_
          exact rlTail0 hfaC2 rC2 (lnF_no (hln.trans ((if_neg htb).trans ((if_neg hhc).trans (qK_n zz0))))) hR
      · skip
        have hhc : p.hc = true := Classical.byContradiction (fun g => h22b (by rw [h22, if_neg g]))
        refine Rn.aload_n dX12_line_81 rfl ?_
        refine Rn.iconstv (v := 4) dX12_line_82 ic_4 ?_
        refine Rn.callV1 dX12_line_83 vX12_231 (rc149 hR) (by decide) rfl (rdWrong (M := M) (x := 4) hz.2.2 hR) (by omega) ⟨(Nat.le_of_ble_eq_true rfl), (Nat.le_of_ble_eq_true rfl), (Nat.le_of_ble_eq_true rfl)⟩ (fun h => by cases h) (fun v1 ly1 M1 ⟨q1, q2, q3⟩ => ?_)
        rw [q1, q2, q3]
        have hfa := hz.wr (k := 4) (by decide)
        obtain ⟨N9, e9⟩ : ∃ N0, N0 = wrM M 4 := ⟨_, rfl⟩
        rw [← e9]
        rw [← e9] at hfa
        have rN9 : rlF M N9 := by rw [e9]; exact rlF.wr
        clear e9
        have hRN9 : RW ly N9.2.2 := by rw [rN9.1]; exact hR
        refine Rn.aload_n dX12_line_86 rfl ?_
        refine Rn.getI dX12_line_87 fX12_222 rfl (rc149 hRN9) ?_
        refine Rn.if_eq dX12_line_90 (fun h9 => absurd (hfa.1.symm.trans h9) hfa.2.1) (fun h9 => ?_)
        exact Rn.vret dX12_line_93 rfl ⟨rfl, rfl, rN9.g, Or.inr ⟨_, _, lnF_no (hln.trans ((if_neg htb).trans (if_pos hhc))), hfa⟩⟩
    · skip
      have htb : p.tb 0 = true := hbt.mp hto
      refine Rn.aload_n dX12_line_62 rfl ?_
      refine Rn.iconstv (v := 3) dX12_line_63 ic_3 ?_
      refine Rn.callV1 dX12_line_64 vX12_231 (rc149 hR) (by decide) rfl (rdWrong (M := M) (x := 3) hz.2.2 hR) (by omega) ⟨(Nat.le_of_ble_eq_true rfl), (Nat.le_of_ble_eq_true rfl), (Nat.le_of_ble_eq_true rfl)⟩ (fun h => by cases h) (fun v1 ly1 M1 ⟨q1, q2, q3⟩ => ?_)
      rw [q1, q2, q3]
      have hfa := hz.wr (k := 3) (by decide)
      obtain ⟨N9, e9⟩ : ∃ N0, N0 = wrM M 3 := ⟨_, rfl⟩
      rw [← e9]
      rw [← e9] at hfa
      have rN9 : rlF M N9 := by rw [e9]; exact rlF.wr
      clear e9
      have hRN9 : RW ly N9.2.2 := by rw [rN9.1]; exact hR
      refine Rn.goto dX12_line_67 ?_
      refine Rn.aload_n dX12_line_86 rfl ?_
      refine Rn.getI dX12_line_87 fX12_222 rfl (rc149 hRN9) ?_
      refine Rn.if_eq dX12_line_90 (fun h9 => absurd (hfa.1.symm.trans h9) hfa.2.1) (fun h9 => ?_)
      exact Rn.vret dX12_line_93 rfl ⟨rfl, rfl, rN9.g, Or.inr ⟨_, _, lnF_no (hln.trans (if_pos htb)), hfa⟩⟩
  · skip
    by_cases c1 : kdF f n i = 1
    · skip
      have hln : lnC (kdF f n) (nvF f n) (nx f n) p i = _ := (if_neg (show ¬ kdF f n i = 0 by rw [c1]; decide)).trans (if_pos c1)
      have hsv := (htc.1.w (w := 1) (by decide)).mpr (htc.2.1.trans c1)
      refine Rn.aload_n dX12_line_0 rfl ?_
      refine Rn.getI dX12_line_1 fX12_188 rfl (rc149 hR) ?_
      refine Rn.topI (y := 0) (hsv.1) ?_
      refine Rn.if_ne dX12_line_4 (fun h9 => (by first | exact absurd h9 (by decide) | exact absurd (by decide) h9)) (fun h9 => ?_)
      refine Rn.aload_n dX12_line_7 rfl ?_
      refine Rn.getI dX12_line_8 fX12_198 rfl (rc149 hR) ?_
      refine Rn.topI (y := 1) (hsv.2) ?_
      refine Rn.bipushv (v := 10) dX12_line_11 bp_10 ?_
      refine Rn.icmp_le dX12_line_13 (fun h9 => ?_) (fun h9 => (by first | exact absurd h9 (by decide) | exact absurd (by decide) h9))
      refine Rn.aload_n dX12_line_22 rfl ?_
      refine Rn.getI dX12_line_23 fX12_198 rfl (rc149 hR) ?_
      refine Rn.topI (y := 1) (hsv.2) ?_
      refine Rn.istore_n (lv' := [some (.ref 149), some (.int 1), none, none]) dX12_line_26 (by decide) rfl ?_
      refine Rn.aload_n dX12_line_27 rfl ?_
      refine Rn.iload_n dX12_line_28 rfl ?_
      refine Rn.callV1 dX12_line_29 vX12_249 (rc149 hR) (by decide) rfl (tX12_isFull (M := M) (x := 1) hR) (by decide) ⟨(Nat.le_of_ble_eq_true rfl), (Nat.le_of_ble_eq_true rfl), (Nat.le_of_ble_eq_true rfl)⟩ (fun h => by cases h) (fun v1 ly1 M1 ⟨q1, q2, q3⟩ => ?_)
      rw [q1, q2, q3]
      refine Rn.topI (y := 0) (if_neg (by rintro (g | g | g | g) <;> exact absurd g.1 (by decide))) ?_
      refine Rn.if_eq dX12_line_32 (fun h9 => ?_) (fun h9 => (by first | exact absurd h9 (by decide) | exact absurd (by decide) h9))
      refine Rn.iload_n dX12_line_43 rfl ?_
      refine Rn.callS1 dX12_line_44 vX12_252 (tX12_isOnce (M := M) (x := 1)) (by decide) ⟨(Nat.le_of_ble_eq_true rfl), (Nat.le_of_ble_eq_true rfl), (Nat.le_of_ble_eq_true rfl)⟩ (fun h => by cases h) (fun v1 ly1 M1 ⟨q1, q2, q3⟩ => ?_)
      rw [q1, q2, q3]
      refine Rn.topI (y := 1) (by decide) ?_
      refine Rn.if_eq dX12_line_47 (fun h9 => (by first | exact absurd h9 (by decide) | exact absurd (by decide) h9)) (fun h9 => ?_)
      have hbt : ((M.1 149 21) >>> (1 &&& 31)) &&& 1 = 1 ↔ p.tb 1 = true := by rw [← hbw.1 1 (by decide)]; exact bt2 (M.1 149 21) (j := 1) (by decide)
      refine Rn.aload_n dX12_line_50 rfl ?_
      refine Rn.getI dX12_line_51 fX12_255 rfl (rc149 hR) ?_
      refine Rn.iload_n dX12_line_54 rfl ?_
      refine Rn.ishr dX12_line_55 ?_
      refine Rn.iconstv (v := 1) dX12_line_56 ic_1 ?_
      refine Rn.iand dX12_line_57 ?_
      refine Rn.iconstv (v := 1) dX12_line_58 ic_1 ?_
      refine Rn.icmp_ne dX12_line_59 (fun hto => ?_) (fun hto => ?_)
      · skip
        have htb : ¬ p.tb 1 = true := fun g => hto (hbt.mpr g)
        refine Rn.iload_n dX12_line_70 rfl ?_
        refine Rn.if_ne dX12_line_71 (fun h9 => ?_) (fun h9 => (by first | exact absurd h9 (by decide) | exact absurd (by decide) h9))
        refine Rn.aload_n dX12_line_86 rfl ?_
        refine Rn.getI dX12_line_87 fX12_222 rfl (rc149 hR) ?_
        refine Rn.if_eq dX12_line_90 (fun h9 => ?_) (fun h9 => absurd h29 h9)
        refine Rn.aload_n dX12_line_94 rfl ?_
        refine Rn.dup dX12_line_95 rfl ?_
        refine Rn.getI dX12_line_96 fX12_255 rfl (rc149 hR) ?_
        refine Rn.iconstv (v := 1) dX12_line_99 ic_1 ?_
        refine Rn.iload_n dX12_line_100 rfl ?_
        refine Rn.ishl dX12_line_101 ?_
        refine Rn.ior dX12_line_102 ?_
        refine Rn.putI dX12_line_103 fX12_255 rfl rfl rfl (rc149 hR) ?_
        refine Rn.aload_n dX12_line_106 rfl ?_
        obtain ⟨N1, e1⟩ : ∃ N9, N9 = sI M 149 (upd (M.1 149) 21 ((M.1 149 21) ||| ((1 : Int32) <<< (1 &&& 31)))) := ⟨_, rfl⟩
        rw [← e1]
        have r1 : rlF M N1 := by rw [e1]; exact rlF.f (fun j hj => pk_un (by omega))
        have hS1 : RPs N1 f n (p.D, p.ct, p.lw, p.c, setB p.tb 1 true, p.hc) i := by rw [e1]; exact hS0.told (hbw.or (k := 1) (by decide) _ (fun j hj => rfl) ⟨rfl, rfl⟩)
        clear e1
        have hRN1 : RW ly N1.2.2 := by rw [r1.1]; exact hR
        refine Rn.callV0 dX12_line_107 vX12_228 (rc149 hRN1) (by decide) rfl (rtok (M := N1) hS1.z hRN1) (by decide) ⟨(Nat.le_of_ble_eq_true rfl), (Nat.le_of_ble_eq_true rfl), (Nat.le_of_ble_eq_true rfl)⟩ (fun h => by cases h) (fun v1 ly1 N2 ⟨q1, q2, t1, z1⟩ => ?_)
        rw [q1, q2]
        have r2 : rlF M N2 := r1.tr (rlF.tok t1)
        have hS2 := hS1.tk t1 z1
        have hRN2 : RW ly N2.2.2 := by rw [r2.1]; exact hR
        clear hS1
        refine Rn.iload_n dX12_line_110 rfl ?_
        refine Rn.tableIn (off := 92) (tgt := 203) dX12_line_111 (by decide) (by decide) (by decide) (by decide) ?_
        refine Rn.aload_n dX12_line_203 rfl ?_
        refine Rn.iconstv (v := 3) dX12_line_204 ic_3 ?_
        refine Rn.aload_n dX12_line_205 rfl ?_
        refine Rn.iconstv (v := 0) dX12_line_206 ic_0 ?_
        refine Rn.bipushv (v := 99) dX12_line_207 bp_99 ?_
        refine Rn.callV2 dX12_line_209 vX12_262 (rc149 hRN2) (by decide) rfl (rnum (M := N2) (i := nx f n i) hS2.z hRN2) (by decide) ⟨(Nat.le_of_ble_eq_true rfl), (Nat.le_of_ble_eq_true rfl), (Nat.le_of_ble_eq_true rfl)⟩ (fun h => by cases h) (fun v1 ly1 A0 ⟨q2, hh⟩ => ?_)
        rw [q2]
        rcases hh with ⟨zz0, q1, bb0, tt0, za0⟩ | ⟨zz0, q1, gg0, hfa⟩
        · skip
          rw [q1]
          have rA0 : rlF M A0 := r2.tr (rlF.tok tt0)
          have hSA0 := hS2.tk tt0 za0
          have hRA0 : RW ly A0.2.2 := by rw [rA0.1]; exact hR
          refine Rn.callV2 dX12_line_212 vX12_265 (rc149 hRA0) (by decide) rfl (tX12_reads (M := A0) (k := 3) (x := nvF f n (nx f n i)) (by decide) hRA0) (by omega) ⟨(Nat.le_of_ble_eq_true rfl), (Nat.le_of_ble_eq_true rfl), (Nat.le_of_ble_eq_true rfl)⟩ (fun h => by cases h) (fun v1 ly1 M1 ⟨q1, q2, q3⟩ => ?_)
          rw [q1, q2, q3]
          obtain ⟨B0, eB⟩ : ∃ N9, N9 = sI A0 151 (upd (A0.1 151) (13 + 3) (nvF f n (nx f n i))) := ⟨_, rfl⟩
          rw [← eB]
          have rB0 : rlF M B0 := by rw [eB]; exact rA0.tr (rlF.r (by decide) ⟨by decide, by decide, by show 13 ≤ _; omega⟩)
          have hSB0 := by have h9 := hSA0.num (ix := 3) (x := nvF f n (nx f n i)) (by decide) (fun g => absurd g (by decide)); rw [← eB] at h9; exact h9
          clear eB
          have hRB0 : RW ly B0.2.2 := by rw [rB0.1]; exact hR
          have hres := lnF_of (hln.trans ((if_neg htb).trans ((qK_0 zz0).trans (rfl))))
          refine Rn.goto dX12_line_215 ?_
          refine Rn.forget (lv' := [some (.ref 149), none, none, none]) (⟨rfl, trivial⟩) ?_
          rw [hres]
          exact rlTail hSB0 rB0 h23 hR
        · skip
          rw [q1]
          have rA0 : rlF M A0 := r2.tr gg0
          have hRA0 : RW ly A0.2.2 := by rw [rA0.1]; exact hR
          have hf9 : ¬ A0.1 149 29 = 0 := fun g => hfa.2.1 (hfa.1.symm.trans g)
          refine Rn.callV2 dX12_line_212 vX12_265 (rc149 hRA0) (by decide) rfl (tX12_reads (M := A0) (k := 3) (x := 0) (by decide) hRA0) (by omega) ⟨(Nat.le_of_ble_eq_true rfl), (Nat.le_of_ble_eq_true rfl), (Nat.le_of_ble_eq_true rfl)⟩ (fun h => by cases h) (fun v1 ly1 M1 ⟨q1, q2, q3⟩ => ?_)
          rw [q1, q2, q3]
          obtain ⟨C0, eC⟩ : ∃ N9, N9 = sI A0 151 (upd (A0.1 151) (13 + 3) 0) := ⟨_, rfl⟩
          rw [← eC]
          have rC0 : rlF M C0 := by rw [eC]; exact rA0.tr (rlF.r (by decide) ⟨by decide, by decide, by show 13 ≤ _; omega⟩)
          have hfaC0 := hfa.of (K2 := C0) (by rw [eC]; rfl) (by rw [eC]; rfl)
          clear eC
          have hRC0 : RW ly C0.2.2 := by rw [rC0.1]; exact hR
          have hf9 : ¬ C0.1 149 29 = 0 := fun g => hfaC0.2.1 (hfaC0.1.symm.trans g)
          refine Rn.goto dX12_line_215 ?_
          refine Rn.forget (lv' := [some (.ref 149), none, none, none]) (⟨rfl, trivial⟩) ?_
          exact rlTail0 hfaC0 rC0 (lnF_no (hln.trans ((if_neg htb).trans (qK_n zz0)))) hR
      · skip
        have htb : p.tb 1 = true := hbt.mp hto
        refine Rn.aload_n dX12_line_62 rfl ?_
        refine Rn.iconstv (v := 3) dX12_line_63 ic_3 ?_
        refine Rn.callV1 dX12_line_64 vX12_231 (rc149 hR) (by decide) rfl (rdWrong (M := M) (x := 3) hz.2.2 hR) (by omega) ⟨(Nat.le_of_ble_eq_true rfl), (Nat.le_of_ble_eq_true rfl), (Nat.le_of_ble_eq_true rfl)⟩ (fun h => by cases h) (fun v1 ly1 M1 ⟨q1, q2, q3⟩ => ?_)
        rw [q1, q2, q3]
        have hfa := hz.wr (k := 3) (by decide)
        obtain ⟨N9, e9⟩ : ∃ N0, N0 = wrM M 3 := ⟨_, rfl⟩
        rw [← e9]
        rw [← e9] at hfa
        have rN9 : rlF M N9 := by rw [e9]; exact rlF.wr
        clear e9
        have hRN9 : RW ly N9.2.2 := by rw [rN9.1]; exact hR
        refine Rn.goto dX12_line_67 ?_
        refine Rn.aload_n dX12_line_86 rfl ?_
        refine Rn.getI dX12_line_87 fX12_222 rfl (rc149 hRN9) ?_
        refine Rn.if_eq dX12_line_90 (fun h9 => absurd (hfa.1.symm.trans h9) hfa.2.1) (fun h9 => ?_)
        exact Rn.vret dX12_line_93 rfl ⟨rfl, rfl, rN9.g, Or.inr ⟨_, _, lnF_no (hln.trans (if_pos htb)), hfa⟩⟩
    · skip
      by_cases c2 : kdF f n i = 2
      · skip
        have hln : lnC (kdF f n) (nvF f n) (nx f n) p i = _ := (if_neg (show ¬ kdF f n i = 0 by rw [c2]; decide)).trans ((if_neg (show ¬ kdF f n i = 1 by rw [c2]; decide)).trans (if_pos c2))
        have hsv := (htc.1.w (w := 2) (by decide)).mpr (htc.2.1.trans c2)
        refine Rn.aload_n dX12_line_0 rfl ?_
        refine Rn.getI dX12_line_1 fX12_188 rfl (rc149 hR) ?_
        refine Rn.topI (y := 0) (hsv.1) ?_
        refine Rn.if_ne dX12_line_4 (fun h9 => (by first | exact absurd h9 (by decide) | exact absurd (by decide) h9)) (fun h9 => ?_)
        refine Rn.aload_n dX12_line_7 rfl ?_
        refine Rn.getI dX12_line_8 fX12_198 rfl (rc149 hR) ?_
        refine Rn.topI (y := 2) (hsv.2) ?_
        refine Rn.bipushv (v := 10) dX12_line_11 bp_10 ?_
        refine Rn.icmp_le dX12_line_13 (fun h9 => ?_) (fun h9 => (by first | exact absurd h9 (by decide) | exact absurd (by decide) h9))
        refine Rn.aload_n dX12_line_22 rfl ?_
        refine Rn.getI dX12_line_23 fX12_198 rfl (rc149 hR) ?_
        refine Rn.topI (y := 2) (hsv.2) ?_
        refine Rn.istore_n (lv' := [some (.ref 149), some (.int 2), none, none]) dX12_line_26 (by decide) rfl ?_
        refine Rn.aload_n dX12_line_27 rfl ?_
        refine Rn.iload_n dX12_line_28 rfl ?_
        refine Rn.callV1 dX12_line_29 vX12_249 (rc149 hR) (by decide) rfl (tX12_isFull (M := M) (x := 2) hR) (by decide) ⟨(Nat.le_of_ble_eq_true rfl), (Nat.le_of_ble_eq_true rfl), (Nat.le_of_ble_eq_true rfl)⟩ (fun h => by cases h) (fun v1 ly1 M1 ⟨q1, q2, q3⟩ => ?_)
        rw [q1, q2, q3]
        refine Rn.topI (y := 0) (if_neg (by rintro (g | g | g | g) <;> exact absurd g.1 (by decide))) ?_
        refine Rn.if_eq dX12_line_32 (fun h9 => ?_) (fun h9 => (by first | exact absurd h9 (by decide) | exact absurd (by decide) h9))
        refine Rn.iload_n dX12_line_43 rfl ?_
        refine Rn.callS1 dX12_line_44 vX12_252 (tX12_isOnce (M := M) (x := 2)) (by decide) ⟨(Nat.le_of_ble_eq_true rfl), (Nat.le_of_ble_eq_true rfl), (Nat.le_of_ble_eq_true rfl)⟩ (fun h => by cases h) (fun v1 ly1 M1 ⟨q1, q2, q3⟩ => ?_)
        rw [q1, q2, q3]
        refine Rn.topI (y := 1) (by decide) ?_
        refine Rn.if_eq dX12_line_47 (fun h9 => (by first | exact absurd h9 (by decide) | exact absurd (by decide) h9)) (fun h9 => ?_)
        have hbt : ((M.1 149 21) >>> (2 &&& 31)) &&& 1 = 1 ↔ p.tb 2 = true := by rw [← hbw.1 2 (by decide)]; exact bt2 (M.1 149 21) (j := 2) (by decide)
        refine Rn.aload_n dX12_line_50 rfl ?_
        refine Rn.getI dX12_line_51 fX12_255 rfl (rc149 hR) ?_
        refine Rn.iload_n dX12_line_54 rfl ?_
        refine Rn.ishr dX12_line_55 ?_
        refine Rn.iconstv (v := 1) dX12_line_56 ic_1 ?_
        refine Rn.iand dX12_line_57 ?_
        refine Rn.iconstv (v := 1) dX12_line_58 ic_1 ?_
        refine Rn.icmp_ne dX12_line_59 (fun hto => ?_) (fun hto => ?_)
        · skip
          have htb : ¬ p.tb 2 = true := fun g => hto (hbt.mpr g)
          refine Rn.iload_n dX12_line_70 rfl ?_
          refine Rn.if_ne dX12_line_71 (fun h9 => ?_) (fun h9 => (by first | exact absurd h9 (by decide) | exact absurd (by decide) h9))
          refine Rn.aload_n dX12_line_86 rfl ?_
          refine Rn.getI dX12_line_87 fX12_222 rfl (rc149 hR) ?_
          refine Rn.if_eq dX12_line_90 (fun h9 => ?_) (fun h9 => absurd h29 h9)
          refine Rn.aload_n dX12_line_94 rfl ?_
          refine Rn.dup dX12_line_95 rfl ?_
          refine Rn.getI dX12_line_96 fX12_255 rfl (rc149 hR) ?_
          refine Rn.iconstv (v := 1) dX12_line_99 ic_1 ?_
          refine Rn.iload_n dX12_line_100 rfl ?_
          refine Rn.ishl dX12_line_101 ?_
          refine Rn.ior dX12_line_102 ?_
          refine Rn.putI dX12_line_103 fX12_255 rfl rfl rfl (rc149 hR) ?_
          refine Rn.aload_n dX12_line_106 rfl ?_
          obtain ⟨N1, e1⟩ : ∃ N9, N9 = sI M 149 (upd (M.1 149) 21 ((M.1 149 21) ||| ((1 : Int32) <<< (2 &&& 31)))) := ⟨_, rfl⟩
          rw [← e1]
          have r1 : rlF M N1 := by rw [e1]; exact rlF.f (fun j hj => pk_un (by omega))
          have hS1 : RPs N1 f n (p.D, p.ct, p.lw, p.c, setB p.tb 2 true, p.hc) i := by rw [e1]; exact hS0.told (hbw.or (k := 2) (by decide) _ (fun j hj => rfl) ⟨rfl, rfl⟩)
          clear e1
          have hRN1 : RW ly N1.2.2 := by rw [r1.1]; exact hR
          refine Rn.callV0 dX12_line_107 vX12_228 (rc149 hRN1) (by decide) rfl (rtok (M := N1) hS1.z hRN1) (by decide) ⟨(Nat.le_of_ble_eq_true rfl), (Nat.le_of_ble_eq_true rfl), (Nat.le_of_ble_eq_true rfl)⟩ (fun h => by cases h) (fun v1 ly1 N2 ⟨q1, q2, t1, z1⟩ => ?_)
          rw [q1, q2]
          have r2 : rlF M N2 := r1.tr (rlF.tok t1)
          have hS2 := hS1.tk t1 z1
          have hRN2 : RW ly N2.2.2 := by rw [r2.1]; exact hR
          clear hS1
          refine Rn.iload_n dX12_line_110 rfl ?_
          refine Rn.tableIn (off := 107) (tgt := 218) dX12_line_111 (by decide) (by decide) (by decide) (by decide) ?_
          refine Rn.aload_n dX12_line_218 rfl ?_
          refine Rn.iconstv (v := 4) dX12_line_219 ic_4 ?_
          refine Rn.aload_n dX12_line_220 rfl ?_
          refine Rn.iconstv (v := 0) dX12_line_221 ic_0 ?_
          refine Rn.bipushv (v := 9) dX12_line_222 bp_9 ?_
          refine Rn.callV2 dX12_line_224 vX12_262 (rc149 hRN2) (by decide) rfl (rnum (M := N2) (i := nx f n i) hS2.z hRN2) (by decide) ⟨(Nat.le_of_ble_eq_true rfl), (Nat.le_of_ble_eq_true rfl), (Nat.le_of_ble_eq_true rfl)⟩ (fun h => by cases h) (fun v1 ly1 A0 ⟨q2, hh⟩ => ?_)
          rw [q2]
          rcases hh with ⟨zz0, q1, bb0, tt0, za0⟩ | ⟨zz0, q1, gg0, hfa⟩
          · skip
            rw [q1]
            have rA0 : rlF M A0 := r2.tr (rlF.tok tt0)
            have hSA0 := hS2.tk tt0 za0
            have hRA0 : RW ly A0.2.2 := by rw [rA0.1]; exact hR
            refine Rn.callV2 dX12_line_227 vX12_265 (rc149 hRA0) (by decide) rfl (tX12_reads (M := A0) (k := 4) (x := nvF f n (nx f n i)) (by decide) hRA0) (by omega) ⟨(Nat.le_of_ble_eq_true rfl), (Nat.le_of_ble_eq_true rfl), (Nat.le_of_ble_eq_true rfl)⟩ (fun h => by cases h) (fun v1 ly1 M1 ⟨q1, q2, q3⟩ => ?_)
            rw [q1, q2, q3]
            obtain ⟨B0, eB⟩ : ∃ N9, N9 = sI A0 151 (upd (A0.1 151) (13 + 4) (nvF f n (nx f n i))) := ⟨_, rfl⟩
            rw [← eB]
            have rB0 : rlF M B0 := by rw [eB]; exact rA0.tr (rlF.r (by decide) ⟨by decide, by decide, by show 13 ≤ _; omega⟩)
            have hSB0 := by have h9 := hSA0.num (ix := 4) (x := nvF f n (nx f n i)) (by decide) (fun g => absurd g (by decide)); rw [← eB] at h9; exact h9
            clear eB
            have hRB0 : RW ly B0.2.2 := by rw [rB0.1]; exact hR
            have hres := lnF_of (hln.trans ((if_neg htb).trans ((qK_0 zz0).trans (rfl))))
            refine Rn.goto dX12_line_230 ?_
            refine Rn.forget (lv' := [some (.ref 149), none, none, none]) (⟨rfl, trivial⟩) ?_
            rw [hres]
            exact rlTail hSB0 rB0 h23 hR
          · skip
            rw [q1]
            have rA0 : rlF M A0 := r2.tr gg0
            have hRA0 : RW ly A0.2.2 := by rw [rA0.1]; exact hR
            have hf9 : ¬ A0.1 149 29 = 0 := fun g => hfa.2.1 (hfa.1.symm.trans g)
            refine Rn.callV2 dX12_line_227 vX12_265 (rc149 hRA0) (by decide) rfl (tX12_reads (M := A0) (k := 4) (x := 0) (by decide) hRA0) (by omega) ⟨(Nat.le_of_ble_eq_true rfl), (Nat.le_of_ble_eq_true rfl), (Nat.le_of_ble_eq_true rfl)⟩ (fun h => by cases h) (fun v1 ly1 M1 ⟨q1, q2, q3⟩ => ?_)
            rw [q1, q2, q3]
            obtain ⟨C0, eC⟩ : ∃ N9, N9 = sI A0 151 (upd (A0.1 151) (13 + 4) 0) := ⟨_, rfl⟩
            rw [← eC]
            have rC0 : rlF M C0 := by rw [eC]; exact rA0.tr (rlF.r (by decide) ⟨by decide, by decide, by show 13 ≤ _; omega⟩)
            have hfaC0 := hfa.of (K2 := C0) (by rw [eC]; rfl) (by rw [eC]; rfl)
            clear eC
            have hRC0 : RW ly C0.2.2 := by rw [rC0.1]; exact hR
            have hf9 : ¬ C0.1 149 29 = 0 := fun g => hfaC0.2.1 (hfaC0.1.symm.trans g)
            refine Rn.goto dX12_line_230 ?_
            refine Rn.forget (lv' := [some (.ref 149), none, none, none]) (⟨rfl, trivial⟩) ?_
            exact rlTail0 hfaC0 rC0 (lnF_no (hln.trans ((if_neg htb).trans (qK_n zz0)))) hR
        · skip
          have htb : p.tb 2 = true := hbt.mp hto
          refine Rn.aload_n dX12_line_62 rfl ?_
          refine Rn.iconstv (v := 3) dX12_line_63 ic_3 ?_
          refine Rn.callV1 dX12_line_64 vX12_231 (rc149 hR) (by decide) rfl (rdWrong (M := M) (x := 3) hz.2.2 hR) (by omega) ⟨(Nat.le_of_ble_eq_true rfl), (Nat.le_of_ble_eq_true rfl), (Nat.le_of_ble_eq_true rfl)⟩ (fun h => by cases h) (fun v1 ly1 M1 ⟨q1, q2, q3⟩ => ?_)
          rw [q1, q2, q3]
          have hfa := hz.wr (k := 3) (by decide)
          obtain ⟨N9, e9⟩ : ∃ N0, N0 = wrM M 3 := ⟨_, rfl⟩
          rw [← e9]
          rw [← e9] at hfa
          have rN9 : rlF M N9 := by rw [e9]; exact rlF.wr
          clear e9
          have hRN9 : RW ly N9.2.2 := by rw [rN9.1]; exact hR
          refine Rn.goto dX12_line_67 ?_
          refine Rn.aload_n dX12_line_86 rfl ?_
          refine Rn.getI dX12_line_87 fX12_222 rfl (rc149 hRN9) ?_
          refine Rn.if_eq dX12_line_90 (fun h9 => absurd (hfa.1.symm.trans h9) hfa.2.1) (fun h9 => ?_)
          exact Rn.vret dX12_line_93 rfl ⟨rfl, rfl, rN9.g, Or.inr ⟨_, _, lnF_no (hln.trans (if_pos htb)), hfa⟩⟩
      · skip
        by_cases c3 : kdF f n i = 3
        · skip
          have hln : lnC (kdF f n) (nvF f n) (nx f n) p i = _ := (if_neg (show ¬ kdF f n i = 0 by rw [c3]; decide)).trans ((if_neg (show ¬ kdF f n i = 1 by rw [c3]; decide)).trans ((if_neg (show ¬ kdF f n i = 2 by rw [c3]; decide)).trans (if_pos c3)))
          have hsv := (htc.1.w (w := 3) (by decide)).mpr (htc.2.1.trans c3)
          refine Rn.aload_n dX12_line_0 rfl ?_
          refine Rn.getI dX12_line_1 fX12_188 rfl (rc149 hR) ?_
          refine Rn.topI (y := 0) (hsv.1) ?_
          refine Rn.if_ne dX12_line_4 (fun h9 => (by first | exact absurd h9 (by decide) | exact absurd (by decide) h9)) (fun h9 => ?_)
          refine Rn.aload_n dX12_line_7 rfl ?_
          refine Rn.getI dX12_line_8 fX12_198 rfl (rc149 hR) ?_
          refine Rn.topI (y := 3) (hsv.2) ?_
          refine Rn.bipushv (v := 10) dX12_line_11 bp_10 ?_
          refine Rn.icmp_le dX12_line_13 (fun h9 => ?_) (fun h9 => (by first | exact absurd h9 (by decide) | exact absurd (by decide) h9))
          refine Rn.aload_n dX12_line_22 rfl ?_
          refine Rn.getI dX12_line_23 fX12_198 rfl (rc149 hR) ?_
          refine Rn.topI (y := 3) (hsv.2) ?_
          refine Rn.istore_n (lv' := [some (.ref 149), some (.int 3), none, none]) dX12_line_26 (by decide) rfl ?_
          refine Rn.aload_n dX12_line_27 rfl ?_
          refine Rn.iload_n dX12_line_28 rfl ?_
          refine Rn.callV1 dX12_line_29 vX12_249 (rc149 hR) (by decide) rfl (tX12_isFull (M := M) (x := 3) hR) (by decide) ⟨(Nat.le_of_ble_eq_true rfl), (Nat.le_of_ble_eq_true rfl), (Nat.le_of_ble_eq_true rfl)⟩ (fun h => by cases h) (fun v1 ly1 M1 ⟨q1, q2, q3⟩ => ?_)
          rw [q1, q2, q3]
          refine Rn.topI (y := 0) (if_neg (by rintro (g | g | g | g) <;> exact absurd g.1 (by decide))) ?_
          refine Rn.if_eq dX12_line_32 (fun h9 => ?_) (fun h9 => (by first | exact absurd h9 (by decide) | exact absurd (by decide) h9))
          refine Rn.iload_n dX12_line_43 rfl ?_
          refine Rn.callS1 dX12_line_44 vX12_252 (tX12_isOnce (M := M) (x := 3)) (by decide) ⟨(Nat.le_of_ble_eq_true rfl), (Nat.le_of_ble_eq_true rfl), (Nat.le_of_ble_eq_true rfl)⟩ (fun h => by cases h) (fun v1 ly1 M1 ⟨q1, q2, q3⟩ => ?_)
          rw [q1, q2, q3]
          refine Rn.topI (y := 1) (by decide) ?_
          refine Rn.if_eq dX12_line_47 (fun h9 => (by first | exact absurd h9 (by decide) | exact absurd (by decide) h9)) (fun h9 => ?_)
          have hbt : ((M.1 149 21) >>> (3 &&& 31)) &&& 1 = 1 ↔ p.tb 3 = true := by rw [← hbw.1 3 (by decide)]; exact bt2 (M.1 149 21) (j := 3) (by decide)
          refine Rn.aload_n dX12_line_50 rfl ?_
          refine Rn.getI dX12_line_51 fX12_255 rfl (rc149 hR) ?_
          refine Rn.iload_n dX12_line_54 rfl ?_
          refine Rn.ishr dX12_line_55 ?_
          refine Rn.iconstv (v := 1) dX12_line_56 ic_1 ?_
          refine Rn.iand dX12_line_57 ?_
          refine Rn.iconstv (v := 1) dX12_line_58 ic_1 ?_
          refine Rn.icmp_ne dX12_line_59 (fun hto => ?_) (fun hto => ?_)
          · skip
            have htb : ¬ p.tb 3 = true := fun g => hto (hbt.mpr g)
            refine Rn.iload_n dX12_line_70 rfl ?_
            refine Rn.if_ne dX12_line_71 (fun h9 => ?_) (fun h9 => (by first | exact absurd h9 (by decide) | exact absurd (by decide) h9))
            refine Rn.aload_n dX12_line_86 rfl ?_
            refine Rn.getI dX12_line_87 fX12_222 rfl (rc149 hR) ?_
            refine Rn.if_eq dX12_line_90 (fun h9 => ?_) (fun h9 => absurd h29 h9)
            refine Rn.aload_n dX12_line_94 rfl ?_
            refine Rn.dup dX12_line_95 rfl ?_
            refine Rn.getI dX12_line_96 fX12_255 rfl (rc149 hR) ?_
            refine Rn.iconstv (v := 1) dX12_line_99 ic_1 ?_
            refine Rn.iload_n dX12_line_100 rfl ?_
            refine Rn.ishl dX12_line_101 ?_
            refine Rn.ior dX12_line_102 ?_
            refine Rn.putI dX12_line_103 fX12_255 rfl rfl rfl (rc149 hR) ?_
            refine Rn.aload_n dX12_line_106 rfl ?_
            obtain ⟨N1, e1⟩ : ∃ N9, N9 = sI M 149 (upd (M.1 149) 21 ((M.1 149 21) ||| ((1 : Int32) <<< (3 &&& 31)))) := ⟨_, rfl⟩
            rw [← e1]
            have r1 : rlF M N1 := by rw [e1]; exact rlF.f (fun j hj => pk_un (by omega))
            have hS1 : RPs N1 f n (p.D, p.ct, p.lw, p.c, setB p.tb 3 true, p.hc) i := by rw [e1]; exact hS0.told (hbw.or (k := 3) (by decide) _ (fun j hj => rfl) ⟨rfl, rfl⟩)
            clear e1
            have hRN1 : RW ly N1.2.2 := by rw [r1.1]; exact hR
            refine Rn.callV0 dX12_line_107 vX12_228 (rc149 hRN1) (by decide) rfl (rtok (M := N1) hS1.z hRN1) (by decide) ⟨(Nat.le_of_ble_eq_true rfl), (Nat.le_of_ble_eq_true rfl), (Nat.le_of_ble_eq_true rfl)⟩ (fun h => by cases h) (fun v1 ly1 N2 ⟨q1, q2, t1, z1⟩ => ?_)
            rw [q1, q2]
            have r2 : rlF M N2 := r1.tr (rlF.tok t1)
            have hS2 := hS1.tk t1 z1
            have hRN2 : RW ly N2.2.2 := by rw [r2.1]; exact hR
            clear hS1
            refine Rn.iload_n dX12_line_110 rfl ?_
            refine Rn.tableIn (off := 122) (tgt := 233) dX12_line_111 (by decide) (by decide) (by decide) (by decide) ?_
            refine Rn.aload_n dX12_line_233 rfl ?_
            refine Rn.iconstv (v := 5) dX12_line_234 ic_5 ?_
            refine Rn.aload_n dX12_line_235 rfl ?_
            refine Rn.iconstv (v := 0) dX12_line_236 ic_0 ?_
            refine Rn.sipushv (v := 9999) dX12_line_237 sp_9999 ?_
            refine Rn.callV2 dX12_line_240 vX12_262 (rc149 hRN2) (by decide) rfl (rnum (M := N2) (i := nx f n i) hS2.z hRN2) (by decide) ⟨(Nat.le_of_ble_eq_true rfl), (Nat.le_of_ble_eq_true rfl), (Nat.le_of_ble_eq_true rfl)⟩ (fun h => by cases h) (fun v1 ly1 A0 ⟨q2, hh⟩ => ?_)
            rw [q2]
            rcases hh with ⟨zz0, q1, bb0, tt0, za0⟩ | ⟨zz0, q1, gg0, hfa⟩
            · skip
              rw [q1]
              have rA0 : rlF M A0 := r2.tr (rlF.tok tt0)
              have hSA0 := hS2.tk tt0 za0
              have hRA0 : RW ly A0.2.2 := by rw [rA0.1]; exact hR
              refine Rn.callV2 dX12_line_243 vX12_265 (rc149 hRA0) (by decide) rfl (tX12_reads (M := A0) (k := 5) (x := nvF f n (nx f n i)) (by decide) hRA0) (by omega) ⟨(Nat.le_of_ble_eq_true rfl), (Nat.le_of_ble_eq_true rfl), (Nat.le_of_ble_eq_true rfl)⟩ (fun h => by cases h) (fun v1 ly1 M1 ⟨q1, q2, q3⟩ => ?_)
              rw [q1, q2, q3]
              obtain ⟨B0, eB⟩ : ∃ N9, N9 = sI A0 151 (upd (A0.1 151) (13 + 5) (nvF f n (nx f n i))) := ⟨_, rfl⟩
              rw [← eB]
              have rB0 : rlF M B0 := by rw [eB]; exact rA0.tr (rlF.r (by decide) ⟨by decide, by decide, by show 13 ≤ _; omega⟩)
              have hSB0 := by have h9 := hSA0.num (ix := 5) (x := nvF f n (nx f n i)) (by decide) (fun g => absurd g (by decide)); rw [← eB] at h9; exact h9
              clear eB
              have hRB0 : RW ly B0.2.2 := by rw [rB0.1]; exact hR
              have hres := lnF_of (hln.trans ((if_neg htb).trans ((qK_0 zz0).trans (rfl))))
              refine Rn.goto dX12_line_246 ?_
              refine Rn.forget (lv' := [some (.ref 149), none, none, none]) (⟨rfl, trivial⟩) ?_
              rw [hres]
              exact rlTail hSB0 rB0 h23 hR
            · skip
              rw [q1]
              have rA0 : rlF M A0 := r2.tr gg0
              have hRA0 : RW ly A0.2.2 := by rw [rA0.1]; exact hR
              have hf9 : ¬ A0.1 149 29 = 0 := fun g => hfa.2.1 (hfa.1.symm.trans g)
              refine Rn.callV2 dX12_line_243 vX12_265 (rc149 hRA0) (by decide) rfl (tX12_reads (M := A0) (k := 5) (x := 0) (by decide) hRA0) (by omega) ⟨(Nat.le_of_ble_eq_true rfl), (Nat.le_of_ble_eq_true rfl), (Nat.le_of_ble_eq_true rfl)⟩ (fun h => by cases h) (fun v1 ly1 M1 ⟨q1, q2, q3⟩ => ?_)
              rw [q1, q2, q3]
              obtain ⟨C0, eC⟩ : ∃ N9, N9 = sI A0 151 (upd (A0.1 151) (13 + 5) 0) := ⟨_, rfl⟩
              rw [← eC]
              have rC0 : rlF M C0 := by rw [eC]; exact rA0.tr (rlF.r (by decide) ⟨by decide, by decide, by show 13 ≤ _; omega⟩)
              have hfaC0 := hfa.of (K2 := C0) (by rw [eC]; rfl) (by rw [eC]; rfl)
              clear eC
              have hRC0 : RW ly C0.2.2 := by rw [rC0.1]; exact hR
              have hf9 : ¬ C0.1 149 29 = 0 := fun g => hfaC0.2.1 (hfaC0.1.symm.trans g)
              refine Rn.goto dX12_line_246 ?_
              refine Rn.forget (lv' := [some (.ref 149), none, none, none]) (⟨rfl, trivial⟩) ?_
              exact rlTail0 hfaC0 rC0 (lnF_no (hln.trans ((if_neg htb).trans (qK_n zz0)))) hR
          · skip
            have htb : p.tb 3 = true := hbt.mp hto
            refine Rn.aload_n dX12_line_62 rfl ?_
            refine Rn.iconstv (v := 3) dX12_line_63 ic_3 ?_
            refine Rn.callV1 dX12_line_64 vX12_231 (rc149 hR) (by decide) rfl (rdWrong (M := M) (x := 3) hz.2.2 hR) (by omega) ⟨(Nat.le_of_ble_eq_true rfl), (Nat.le_of_ble_eq_true rfl), (Nat.le_of_ble_eq_true rfl)⟩ (fun h => by cases h) (fun v1 ly1 M1 ⟨q1, q2, q3⟩ => ?_)
            rw [q1, q2, q3]
            have hfa := hz.wr (k := 3) (by decide)
            obtain ⟨N9, e9⟩ : ∃ N0, N0 = wrM M 3 := ⟨_, rfl⟩
            rw [← e9]
            rw [← e9] at hfa
            have rN9 : rlF M N9 := by rw [e9]; exact rlF.wr
            clear e9
            have hRN9 : RW ly N9.2.2 := by rw [rN9.1]; exact hR
            refine Rn.goto dX12_line_67 ?_
            refine Rn.aload_n dX12_line_86 rfl ?_
            refine Rn.getI dX12_line_87 fX12_222 rfl (rc149 hRN9) ?_
            refine Rn.if_eq dX12_line_90 (fun h9 => absurd (hfa.1.symm.trans h9) hfa.2.1) (fun h9 => ?_)
            exact Rn.vret dX12_line_93 rfl ⟨rfl, rfl, rN9.g, Or.inr ⟨_, _, lnF_no (hln.trans (if_pos htb)), hfa⟩⟩
        · skip
          by_cases c4 : kdF f n i = 4
          · skip
            have hln : lnC (kdF f n) (nvF f n) (nx f n) p i = _ := (if_neg (show ¬ kdF f n i = 0 by rw [c4]; decide)).trans ((if_neg (show ¬ kdF f n i = 1 by rw [c4]; decide)).trans ((if_neg (show ¬ kdF f n i = 2 by rw [c4]; decide)).trans ((if_neg (show ¬ kdF f n i = 3 by rw [c4]; decide)).trans (if_pos c4))))
            have hsv := (htc.1.w (w := 4) (by decide)).mpr (htc.2.1.trans c4)
            refine Rn.aload_n dX12_line_0 rfl ?_
            refine Rn.getI dX12_line_1 fX12_188 rfl (rc149 hR) ?_
            refine Rn.topI (y := 0) (hsv.1) ?_
            refine Rn.if_ne dX12_line_4 (fun h9 => (by first | exact absurd h9 (by decide) | exact absurd (by decide) h9)) (fun h9 => ?_)
            refine Rn.aload_n dX12_line_7 rfl ?_
            refine Rn.getI dX12_line_8 fX12_198 rfl (rc149 hR) ?_
            refine Rn.topI (y := 4) (hsv.2) ?_
            refine Rn.bipushv (v := 10) dX12_line_11 bp_10 ?_
            refine Rn.icmp_le dX12_line_13 (fun h9 => ?_) (fun h9 => (by first | exact absurd h9 (by decide) | exact absurd (by decide) h9))
            refine Rn.aload_n dX12_line_22 rfl ?_
            refine Rn.getI dX12_line_23 fX12_198 rfl (rc149 hR) ?_
            refine Rn.topI (y := 4) (hsv.2) ?_
            refine Rn.istore_n (lv' := [some (.ref 149), some (.int 4), none, none]) dX12_line_26 (by decide) rfl ?_
            refine Rn.aload_n dX12_line_27 rfl ?_
            refine Rn.iload_n dX12_line_28 rfl ?_
            refine Rn.callV1 dX12_line_29 vX12_249 (rc149 hR) (by decide) rfl (tX12_isFull (M := M) (x := 4) hR) (by decide) ⟨(Nat.le_of_ble_eq_true rfl), (Nat.le_of_ble_eq_true rfl), (Nat.le_of_ble_eq_true rfl)⟩ (fun h => by cases h) (fun v1 ly1 M1 ⟨q1, q2, q3⟩ => ?_)
            rw [q1, q2, q3]
            have hfl : M.1 151 19 = 6 ↔ p.ct 0 = 6 := by rw [show M.1 151 19 = nI (p.ct 0) from hcm 0 (by decide)]; exact ⟨fun g => nI_inj (by have := hct.1; omega) (by decide) g, fun g => by rw [g]; rfl⟩
            by_cases hfu : p.ct 0 = 6
            · skip
              refine Rn.topI (y := 1) (if_pos (Or.inl ⟨rfl, hfl.mpr hfu⟩)) ?_
              refine Rn.if_eq dX12_line_32 (fun h9 => (by first | exact absurd h9 (by decide) | exact absurd (by decide) h9)) (fun h9 => ?_)
              refine Rn.aload_n dX12_line_35 rfl ?_
              refine Rn.iconstv (v := 2) dX12_line_36 ic_2 ?_
              refine Rn.callV1 dX12_line_37 vX12_231 (rc149 hR) (by decide) rfl (rdWrong (M := M) (x := 2) hz.2.2 hR) (by omega) ⟨(Nat.le_of_ble_eq_true rfl), (Nat.le_of_ble_eq_true rfl), (Nat.le_of_ble_eq_true rfl)⟩ (fun h => by cases h) (fun v1 ly1 M1 ⟨q1, q2, q3⟩ => ?_)
              rw [q1, q2, q3]
              have hfa := hz.wr (k := 2) (by decide)
              obtain ⟨N9, e9⟩ : ∃ N0, N0 = wrM M 2 := ⟨_, rfl⟩
              rw [← e9]
              rw [← e9] at hfa
              have rN9 : rlF M N9 := by rw [e9]; exact rlF.wr
              clear e9
              have hRN9 : RW ly N9.2.2 := by rw [rN9.1]; exact hR
              refine Rn.goto dX12_line_40 ?_
              refine Rn.aload_n dX12_line_86 rfl ?_
              refine Rn.getI dX12_line_87 fX12_222 rfl (rc149 hRN9) ?_
              refine Rn.if_eq dX12_line_90 (fun h9 => absurd (hfa.1.symm.trans h9) hfa.2.1) (fun h9 => ?_)
              exact Rn.vret dX12_line_93 rfl ⟨rfl, rfl, rN9.g, Or.inr ⟨_, _, lnF_no (hln.trans (if_pos hfu)), hfa⟩⟩
            · skip
              refine Rn.topI (y := 0) (if_neg (fun g => g.elim (fun g => hfu (hfl.mp g.2)) (fun g => g.elim (fun g => absurd g.1 (by decide)) (fun g => g.elim (fun g => absurd g.1 (by decide)) (fun g => absurd g.1 (by decide)))))) ?_
              refine Rn.if_eq dX12_line_32 (fun h9 => ?_) (fun h9 => (by first | exact absurd h9 (by decide) | exact absurd (by decide) h9))
              refine Rn.iload_n dX12_line_43 rfl ?_
              refine Rn.callS1 dX12_line_44 vX12_252 (tX12_isOnce (M := M) (x := 4)) (by decide) ⟨(Nat.le_of_ble_eq_true rfl), (Nat.le_of_ble_eq_true rfl), (Nat.le_of_ble_eq_true rfl)⟩ (fun h => by cases h) (fun v1 ly1 M1 ⟨q1, q2, q3⟩ => ?_)
              rw [q1, q2, q3]
              refine Rn.topI (y := 0) (by decide) ?_
              refine Rn.if_eq dX12_line_47 (fun h9 => ?_) (fun h9 => (by first | exact absurd h9 (by decide) | exact absurd (by decide) h9))
              refine Rn.iload_n dX12_line_70 rfl ?_
              refine Rn.if_ne dX12_line_71 (fun h9 => ?_) (fun h9 => (by first | exact absurd h9 (by decide) | exact absurd (by decide) h9))
              refine Rn.aload_n dX12_line_86 rfl ?_
              refine Rn.getI dX12_line_87 fX12_222 rfl (rc149 hR) ?_
              refine Rn.if_eq dX12_line_90 (fun h9 => ?_) (fun h9 => absurd h29 h9)
              refine Rn.aload_n dX12_line_94 rfl ?_
              refine Rn.dup dX12_line_95 rfl ?_
              refine Rn.getI dX12_line_96 fX12_255 rfl (rc149 hR) ?_
              refine Rn.iconstv (v := 1) dX12_line_99 ic_1 ?_
              refine Rn.iload_n dX12_line_100 rfl ?_
              refine Rn.ishl dX12_line_101 ?_
              refine Rn.ior dX12_line_102 ?_
              refine Rn.putI dX12_line_103 fX12_255 rfl rfl rfl (rc149 hR) ?_
              refine Rn.aload_n dX12_line_106 rfl ?_
              obtain ⟨N1, e1⟩ : ∃ N9, N9 = sI M 149 (upd (M.1 149) 21 ((M.1 149 21) ||| ((1 : Int32) <<< (4 &&& 31)))) := ⟨_, rfl⟩
              rw [← e1]
              have r1 : rlF M N1 := by rw [e1]; exact rlF.f (fun j hj => pk_un (by omega))
              have hS1 : RPs N1 f n (p.D, p.ct, p.lw, p.c, p.tb, p.hc) i := by rw [e1]; exact hS0.told (hbw.or (k := 4) (by decide) _ (fun j hj => by rw [if_neg (by omega)]) ⟨rfl, rfl⟩)
              clear e1
              have hRN1 : RW ly N1.2.2 := by rw [r1.1]; exact hR
              refine Rn.callV0 dX12_line_107 vX12_228 (rc149 hRN1) (by decide) rfl (rtok (M := N1) hS1.z hRN1) (by decide) ⟨(Nat.le_of_ble_eq_true rfl), (Nat.le_of_ble_eq_true rfl), (Nat.le_of_ble_eq_true rfl)⟩ (fun h => by cases h) (fun v1 ly1 N2 ⟨q1, q2, t1, z1⟩ => ?_)
              rw [q1, q2]
              have r2 : rlF M N2 := r1.tr (rlF.tok t1)
              have hS2 := hS1.tk t1 z1
              have hRN2 : RW ly N2.2.2 := by rw [r2.1]; exact hR
              clear hS1
              refine Rn.iload_n dX12_line_110 rfl ?_
              refine Rn.tableIn (off := 138) (tgt := 249) dX12_line_111 (by decide) (by decide) (by decide) (by decide) ?_
              have hS2p : RPs N2 f n p (nx f n i) := hS2
              have hcn : ∀ k, k < 4 → N2.1 151 (19 + k) = nI (p.ct k) := hS2p.2.2.2.2.2.2.2.1.2.1
              refine Rn.aload_n dX12_line_249 rfl ?_
              refine Rn.bipushv (v := 6) dX12_line_250 bp_6 ?_
              refine Rn.aload_n dX12_line_252 rfl ?_
              refine Rn.bipushv (v := 6) dX12_line_253 bp_6 ?_
              refine Rn.callV1 dX12_line_255 vX12_245 (rc149 hRN2) (by decide) rfl (tX12_fresher (M := N2) (k := 6) (by decide) hRN2) (by omega) ⟨(Nat.le_of_ble_eq_true rfl), (Nat.le_of_ble_eq_true rfl), (Nat.le_of_ble_eq_true rfl)⟩ (fun h => by cases h) (fun v1 ly1 M1 ⟨q1, q2, q3⟩ => ?_)
              rw [q1, q2, q3]
              refine Rn.topI (y := nI (p.ct 0)) (show N2.1 151 (13 + 6) = nI (p.ct 0) from hcn 0 (by decide)) ?_
              refine Rn.iadd dX12_line_258 ?_
              refine Rn.topI (y := nI (6 + (p.ct 0))) (nI_add 6 (p.ct 0)) ?_
              refine Rn.callV1 dX12_line_259 vX12_269 (rc149 hRN2) (by decide) rfl (rwalkerLine (M := N2) (i := i) hS2p (Nat.lt_of_le_of_ne hct.1 hfu) hRN2) (by decide) ⟨(Nat.le_of_ble_eq_true rfl), (Nat.le_of_ble_eq_true rfl), (Nat.le_of_ble_eq_true rfl)⟩ (fun h => by cases h) (fun v1 ly1 N3 ⟨q1, q2, f3, hh⟩ => ?_)
              rw [q1, q2]
              have r3 : rlF M N3 := r2.tr f3
              have hRN3 : RW ly N3.2.2 := by rw [r3.1]; exact hR
              rcases hh with ⟨p2, j, e9, hS3⟩ | ⟨q, j, e9, hfa⟩
              · skip
                refine Rn.goto dX12_line_262 ?_
                refine Rn.forget (lv' := [some (.ref 149), none, none, none]) (⟨rfl, trivial⟩) ?_
                rw [lnF_of (hln.trans e9)]
                exact rlTail hS3 r3 h23 hR
              · skip
                refine Rn.goto dX12_line_262 ?_
                refine Rn.forget (lv' := [some (.ref 149), none, none, none]) (⟨rfl, trivial⟩) ?_
                exact rlTail0 hfa r3 (lnF_no (hln.trans e9)) hR
          · skip
            by_cases c5 : kdF f n i = 5
            · skip
              have hln : lnC (kdF f n) (nvF f n) (nx f n) p i = _ := (if_neg (show ¬ kdF f n i = 0 by rw [c5]; decide)).trans ((if_neg (show ¬ kdF f n i = 1 by rw [c5]; decide)).trans ((if_neg (show ¬ kdF f n i = 2 by rw [c5]; decide)).trans ((if_neg (show ¬ kdF f n i = 3 by rw [c5]; decide)).trans ((if_neg (show ¬ kdF f n i = 4 by rw [c5]; decide)).trans (if_pos c5)))))
              have hsv := (htc.1.w (w := 5) (by decide)).mpr (htc.2.1.trans c5)
              refine Rn.aload_n dX12_line_0 rfl ?_
              refine Rn.getI dX12_line_1 fX12_188 rfl (rc149 hR) ?_
              refine Rn.topI (y := 0) (hsv.1) ?_
              refine Rn.if_ne dX12_line_4 (fun h9 => (by first | exact absurd h9 (by decide) | exact absurd (by decide) h9)) (fun h9 => ?_)
              refine Rn.aload_n dX12_line_7 rfl ?_
              refine Rn.getI dX12_line_8 fX12_198 rfl (rc149 hR) ?_
              refine Rn.topI (y := 5) (hsv.2) ?_
              refine Rn.bipushv (v := 10) dX12_line_11 bp_10 ?_
              refine Rn.icmp_le dX12_line_13 (fun h9 => ?_) (fun h9 => (by first | exact absurd h9 (by decide) | exact absurd (by decide) h9))
              refine Rn.aload_n dX12_line_22 rfl ?_
              refine Rn.getI dX12_line_23 fX12_198 rfl (rc149 hR) ?_
              refine Rn.topI (y := 5) (hsv.2) ?_
              refine Rn.istore_n (lv' := [some (.ref 149), some (.int 5), none, none]) dX12_line_26 (by decide) rfl ?_
              refine Rn.aload_n dX12_line_27 rfl ?_
              refine Rn.iload_n dX12_line_28 rfl ?_
              refine Rn.callV1 dX12_line_29 vX12_249 (rc149 hR) (by decide) rfl (tX12_isFull (M := M) (x := 5) hR) (by decide) ⟨(Nat.le_of_ble_eq_true rfl), (Nat.le_of_ble_eq_true rfl), (Nat.le_of_ble_eq_true rfl)⟩ (fun h => by cases h) (fun v1 ly1 M1 ⟨q1, q2, q3⟩ => ?_)
              rw [q1, q2, q3]
              have hfl : M.1 151 20 = 4 ↔ p.ct 1 = 4 := by rw [show M.1 151 20 = nI (p.ct 1) from hcm 1 (by decide)]; exact ⟨fun g => nI_inj (by have := hct.2.1; omega) (by decide) g, fun g => by rw [g]; rfl⟩
              by_cases hfu : p.ct 1 = 4
              · skip
                refine Rn.topI (y := 1) (if_pos (Or.inr (Or.inl ⟨rfl, hfl.mpr hfu⟩))) ?_
                refine Rn.if_eq dX12_line_32 (fun h9 => (by first | exact absurd h9 (by decide) | exact absurd (by decide) h9)) (fun h9 => ?_)
                refine Rn.aload_n dX12_line_35 rfl ?_
                refine Rn.iconstv (v := 2) dX12_line_36 ic_2 ?_
                refine Rn.callV1 dX12_line_37 vX12_231 (rc149 hR) (by decide) rfl (rdWrong (M := M) (x := 2) hz.2.2 hR) (by omega) ⟨(Nat.le_of_ble_eq_true rfl), (Nat.le_of_ble_eq_true rfl), (Nat.le_of_ble_eq_true rfl)⟩ (fun h => by cases h) (fun v1 ly1 M1 ⟨q1, q2, q3⟩ => ?_)
                rw [q1, q2, q3]
                have hfa := hz.wr (k := 2) (by decide)
                obtain ⟨N9, e9⟩ : ∃ N0, N0 = wrM M 2 := ⟨_, rfl⟩
                rw [← e9]
                rw [← e9] at hfa
                have rN9 : rlF M N9 := by rw [e9]; exact rlF.wr
                clear e9
                have hRN9 : RW ly N9.2.2 := by rw [rN9.1]; exact hR
                refine Rn.goto dX12_line_40 ?_
                refine Rn.aload_n dX12_line_86 rfl ?_
                refine Rn.getI dX12_line_87 fX12_222 rfl (rc149 hRN9) ?_
                refine Rn.if_eq dX12_line_90 (fun h9 => absurd (hfa.1.symm.trans h9) hfa.2.1) (fun h9 => ?_)
                exact Rn.vret dX12_line_93 rfl ⟨rfl, rfl, rN9.g, Or.inr ⟨_, _, lnF_no (hln.trans (if_pos hfu)), hfa⟩⟩
              · skip
                refine Rn.topI (y := 0) (if_neg (fun g => g.elim (fun g => absurd g.1 (by decide)) (fun g => g.elim (fun g => hfu (hfl.mp g.2)) (fun g => g.elim (fun g => absurd g.1 (by decide)) (fun g => absurd g.1 (by decide)))))) ?_
                refine Rn.if_eq dX12_line_32 (fun h9 => ?_) (fun h9 => (by first | exact absurd h9 (by decide) | exact absurd (by decide) h9))
                refine Rn.iload_n dX12_line_43 rfl ?_
                refine Rn.callS1 dX12_line_44 vX12_252 (tX12_isOnce (M := M) (x := 5)) (by decide) ⟨(Nat.le_of_ble_eq_true rfl), (Nat.le_of_ble_eq_true rfl), (Nat.le_of_ble_eq_true rfl)⟩ (fun h => by cases h) (fun v1 ly1 M1 ⟨q1, q2, q3⟩ => ?_)
                rw [q1, q2, q3]
                refine Rn.topI (y := 0) (by decide) ?_
                refine Rn.if_eq dX12_line_47 (fun h9 => ?_) (fun h9 => (by first | exact absurd h9 (by decide) | exact absurd (by decide) h9))
                refine Rn.iload_n dX12_line_70 rfl ?_
                refine Rn.if_ne dX12_line_71 (fun h9 => ?_) (fun h9 => (by first | exact absurd h9 (by decide) | exact absurd (by decide) h9))
                refine Rn.aload_n dX12_line_86 rfl ?_
                refine Rn.getI dX12_line_87 fX12_222 rfl (rc149 hR) ?_
                refine Rn.if_eq dX12_line_90 (fun h9 => ?_) (fun h9 => absurd h29 h9)
                refine Rn.aload_n dX12_line_94 rfl ?_
                refine Rn.dup dX12_line_95 rfl ?_
                refine Rn.getI dX12_line_96 fX12_255 rfl (rc149 hR) ?_
                refine Rn.iconstv (v := 1) dX12_line_99 ic_1 ?_
                refine Rn.iload_n dX12_line_100 rfl ?_
                refine Rn.ishl dX12_line_101 ?_
                refine Rn.ior dX12_line_102 ?_
                refine Rn.putI dX12_line_103 fX12_255 rfl rfl rfl (rc149 hR) ?_
                refine Rn.aload_n dX12_line_106 rfl ?_
                obtain ⟨N1, e1⟩ : ∃ N9, N9 = sI M 149 (upd (M.1 149) 21 ((M.1 149 21) ||| ((1 : Int32) <<< (5 &&& 31)))) := ⟨_, rfl⟩
                rw [← e1]
                have r1 : rlF M N1 := by rw [e1]; exact rlF.f (fun j hj => pk_un (by omega))
                have hS1 : RPs N1 f n (p.D, p.ct, p.lw, p.c, p.tb, p.hc) i := by rw [e1]; exact hS0.told (hbw.or (k := 5) (by decide) _ (fun j hj => by rw [if_neg (by omega)]) ⟨rfl, rfl⟩)
                clear e1
                have hRN1 : RW ly N1.2.2 := by rw [r1.1]; exact hR
                refine Rn.callV0 dX12_line_107 vX12_228 (rc149 hRN1) (by decide) rfl (rtok (M := N1) hS1.z hRN1) (by decide) ⟨(Nat.le_of_ble_eq_true rfl), (Nat.le_of_ble_eq_true rfl), (Nat.le_of_ble_eq_true rfl)⟩ (fun h => by cases h) (fun v1 ly1 N2 ⟨q1, q2, t1, z1⟩ => ?_)
                rw [q1, q2]
                have r2 : rlF M N2 := r1.tr (rlF.tok t1)
                have hS2 := hS1.tk t1 z1
                have hRN2 : RW ly N2.2.2 := by rw [r2.1]; exact hR
                clear hS1
                refine Rn.iload_n dX12_line_110 rfl ?_
                refine Rn.tableIn (off := 154) (tgt := 265) dX12_line_111 (by decide) (by decide) (by decide) (by decide) ?_
                have hS2p : RPs N2 f n p (nx f n i) := hS2
                have hcn : ∀ k, k < 4 → N2.1 151 (19 + k) = nI (p.ct k) := hS2p.2.2.2.2.2.2.2.1.2.1
                refine Rn.aload_n dX12_line_265 rfl ?_
                refine Rn.iconstv (v := 4) dX12_line_266 ic_4 ?_
                refine Rn.aload_n dX12_line_267 rfl ?_
                refine Rn.bipushv (v := 7) dX12_line_268 bp_7 ?_
                refine Rn.callV1 dX12_line_270 vX12_245 (rc149 hRN2) (by decide) rfl (tX12_fresher (M := N2) (k := 7) (by decide) hRN2) (by omega) ⟨(Nat.le_of_ble_eq_true rfl), (Nat.le_of_ble_eq_true rfl), (Nat.le_of_ble_eq_true rfl)⟩ (fun h => by cases h) (fun v1 ly1 M1 ⟨q1, q2, q3⟩ => ?_)
                rw [q1, q2, q3]
                refine Rn.topI (y := nI (p.ct 1)) (show N2.1 151 (13 + 7) = nI (p.ct 1) from hcn 1 (by decide)) ?_
                refine Rn.iadd dX12_line_273 ?_
                refine Rn.topI (y := nI (4 + (p.ct 1))) (nI_add 4 (p.ct 1)) ?_
                refine Rn.callV1 dX12_line_274 vX12_272 (rc149 hRN2) (by decide) rfl (rfatLine (M := N2) (i := i) hS2p (Nat.lt_of_le_of_ne hct.2.1 hfu) hRN2) (by decide) ⟨(Nat.le_of_ble_eq_true rfl), (Nat.le_of_ble_eq_true rfl), (Nat.le_of_ble_eq_true rfl)⟩ (fun h => by cases h) (fun v1 ly1 N3 ⟨q1, q2, f3, hh⟩ => ?_)
                rw [q1, q2]
                have r3 : rlF M N3 := r2.tr f3
                have hRN3 : RW ly N3.2.2 := by rw [r3.1]; exact hR
                rcases hh with ⟨p2, j, e9, hS3⟩ | ⟨q, j, e9, hfa⟩
                · skip
                  refine Rn.goto dX12_line_277 ?_
                  refine Rn.forget (lv' := [some (.ref 149), none, none, none]) (⟨rfl, trivial⟩) ?_
                  rw [lnF_of (hln.trans e9)]
                  exact rlTail hS3 r3 h23 hR
                · skip
                  refine Rn.goto dX12_line_277 ?_
                  refine Rn.forget (lv' := [some (.ref 149), none, none, none]) (⟨rfl, trivial⟩) ?_
                  exact rlTail0 hfa r3 (lnF_no (hln.trans e9)) hR
            · skip
              by_cases c6 : kdF f n i = 6
              · skip
                have hln : lnC (kdF f n) (nvF f n) (nx f n) p i = _ := (if_neg (show ¬ kdF f n i = 0 by rw [c6]; decide)).trans ((if_neg (show ¬ kdF f n i = 1 by rw [c6]; decide)).trans ((if_neg (show ¬ kdF f n i = 2 by rw [c6]; decide)).trans ((if_neg (show ¬ kdF f n i = 3 by rw [c6]; decide)).trans ((if_neg (show ¬ kdF f n i = 4 by rw [c6]; decide)).trans ((if_neg (show ¬ kdF f n i = 5 by rw [c6]; decide)).trans (if_pos c6))))))
                have hsv := (htc.1.w (w := 6) (by decide)).mpr (htc.2.1.trans c6)
                refine Rn.aload_n dX12_line_0 rfl ?_
                refine Rn.getI dX12_line_1 fX12_188 rfl (rc149 hR) ?_
                refine Rn.topI (y := 0) (hsv.1) ?_
                refine Rn.if_ne dX12_line_4 (fun h9 => (by first | exact absurd h9 (by decide) | exact absurd (by decide) h9)) (fun h9 => ?_)
                refine Rn.aload_n dX12_line_7 rfl ?_
                refine Rn.getI dX12_line_8 fX12_198 rfl (rc149 hR) ?_
                refine Rn.topI (y := 6) (hsv.2) ?_
                refine Rn.bipushv (v := 10) dX12_line_11 bp_10 ?_
                refine Rn.icmp_le dX12_line_13 (fun h9 => ?_) (fun h9 => (by first | exact absurd h9 (by decide) | exact absurd (by decide) h9))
                refine Rn.aload_n dX12_line_22 rfl ?_
                refine Rn.getI dX12_line_23 fX12_198 rfl (rc149 hR) ?_
                refine Rn.topI (y := 6) (hsv.2) ?_
                refine Rn.istore_n (lv' := [some (.ref 149), some (.int 6), none, none]) dX12_line_26 (by decide) rfl ?_
                refine Rn.aload_n dX12_line_27 rfl ?_
                refine Rn.iload_n dX12_line_28 rfl ?_
                refine Rn.callV1 dX12_line_29 vX12_249 (rc149 hR) (by decide) rfl (tX12_isFull (M := M) (x := 6) hR) (by decide) ⟨(Nat.le_of_ble_eq_true rfl), (Nat.le_of_ble_eq_true rfl), (Nat.le_of_ble_eq_true rfl)⟩ (fun h => by cases h) (fun v1 ly1 M1 ⟨q1, q2, q3⟩ => ?_)
                rw [q1, q2, q3]
                have hfl : M.1 151 21 = 4 ↔ p.ct 2 = 4 := by rw [show M.1 151 21 = nI (p.ct 2) from hcm 2 (by decide)]; exact ⟨fun g => nI_inj (by have := hct.2.2.1; omega) (by decide) g, fun g => by rw [g]; rfl⟩
                by_cases hfu : p.ct 2 = 4
                · skip
                  refine Rn.topI (y := 1) (if_pos (Or.inr (Or.inr (Or.inl ⟨rfl, hfl.mpr hfu⟩)))) ?_
                  refine Rn.if_eq dX12_line_32 (fun h9 => (by first | exact absurd h9 (by decide) | exact absurd (by decide) h9)) (fun h9 => ?_)
                  refine Rn.aload_n dX12_line_35 rfl ?_
                  refine Rn.iconstv (v := 2) dX12_line_36 ic_2 ?_
                  refine Rn.callV1 dX12_line_37 vX12_231 (rc149 hR) (by decide) rfl (rdWrong (M := M) (x := 2) hz.2.2 hR) (by omega) ⟨(Nat.le_of_ble_eq_true rfl), (Nat.le_of_ble_eq_true rfl), (Nat.le_of_ble_eq_true rfl)⟩ (fun h => by cases h) (fun v1 ly1 M1 ⟨q1, q2, q3⟩ => ?_)
                  rw [q1, q2, q3]
                  have hfa := hz.wr (k := 2) (by decide)
                  obtain ⟨N9, e9⟩ : ∃ N0, N0 = wrM M 2 := ⟨_, rfl⟩
                  rw [← e9]
                  rw [← e9] at hfa
                  have rN9 : rlF M N9 := by rw [e9]; exact rlF.wr
                  clear e9
                  have hRN9 : RW ly N9.2.2 := by rw [rN9.1]; exact hR
                  refine Rn.goto dX12_line_40 ?_
                  refine Rn.aload_n dX12_line_86 rfl ?_
                  refine Rn.getI dX12_line_87 fX12_222 rfl (rc149 hRN9) ?_
                  refine Rn.if_eq dX12_line_90 (fun h9 => absurd (hfa.1.symm.trans h9) hfa.2.1) (fun h9 => ?_)
                  exact Rn.vret dX12_line_93 rfl ⟨rfl, rfl, rN9.g, Or.inr ⟨_, _, lnF_no (hln.trans (if_pos hfu)), hfa⟩⟩
                · skip
                  refine Rn.topI (y := 0) (if_neg (fun g => g.elim (fun g => absurd g.1 (by decide)) (fun g => g.elim (fun g => absurd g.1 (by decide)) (fun g => g.elim (fun g => hfu (hfl.mp g.2)) (fun g => absurd g.1 (by decide)))))) ?_
                  refine Rn.if_eq dX12_line_32 (fun h9 => ?_) (fun h9 => (by first | exact absurd h9 (by decide) | exact absurd (by decide) h9))
                  refine Rn.iload_n dX12_line_43 rfl ?_
                  refine Rn.callS1 dX12_line_44 vX12_252 (tX12_isOnce (M := M) (x := 6)) (by decide) ⟨(Nat.le_of_ble_eq_true rfl), (Nat.le_of_ble_eq_true rfl), (Nat.le_of_ble_eq_true rfl)⟩ (fun h => by cases h) (fun v1 ly1 M1 ⟨q1, q2, q3⟩ => ?_)
                  rw [q1, q2, q3]
                  refine Rn.topI (y := 0) (by decide) ?_
                  refine Rn.if_eq dX12_line_47 (fun h9 => ?_) (fun h9 => (by first | exact absurd h9 (by decide) | exact absurd (by decide) h9))
                  refine Rn.iload_n dX12_line_70 rfl ?_
                  refine Rn.if_ne dX12_line_71 (fun h9 => ?_) (fun h9 => (by first | exact absurd h9 (by decide) | exact absurd (by decide) h9))
                  refine Rn.aload_n dX12_line_86 rfl ?_
                  refine Rn.getI dX12_line_87 fX12_222 rfl (rc149 hR) ?_
                  refine Rn.if_eq dX12_line_90 (fun h9 => ?_) (fun h9 => absurd h29 h9)
                  refine Rn.aload_n dX12_line_94 rfl ?_
                  refine Rn.dup dX12_line_95 rfl ?_
                  refine Rn.getI dX12_line_96 fX12_255 rfl (rc149 hR) ?_
                  refine Rn.iconstv (v := 1) dX12_line_99 ic_1 ?_
                  refine Rn.iload_n dX12_line_100 rfl ?_
                  refine Rn.ishl dX12_line_101 ?_
                  refine Rn.ior dX12_line_102 ?_
                  refine Rn.putI dX12_line_103 fX12_255 rfl rfl rfl (rc149 hR) ?_
                  refine Rn.aload_n dX12_line_106 rfl ?_
                  obtain ⟨N1, e1⟩ : ∃ N9, N9 = sI M 149 (upd (M.1 149) 21 ((M.1 149 21) ||| ((1 : Int32) <<< (6 &&& 31)))) := ⟨_, rfl⟩
                  rw [← e1]
                  have r1 : rlF M N1 := by rw [e1]; exact rlF.f (fun j hj => pk_un (by omega))
                  have hS1 : RPs N1 f n (p.D, p.ct, p.lw, p.c, p.tb, p.hc) i := by rw [e1]; exact hS0.told (hbw.or (k := 6) (by decide) _ (fun j hj => by rw [if_neg (by omega)]) ⟨rfl, rfl⟩)
                  clear e1
                  have hRN1 : RW ly N1.2.2 := by rw [r1.1]; exact hR
                  refine Rn.callV0 dX12_line_107 vX12_228 (rc149 hRN1) (by decide) rfl (rtok (M := N1) hS1.z hRN1) (by decide) ⟨(Nat.le_of_ble_eq_true rfl), (Nat.le_of_ble_eq_true rfl), (Nat.le_of_ble_eq_true rfl)⟩ (fun h => by cases h) (fun v1 ly1 N2 ⟨q1, q2, t1, z1⟩ => ?_)
                  rw [q1, q2]
                  have r2 : rlF M N2 := r1.tr (rlF.tok t1)
                  have hS2 := hS1.tk t1 z1
                  have hRN2 : RW ly N2.2.2 := by rw [r2.1]; exact hR
                  clear hS1
                  refine Rn.iload_n dX12_line_110 rfl ?_
                  refine Rn.tableIn (off := 169) (tgt := 280) dX12_line_111 (by decide) (by decide) (by decide) (by decide) ?_
                  have hS2p : RPs N2 f n p (nx f n i) := hS2
                  have hcn : ∀ k, k < 4 → N2.1 151 (19 + k) = nI (p.ct k) := hS2p.2.2.2.2.2.2.2.1.2.1
                  refine Rn.aload_n dX12_line_280 rfl ?_
                  refine Rn.iconstv (v := 4) dX12_line_281 ic_4 ?_
                  refine Rn.aload_n dX12_line_282 rfl ?_
                  refine Rn.bipushv (v := 8) dX12_line_283 bp_8 ?_
                  refine Rn.callV1 dX12_line_285 vX12_245 (rc149 hRN2) (by decide) rfl (tX12_fresher (M := N2) (k := 8) (by decide) hRN2) (by omega) ⟨(Nat.le_of_ble_eq_true rfl), (Nat.le_of_ble_eq_true rfl), (Nat.le_of_ble_eq_true rfl)⟩ (fun h => by cases h) (fun v1 ly1 M1 ⟨q1, q2, q3⟩ => ?_)
                  rw [q1, q2, q3]
                  refine Rn.topI (y := nI (p.ct 2)) (show N2.1 151 (13 + 8) = nI (p.ct 2) from hcn 2 (by decide)) ?_
                  refine Rn.iadd dX12_line_288 ?_
                  refine Rn.topI (y := nI (4 + (p.ct 2))) (nI_add 4 (p.ct 2)) ?_
                  refine Rn.callV1 dX12_line_289 vX12_275 (rc149 hRN2) (by decide) rfl (rsleepLine (M := N2) (i := i) hS2p (Nat.lt_of_le_of_ne hct.2.2.1 hfu) hRN2) (by decide) ⟨(Nat.le_of_ble_eq_true rfl), (Nat.le_of_ble_eq_true rfl), (Nat.le_of_ble_eq_true rfl)⟩ (fun h => by cases h) (fun v1 ly1 N3 ⟨q1, q2, f3, hh⟩ => ?_)
                  rw [q1, q2]
                  have r3 : rlF M N3 := r2.tr f3
                  have hRN3 : RW ly N3.2.2 := by rw [r3.1]; exact hR
                  rcases hh with ⟨p2, j, e9, hS3⟩ | ⟨q, j, e9, hfa⟩
                  · skip
                    refine Rn.goto dX12_line_292 ?_
                    refine Rn.forget (lv' := [some (.ref 149), none, none, none]) (⟨rfl, trivial⟩) ?_
                    rw [lnF_of (hln.trans e9)]
                    exact rlTail hS3 r3 h23 hR
                  · skip
                    refine Rn.goto dX12_line_292 ?_
                    refine Rn.forget (lv' := [some (.ref 149), none, none, none]) (⟨rfl, trivial⟩) ?_
                    exact rlTail0 hfa r3 (lnF_no (hln.trans e9)) hR
              · skip
                by_cases c7 : kdF f n i = 7
                · skip
                  have hln : lnC (kdF f n) (nvF f n) (nx f n) p i = _ := (if_neg (show ¬ kdF f n i = 0 by rw [c7]; decide)).trans ((if_neg (show ¬ kdF f n i = 1 by rw [c7]; decide)).trans ((if_neg (show ¬ kdF f n i = 2 by rw [c7]; decide)).trans ((if_neg (show ¬ kdF f n i = 3 by rw [c7]; decide)).trans ((if_neg (show ¬ kdF f n i = 4 by rw [c7]; decide)).trans ((if_neg (show ¬ kdF f n i = 5 by rw [c7]; decide)).trans ((if_neg (show ¬ kdF f n i = 6 by rw [c7]; decide)).trans (if_pos c7)))))))
                  have hsv := (htc.1.w (w := 7) (by decide)).mpr (htc.2.1.trans c7)
                  refine Rn.aload_n dX12_line_0 rfl ?_
                  refine Rn.getI dX12_line_1 fX12_188 rfl (rc149 hR) ?_
                  refine Rn.topI (y := 0) (hsv.1) ?_
                  refine Rn.if_ne dX12_line_4 (fun h9 => (by first | exact absurd h9 (by decide) | exact absurd (by decide) h9)) (fun h9 => ?_)
                  refine Rn.aload_n dX12_line_7 rfl ?_
                  refine Rn.getI dX12_line_8 fX12_198 rfl (rc149 hR) ?_
                  refine Rn.topI (y := 7) (hsv.2) ?_
                  refine Rn.bipushv (v := 10) dX12_line_11 bp_10 ?_
                  refine Rn.icmp_le dX12_line_13 (fun h9 => ?_) (fun h9 => (by first | exact absurd h9 (by decide) | exact absurd (by decide) h9))
                  refine Rn.aload_n dX12_line_22 rfl ?_
                  refine Rn.getI dX12_line_23 fX12_198 rfl (rc149 hR) ?_
                  refine Rn.topI (y := 7) (hsv.2) ?_
                  refine Rn.istore_n (lv' := [some (.ref 149), some (.int 7), none, none]) dX12_line_26 (by decide) rfl ?_
                  refine Rn.aload_n dX12_line_27 rfl ?_
                  refine Rn.iload_n dX12_line_28 rfl ?_
                  refine Rn.callV1 dX12_line_29 vX12_249 (rc149 hR) (by decide) rfl (tX12_isFull (M := M) (x := 7) hR) (by decide) ⟨(Nat.le_of_ble_eq_true rfl), (Nat.le_of_ble_eq_true rfl), (Nat.le_of_ble_eq_true rfl)⟩ (fun h => by cases h) (fun v1 ly1 M1 ⟨q1, q2, q3⟩ => ?_)
                  rw [q1, q2, q3]
                  refine Rn.topI (y := 0) (if_neg (by rintro (g | g | g | g) <;> exact absurd g.1 (by decide))) ?_
                  refine Rn.if_eq dX12_line_32 (fun h9 => ?_) (fun h9 => (by first | exact absurd h9 (by decide) | exact absurd (by decide) h9))
                  refine Rn.iload_n dX12_line_43 rfl ?_
                  refine Rn.callS1 dX12_line_44 vX12_252 (tX12_isOnce (M := M) (x := 7)) (by decide) ⟨(Nat.le_of_ble_eq_true rfl), (Nat.le_of_ble_eq_true rfl), (Nat.le_of_ble_eq_true rfl)⟩ (fun h => by cases h) (fun v1 ly1 M1 ⟨q1, q2, q3⟩ => ?_)
                  rw [q1, q2, q3]
                  refine Rn.topI (y := 1) (by decide) ?_
                  refine Rn.if_eq dX12_line_47 (fun h9 => (by first | exact absurd h9 (by decide) | exact absurd (by decide) h9)) (fun h9 => ?_)
                  have hbt : ((M.1 149 21) >>> (7 &&& 31)) &&& 1 = 1 ↔ p.tb 7 = true := by rw [← hbw.1 7 (by decide)]; exact bt2 (M.1 149 21) (j := 7) (by decide)
                  refine Rn.aload_n dX12_line_50 rfl ?_
                  refine Rn.getI dX12_line_51 fX12_255 rfl (rc149 hR) ?_
                  refine Rn.iload_n dX12_line_54 rfl ?_
                  refine Rn.ishr dX12_line_55 ?_
                  refine Rn.iconstv (v := 1) dX12_line_56 ic_1 ?_
                  refine Rn.iand dX12_line_57 ?_
                  refine Rn.iconstv (v := 1) dX12_line_58 ic_1 ?_
                  refine Rn.icmp_ne dX12_line_59 (fun hto => ?_) (fun hto => ?_)
                  · skip
                    have htb : ¬ p.tb 7 = true := fun g => hto (hbt.mpr g)
                    refine Rn.iload_n dX12_line_70 rfl ?_
                    refine Rn.if_ne dX12_line_71 (fun h9 => ?_) (fun h9 => (by first | exact absurd h9 (by decide) | exact absurd (by decide) h9))
                    refine Rn.aload_n dX12_line_86 rfl ?_
                    refine Rn.getI dX12_line_87 fX12_222 rfl (rc149 hR) ?_
                    refine Rn.if_eq dX12_line_90 (fun h9 => ?_) (fun h9 => absurd h29 h9)
                    refine Rn.aload_n dX12_line_94 rfl ?_
                    refine Rn.dup dX12_line_95 rfl ?_
                    refine Rn.getI dX12_line_96 fX12_255 rfl (rc149 hR) ?_
                    refine Rn.iconstv (v := 1) dX12_line_99 ic_1 ?_
                    refine Rn.iload_n dX12_line_100 rfl ?_
                    refine Rn.ishl dX12_line_101 ?_
                    refine Rn.ior dX12_line_102 ?_
                    refine Rn.putI dX12_line_103 fX12_255 rfl rfl rfl (rc149 hR) ?_
                    refine Rn.aload_n dX12_line_106 rfl ?_
                    obtain ⟨N1, e1⟩ : ∃ N9, N9 = sI M 149 (upd (M.1 149) 21 ((M.1 149 21) ||| ((1 : Int32) <<< (7 &&& 31)))) := ⟨_, rfl⟩
                    rw [← e1]
                    have r1 : rlF M N1 := by rw [e1]; exact rlF.f (fun j hj => pk_un (by omega))
                    have hS1 : RPs N1 f n (p.D, p.ct, p.lw, p.c, setB p.tb 7 true, p.hc) i := by rw [e1]; exact hS0.told (hbw.or (k := 7) (by decide) _ (fun j hj => rfl) ⟨rfl, rfl⟩)
                    clear e1
                    have hRN1 : RW ly N1.2.2 := by rw [r1.1]; exact hR
                    refine Rn.callV0 dX12_line_107 vX12_228 (rc149 hRN1) (by decide) rfl (rtok (M := N1) hS1.z hRN1) (by decide) ⟨(Nat.le_of_ble_eq_true rfl), (Nat.le_of_ble_eq_true rfl), (Nat.le_of_ble_eq_true rfl)⟩ (fun h => by cases h) (fun v1 ly1 N2 ⟨q1, q2, t1, z1⟩ => ?_)
                    rw [q1, q2]
                    have r2 : rlF M N2 := r1.tr (rlF.tok t1)
                    have hS2 := hS1.tk t1 z1
                    have hRN2 : RW ly N2.2.2 := by rw [r2.1]; exact hR
                    clear hS1
                    refine Rn.iload_n dX12_line_110 rfl ?_
                    refine Rn.tableIn (off := 184) (tgt := 295) dX12_line_111 (by decide) (by decide) (by decide) (by decide) ?_
                    refine Rn.aload_n dX12_line_295 rfl ?_
                    refine Rn.bipushv (v := 10) dX12_line_296 bp_10 ?_
                    refine Rn.aload_n dX12_line_298 rfl ?_
                    refine Rn.iconstv (v := 0) dX12_line_299 ic_0 ?_
                    refine Rn.bipushv (v := 99) dX12_line_300 bp_99 ?_
                    refine Rn.callV2 dX12_line_302 vX12_262 (rc149 hRN2) (by decide) rfl (rnum (M := N2) (i := nx f n i) hS2.z hRN2) (by decide) ⟨(Nat.le_of_ble_eq_true rfl), (Nat.le_of_ble_eq_true rfl), (Nat.le_of_ble_eq_true rfl)⟩ (fun h => by cases h) (fun v1 ly1 A0 ⟨q2, hh⟩ => ?_)
                    rw [q2]
                    rcases hh with ⟨zz0, q1, bb0, tt0, za0⟩ | ⟨zz0, q1, gg0, hfa⟩
                    · skip
                      rw [q1]
                      have rA0 : rlF M A0 := r2.tr (rlF.tok tt0)
                      have hSA0 := hS2.tk tt0 za0
                      have hRA0 : RW ly A0.2.2 := by rw [rA0.1]; exact hR
                      refine Rn.callV2 dX12_line_305 vX12_265 (rc149 hRA0) (by decide) rfl (tX12_reads (M := A0) (k := 10) (x := nvF f n (nx f n i)) (by decide) hRA0) (by omega) ⟨(Nat.le_of_ble_eq_true rfl), (Nat.le_of_ble_eq_true rfl), (Nat.le_of_ble_eq_true rfl)⟩ (fun h => by cases h) (fun v1 ly1 M1 ⟨q1, q2, q3⟩ => ?_)
                      rw [q1, q2, q3]
                      obtain ⟨B0, eB⟩ : ∃ N9, N9 = sI A0 151 (upd (A0.1 151) (13 + 10) (nvF f n (nx f n i))) := ⟨_, rfl⟩
                      rw [← eB]
                      have rB0 : rlF M B0 := by rw [eB]; exact rA0.tr (rlF.r (by decide) ⟨by decide, by decide, by show 13 ≤ _; omega⟩)
                      have hSB0 := by have h9 := hSA0.num (ix := 10) (x := nvF f n (nx f n i)) (by decide) (fun g => absurd g (by decide)); rw [← eB] at h9; exact h9
                      clear eB
                      have hRB0 : RW ly B0.2.2 := by rw [rB0.1]; exact hR
                      have hres := lnF_of (hln.trans ((if_neg htb).trans ((qK_0 zz0).trans (rfl))))
                      refine Rn.goto dX12_line_308 ?_
                      refine Rn.forget (lv' := [some (.ref 149), none, none, none]) (⟨rfl, trivial⟩) ?_
                      rw [hres]
                      exact rlTail hSB0 rB0 h23 hR
                    · skip
                      rw [q1]
                      have rA0 : rlF M A0 := r2.tr gg0
                      have hRA0 : RW ly A0.2.2 := by rw [rA0.1]; exact hR
                      have hf9 : ¬ A0.1 149 29 = 0 := fun g => hfa.2.1 (hfa.1.symm.trans g)
                      refine Rn.callV2 dX12_line_305 vX12_265 (rc149 hRA0) (by decide) rfl (tX12_reads (M := A0) (k := 10) (x := 0) (by decide) hRA0) (by omega) ⟨(Nat.le_of_ble_eq_true rfl), (Nat.le_of_ble_eq_true rfl), (Nat.le_of_ble_eq_true rfl)⟩ (fun h => by cases h) (fun v1 ly1 M1 ⟨q1, q2, q3⟩ => ?_)
                      rw [q1, q2, q3]
                      obtain ⟨C0, eC⟩ : ∃ N9, N9 = sI A0 151 (upd (A0.1 151) (13 + 10) 0) := ⟨_, rfl⟩
                      rw [← eC]
                      have rC0 : rlF M C0 := by rw [eC]; exact rA0.tr (rlF.r (by decide) ⟨by decide, by decide, by show 13 ≤ _; omega⟩)
                      have hfaC0 := hfa.of (K2 := C0) (by rw [eC]; rfl) (by rw [eC]; rfl)
                      clear eC
                      have hRC0 : RW ly C0.2.2 := by rw [rC0.1]; exact hR
                      have hf9 : ¬ C0.1 149 29 = 0 := fun g => hfaC0.2.1 (hfaC0.1.symm.trans g)
                      refine Rn.goto dX12_line_308 ?_
                      refine Rn.forget (lv' := [some (.ref 149), none, none, none]) (⟨rfl, trivial⟩) ?_
                      exact rlTail0 hfaC0 rC0 (lnF_no (hln.trans ((if_neg htb).trans (qK_n zz0)))) hR
                  · skip
                    have htb : p.tb 7 = true := hbt.mp hto
                    refine Rn.aload_n dX12_line_62 rfl ?_
                    refine Rn.iconstv (v := 3) dX12_line_63 ic_3 ?_
                    refine Rn.callV1 dX12_line_64 vX12_231 (rc149 hR) (by decide) rfl (rdWrong (M := M) (x := 3) hz.2.2 hR) (by omega) ⟨(Nat.le_of_ble_eq_true rfl), (Nat.le_of_ble_eq_true rfl), (Nat.le_of_ble_eq_true rfl)⟩ (fun h => by cases h) (fun v1 ly1 M1 ⟨q1, q2, q3⟩ => ?_)
                    rw [q1, q2, q3]
                    have hfa := hz.wr (k := 3) (by decide)
                    obtain ⟨N9, e9⟩ : ∃ N0, N0 = wrM M 3 := ⟨_, rfl⟩
                    rw [← e9]
                    rw [← e9] at hfa
                    have rN9 : rlF M N9 := by rw [e9]; exact rlF.wr
                    clear e9
                    have hRN9 : RW ly N9.2.2 := by rw [rN9.1]; exact hR
                    refine Rn.goto dX12_line_67 ?_
                    refine Rn.aload_n dX12_line_86 rfl ?_
                    refine Rn.getI dX12_line_87 fX12_222 rfl (rc149 hRN9) ?_
                    refine Rn.if_eq dX12_line_90 (fun h9 => absurd (hfa.1.symm.trans h9) hfa.2.1) (fun h9 => ?_)
                    exact Rn.vret dX12_line_93 rfl ⟨rfl, rfl, rN9.g, Or.inr ⟨_, _, lnF_no (hln.trans (if_pos htb)), hfa⟩⟩
                · skip
                  by_cases c8 : kdF f n i = 8
                  · skip
                    have hln : lnC (kdF f n) (nvF f n) (nx f n) p i = _ := (if_neg (show ¬ kdF f n i = 0 by rw [c8]; decide)).trans ((if_neg (show ¬ kdF f n i = 1 by rw [c8]; decide)).trans ((if_neg (show ¬ kdF f n i = 2 by rw [c8]; decide)).trans ((if_neg (show ¬ kdF f n i = 3 by rw [c8]; decide)).trans ((if_neg (show ¬ kdF f n i = 4 by rw [c8]; decide)).trans ((if_neg (show ¬ kdF f n i = 5 by rw [c8]; decide)).trans ((if_neg (show ¬ kdF f n i = 6 by rw [c8]; decide)).trans ((if_neg (show ¬ kdF f n i = 7 by rw [c8]; decide)).trans (if_pos c8))))))))
                    have hsv := (htc.1.w (w := 8) (by decide)).mpr (htc.2.1.trans c8)
                    refine Rn.aload_n dX12_line_0 rfl ?_
                    refine Rn.getI dX12_line_1 fX12_188 rfl (rc149 hR) ?_
                    refine Rn.topI (y := 0) (hsv.1) ?_
                    refine Rn.if_ne dX12_line_4 (fun h9 => (by first | exact absurd h9 (by decide) | exact absurd (by decide) h9)) (fun h9 => ?_)
                    refine Rn.aload_n dX12_line_7 rfl ?_
                    refine Rn.getI dX12_line_8 fX12_198 rfl (rc149 hR) ?_
                    refine Rn.topI (y := 8) (hsv.2) ?_
                    refine Rn.bipushv (v := 10) dX12_line_11 bp_10 ?_
                    refine Rn.icmp_le dX12_line_13 (fun h9 => ?_) (fun h9 => (by first | exact absurd h9 (by decide) | exact absurd (by decide) h9))
                    refine Rn.aload_n dX12_line_22 rfl ?_
                    refine Rn.getI dX12_line_23 fX12_198 rfl (rc149 hR) ?_
                    refine Rn.topI (y := 8) (hsv.2) ?_
                    refine Rn.istore_n (lv' := [some (.ref 149), some (.int 8), none, none]) dX12_line_26 (by decide) rfl ?_
                    refine Rn.aload_n dX12_line_27 rfl ?_
                    refine Rn.iload_n dX12_line_28 rfl ?_
                    refine Rn.callV1 dX12_line_29 vX12_249 (rc149 hR) (by decide) rfl (tX12_isFull (M := M) (x := 8) hR) (by decide) ⟨(Nat.le_of_ble_eq_true rfl), (Nat.le_of_ble_eq_true rfl), (Nat.le_of_ble_eq_true rfl)⟩ (fun h => by cases h) (fun v1 ly1 M1 ⟨q1, q2, q3⟩ => ?_)
                    rw [q1, q2, q3]
                    refine Rn.topI (y := 0) (if_neg (by rintro (g | g | g | g) <;> exact absurd g.1 (by decide))) ?_
                    refine Rn.if_eq dX12_line_32 (fun h9 => ?_) (fun h9 => (by first | exact absurd h9 (by decide) | exact absurd (by decide) h9))
                    refine Rn.iload_n dX12_line_43 rfl ?_
                    refine Rn.callS1 dX12_line_44 vX12_252 (tX12_isOnce (M := M) (x := 8)) (by decide) ⟨(Nat.le_of_ble_eq_true rfl), (Nat.le_of_ble_eq_true rfl), (Nat.le_of_ble_eq_true rfl)⟩ (fun h => by cases h) (fun v1 ly1 M1 ⟨q1, q2, q3⟩ => ?_)
                    rw [q1, q2, q3]
                    refine Rn.topI (y := 1) (by decide) ?_
                    refine Rn.if_eq dX12_line_47 (fun h9 => (by first | exact absurd h9 (by decide) | exact absurd (by decide) h9)) (fun h9 => ?_)
                    have hbt : ((M.1 149 21) >>> (8 &&& 31)) &&& 1 = 1 ↔ p.tb 8 = true := by rw [← hbw.1 8 (by decide)]; exact bt2 (M.1 149 21) (j := 8) (by decide)
                    refine Rn.aload_n dX12_line_50 rfl ?_
                    refine Rn.getI dX12_line_51 fX12_255 rfl (rc149 hR) ?_
                    refine Rn.iload_n dX12_line_54 rfl ?_
                    refine Rn.ishr dX12_line_55 ?_
                    refine Rn.iconstv (v := 1) dX12_line_56 ic_1 ?_
                    refine Rn.iand dX12_line_57 ?_
                    refine Rn.iconstv (v := 1) dX12_line_58 ic_1 ?_
                    refine Rn.icmp_ne dX12_line_59 (fun hto => ?_) (fun hto => ?_)
                    · skip
                      have htb : ¬ p.tb 8 = true := fun g => hto (hbt.mpr g)
                      refine Rn.iload_n dX12_line_70 rfl ?_
                      refine Rn.if_ne dX12_line_71 (fun h9 => ?_) (fun h9 => (by first | exact absurd h9 (by decide) | exact absurd (by decide) h9))
                      refine Rn.aload_n dX12_line_86 rfl ?_
                      refine Rn.getI dX12_line_87 fX12_222 rfl (rc149 hR) ?_
                      refine Rn.if_eq dX12_line_90 (fun h9 => ?_) (fun h9 => absurd h29 h9)
                      refine Rn.aload_n dX12_line_94 rfl ?_
                      refine Rn.dup dX12_line_95 rfl ?_
                      refine Rn.getI dX12_line_96 fX12_255 rfl (rc149 hR) ?_
                      refine Rn.iconstv (v := 1) dX12_line_99 ic_1 ?_
                      refine Rn.iload_n dX12_line_100 rfl ?_
                      refine Rn.ishl dX12_line_101 ?_
                      refine Rn.ior dX12_line_102 ?_
                      refine Rn.putI dX12_line_103 fX12_255 rfl rfl rfl (rc149 hR) ?_
                      refine Rn.aload_n dX12_line_106 rfl ?_
                      obtain ⟨N1, e1⟩ : ∃ N9, N9 = sI M 149 (upd (M.1 149) 21 ((M.1 149 21) ||| ((1 : Int32) <<< (8 &&& 31)))) := ⟨_, rfl⟩
                      rw [← e1]
                      have r1 : rlF M N1 := by rw [e1]; exact rlF.f (fun j hj => pk_un (by omega))
                      have hS1 : RPs N1 f n (p.D, p.ct, p.lw, p.c, setB p.tb 8 true, p.hc) i := by rw [e1]; exact hS0.told (hbw.or (k := 8) (by decide) _ (fun j hj => rfl) ⟨rfl, rfl⟩)
                      clear e1
                      have hRN1 : RW ly N1.2.2 := by rw [r1.1]; exact hR
                      refine Rn.callV0 dX12_line_107 vX12_228 (rc149 hRN1) (by decide) rfl (rtok (M := N1) hS1.z hRN1) (by decide) ⟨(Nat.le_of_ble_eq_true rfl), (Nat.le_of_ble_eq_true rfl), (Nat.le_of_ble_eq_true rfl)⟩ (fun h => by cases h) (fun v1 ly1 N2 ⟨q1, q2, t1, z1⟩ => ?_)
                      rw [q1, q2]
                      have r2 : rlF M N2 := r1.tr (rlF.tok t1)
                      have hS2 := hS1.tk t1 z1
                      have hRN2 : RW ly N2.2.2 := by rw [r2.1]; exact hR
                      clear hS1
                      refine Rn.iload_n dX12_line_110 rfl ?_
                      refine Rn.tableIn (off := 200) (tgt := 311) dX12_line_111 (by decide) (by decide) (by decide) (by decide) ?_
                      refine Rn.aload_n dX12_line_311 rfl ?_
                      refine Rn.bipushv (v := 11) dX12_line_312 bp_11 ?_
                      refine Rn.aload_n dX12_line_314 rfl ?_
                      refine Rn.iconstv (v := 0) dX12_line_315 ic_0 ?_
                      refine Rn.ldc dX12_line_316 kX12_207 ?_
                      refine Rn.callV2 dX12_line_318 vX12_262 (rc149 hRN2) (by decide) rfl (rnum (M := N2) (i := nx f n i) hS2.z hRN2) (by decide) ⟨(Nat.le_of_ble_eq_true rfl), (Nat.le_of_ble_eq_true rfl), (Nat.le_of_ble_eq_true rfl)⟩ (fun h => by cases h) (fun v1 ly1 A0 ⟨q2, hh⟩ => ?_)
                      rw [q2]
                      rcases hh with ⟨zz0, q1, bb0, tt0, za0⟩ | ⟨zz0, q1, gg0, hfa⟩
                      · skip
                        rw [q1]
                        have rA0 : rlF M A0 := r2.tr (rlF.tok tt0)
                        have hSA0 := hS2.tk tt0 za0
                        have hRA0 : RW ly A0.2.2 := by rw [rA0.1]; exact hR
                        refine Rn.callV2 dX12_line_321 vX12_265 (rc149 hRA0) (by decide) rfl (tX12_reads (M := A0) (k := 11) (x := nvF f n (nx f n i)) (by decide) hRA0) (by omega) ⟨(Nat.le_of_ble_eq_true rfl), (Nat.le_of_ble_eq_true rfl), (Nat.le_of_ble_eq_true rfl)⟩ (fun h => by cases h) (fun v1 ly1 M1 ⟨q1, q2, q3⟩ => ?_)
                        rw [q1, q2, q3]
                        obtain ⟨B0, eB⟩ : ∃ N9, N9 = sI A0 151 (upd (A0.1 151) (13 + 11) (nvF f n (nx f n i))) := ⟨_, rfl⟩
                        rw [← eB]
                        have rB0 : rlF M B0 := by rw [eB]; exact rA0.tr (rlF.r (by decide) ⟨by decide, by decide, by show 13 ≤ _; omega⟩)
                        have hSB0 := by have h9 := hSA0.num (ix := 11) (x := nvF f n (nx f n i)) (by decide) (fun g => absurd g (by decide)); rw [← eB] at h9; exact h9
                        clear eB
                        have hRB0 : RW ly B0.2.2 := by rw [rB0.1]; exact hR
                        have hres := lnF_of (hln.trans ((if_neg htb).trans ((qK_0 zz0).trans (rfl))))
                        refine Rn.goto dX12_line_324 ?_
                        refine Rn.forget (lv' := [some (.ref 149), none, none, none]) (⟨rfl, trivial⟩) ?_
                        rw [hres]
                        exact rlTail hSB0 rB0 h23 hR
                      · skip
                        rw [q1]
                        have rA0 : rlF M A0 := r2.tr gg0
                        have hRA0 : RW ly A0.2.2 := by rw [rA0.1]; exact hR
                        have hf9 : ¬ A0.1 149 29 = 0 := fun g => hfa.2.1 (hfa.1.symm.trans g)
                        refine Rn.callV2 dX12_line_321 vX12_265 (rc149 hRA0) (by decide) rfl (tX12_reads (M := A0) (k := 11) (x := 0) (by decide) hRA0) (by omega) ⟨(Nat.le_of_ble_eq_true rfl), (Nat.le_of_ble_eq_true rfl), (Nat.le_of_ble_eq_true rfl)⟩ (fun h => by cases h) (fun v1 ly1 M1 ⟨q1, q2, q3⟩ => ?_)
                        rw [q1, q2, q3]
                        obtain ⟨C0, eC⟩ : ∃ N9, N9 = sI A0 151 (upd (A0.1 151) (13 + 11) 0) := ⟨_, rfl⟩
                        rw [← eC]
                        have rC0 : rlF M C0 := by rw [eC]; exact rA0.tr (rlF.r (by decide) ⟨by decide, by decide, by show 13 ≤ _; omega⟩)
                        have hfaC0 := hfa.of (K2 := C0) (by rw [eC]; rfl) (by rw [eC]; rfl)
                        clear eC
                        have hRC0 : RW ly C0.2.2 := by rw [rC0.1]; exact hR
                        have hf9 : ¬ C0.1 149 29 = 0 := fun g => hfaC0.2.1 (hfaC0.1.symm.trans g)
                        refine Rn.goto dX12_line_324 ?_
                        refine Rn.forget (lv' := [some (.ref 149), none, none, none]) (⟨rfl, trivial⟩) ?_
                        exact rlTail0 hfaC0 rC0 (lnF_no (hln.trans ((if_neg htb).trans (qK_n zz0)))) hR
                    · skip
                      have htb : p.tb 8 = true := hbt.mp hto
                      refine Rn.aload_n dX12_line_62 rfl ?_
                      refine Rn.iconstv (v := 3) dX12_line_63 ic_3 ?_
                      refine Rn.callV1 dX12_line_64 vX12_231 (rc149 hR) (by decide) rfl (rdWrong (M := M) (x := 3) hz.2.2 hR) (by omega) ⟨(Nat.le_of_ble_eq_true rfl), (Nat.le_of_ble_eq_true rfl), (Nat.le_of_ble_eq_true rfl)⟩ (fun h => by cases h) (fun v1 ly1 M1 ⟨q1, q2, q3⟩ => ?_)
                      rw [q1, q2, q3]
                      have hfa := hz.wr (k := 3) (by decide)
                      obtain ⟨N9, e9⟩ : ∃ N0, N0 = wrM M 3 := ⟨_, rfl⟩
                      rw [← e9]
                      rw [← e9] at hfa
                      have rN9 : rlF M N9 := by rw [e9]; exact rlF.wr
                      clear e9
                      have hRN9 : RW ly N9.2.2 := by rw [rN9.1]; exact hR
                      refine Rn.goto dX12_line_67 ?_
                      refine Rn.aload_n dX12_line_86 rfl ?_
                      refine Rn.getI dX12_line_87 fX12_222 rfl (rc149 hRN9) ?_
                      refine Rn.if_eq dX12_line_90 (fun h9 => absurd (hfa.1.symm.trans h9) hfa.2.1) (fun h9 => ?_)
                      exact Rn.vret dX12_line_93 rfl ⟨rfl, rfl, rN9.g, Or.inr ⟨_, _, lnF_no (hln.trans (if_pos htb)), hfa⟩⟩
                  · skip
                    by_cases c9 : kdF f n i = 9
                    · skip
                      have hln : lnC (kdF f n) (nvF f n) (nx f n) p i = _ := (if_neg (show ¬ kdF f n i = 0 by rw [c9]; decide)).trans ((if_neg (show ¬ kdF f n i = 1 by rw [c9]; decide)).trans ((if_neg (show ¬ kdF f n i = 2 by rw [c9]; decide)).trans ((if_neg (show ¬ kdF f n i = 3 by rw [c9]; decide)).trans ((if_neg (show ¬ kdF f n i = 4 by rw [c9]; decide)).trans ((if_neg (show ¬ kdF f n i = 5 by rw [c9]; decide)).trans ((if_neg (show ¬ kdF f n i = 6 by rw [c9]; decide)).trans ((if_neg (show ¬ kdF f n i = 7 by rw [c9]; decide)).trans ((if_neg (show ¬ kdF f n i = 8 by rw [c9]; decide)).trans (if_pos c9)))))))))
                      have hsv := (htc.1.w (w := 9) (by decide)).mpr (htc.2.1.trans c9)
                      refine Rn.aload_n dX12_line_0 rfl ?_
                      refine Rn.getI dX12_line_1 fX12_188 rfl (rc149 hR) ?_
                      refine Rn.topI (y := 0) (hsv.1) ?_
                      refine Rn.if_ne dX12_line_4 (fun h9 => (by first | exact absurd h9 (by decide) | exact absurd (by decide) h9)) (fun h9 => ?_)
                      refine Rn.aload_n dX12_line_7 rfl ?_
                      refine Rn.getI dX12_line_8 fX12_198 rfl (rc149 hR) ?_
                      refine Rn.topI (y := 9) (hsv.2) ?_
                      refine Rn.bipushv (v := 10) dX12_line_11 bp_10 ?_
                      refine Rn.icmp_le dX12_line_13 (fun h9 => ?_) (fun h9 => (by first | exact absurd h9 (by decide) | exact absurd (by decide) h9))
                      refine Rn.aload_n dX12_line_22 rfl ?_
                      refine Rn.getI dX12_line_23 fX12_198 rfl (rc149 hR) ?_
                      refine Rn.topI (y := 9) (hsv.2) ?_
                      refine Rn.istore_n (lv' := [some (.ref 149), some (.int 9), none, none]) dX12_line_26 (by decide) rfl ?_
                      refine Rn.aload_n dX12_line_27 rfl ?_
                      refine Rn.iload_n dX12_line_28 rfl ?_
                      refine Rn.callV1 dX12_line_29 vX12_249 (rc149 hR) (by decide) rfl (tX12_isFull (M := M) (x := 9) hR) (by decide) ⟨(Nat.le_of_ble_eq_true rfl), (Nat.le_of_ble_eq_true rfl), (Nat.le_of_ble_eq_true rfl)⟩ (fun h => by cases h) (fun v1 ly1 M1 ⟨q1, q2, q3⟩ => ?_)
                      rw [q1, q2, q3]
                      have hfl : M.1 151 22 = 3 ↔ p.ct 3 = 3 := by rw [show M.1 151 22 = nI (p.ct 3) from hcm 3 (by decide)]; exact ⟨fun g => nI_inj (by have := hct.2.2.2.1; omega) (by decide) g, fun g => by rw [g]; rfl⟩
                      by_cases hfu : p.ct 3 = 3
                      · skip
                        refine Rn.topI (y := 1) (if_pos (Or.inr (Or.inr (Or.inr ⟨rfl, hfl.mpr hfu⟩)))) ?_
                        refine Rn.if_eq dX12_line_32 (fun h9 => (by first | exact absurd h9 (by decide) | exact absurd (by decide) h9)) (fun h9 => ?_)
                        refine Rn.aload_n dX12_line_35 rfl ?_
                        refine Rn.iconstv (v := 2) dX12_line_36 ic_2 ?_
                        refine Rn.callV1 dX12_line_37 vX12_231 (rc149 hR) (by decide) rfl (rdWrong (M := M) (x := 2) hz.2.2 hR) (by omega) ⟨(Nat.le_of_ble_eq_true rfl), (Nat.le_of_ble_eq_true rfl), (Nat.le_of_ble_eq_true rfl)⟩ (fun h => by cases h) (fun v1 ly1 M1 ⟨q1, q2, q3⟩ => ?_)
                        rw [q1, q2, q3]
                        have hfa := hz.wr (k := 2) (by decide)
                        obtain ⟨N9, e9⟩ : ∃ N0, N0 = wrM M 2 := ⟨_, rfl⟩
                        rw [← e9]
                        rw [← e9] at hfa
                        have rN9 : rlF M N9 := by rw [e9]; exact rlF.wr
                        clear e9
                        have hRN9 : RW ly N9.2.2 := by rw [rN9.1]; exact hR
                        refine Rn.goto dX12_line_40 ?_
                        refine Rn.aload_n dX12_line_86 rfl ?_
                        refine Rn.getI dX12_line_87 fX12_222 rfl (rc149 hRN9) ?_
                        refine Rn.if_eq dX12_line_90 (fun h9 => absurd (hfa.1.symm.trans h9) hfa.2.1) (fun h9 => ?_)
                        exact Rn.vret dX12_line_93 rfl ⟨rfl, rfl, rN9.g, Or.inr ⟨_, _, lnF_no (hln.trans (if_pos hfu)), hfa⟩⟩
                      · skip
                        refine Rn.topI (y := 0) (if_neg (fun g => g.elim (fun g => absurd g.1 (by decide)) (fun g => g.elim (fun g => absurd g.1 (by decide)) (fun g => g.elim (fun g => absurd g.1 (by decide)) (fun g => hfu (hfl.mp g.2)))))) ?_
                        refine Rn.if_eq dX12_line_32 (fun h9 => ?_) (fun h9 => (by first | exact absurd h9 (by decide) | exact absurd (by decide) h9))
                        refine Rn.iload_n dX12_line_43 rfl ?_
                        refine Rn.callS1 dX12_line_44 vX12_252 (tX12_isOnce (M := M) (x := 9)) (by decide) ⟨(Nat.le_of_ble_eq_true rfl), (Nat.le_of_ble_eq_true rfl), (Nat.le_of_ble_eq_true rfl)⟩ (fun h => by cases h) (fun v1 ly1 M1 ⟨q1, q2, q3⟩ => ?_)
                        rw [q1, q2, q3]
                        refine Rn.topI (y := 0) (by decide) ?_
                        refine Rn.if_eq dX12_line_47 (fun h9 => ?_) (fun h9 => (by first | exact absurd h9 (by decide) | exact absurd (by decide) h9))
                        refine Rn.iload_n dX12_line_70 rfl ?_
                        refine Rn.if_ne dX12_line_71 (fun h9 => ?_) (fun h9 => (by first | exact absurd h9 (by decide) | exact absurd (by decide) h9))
                        refine Rn.aload_n dX12_line_86 rfl ?_
                        refine Rn.getI dX12_line_87 fX12_222 rfl (rc149 hR) ?_
                        refine Rn.if_eq dX12_line_90 (fun h9 => ?_) (fun h9 => absurd h29 h9)
                        refine Rn.aload_n dX12_line_94 rfl ?_
                        refine Rn.dup dX12_line_95 rfl ?_
                        refine Rn.getI dX12_line_96 fX12_255 rfl (rc149 hR) ?_
                        refine Rn.iconstv (v := 1) dX12_line_99 ic_1 ?_
                        refine Rn.iload_n dX12_line_100 rfl ?_
                        refine Rn.ishl dX12_line_101 ?_
                        refine Rn.ior dX12_line_102 ?_
                        refine Rn.putI dX12_line_103 fX12_255 rfl rfl rfl (rc149 hR) ?_
                        refine Rn.aload_n dX12_line_106 rfl ?_
                        obtain ⟨N1, e1⟩ : ∃ N9, N9 = sI M 149 (upd (M.1 149) 21 ((M.1 149 21) ||| ((1 : Int32) <<< (9 &&& 31)))) := ⟨_, rfl⟩
                        rw [← e1]
                        have r1 : rlF M N1 := by rw [e1]; exact rlF.f (fun j hj => pk_un (by omega))
                        have hS1 : RPs N1 f n (p.D, p.ct, p.lw, p.c, p.tb, p.hc) i := by rw [e1]; exact hS0.told (hbw.or (k := 9) (by decide) _ (fun j hj => by rw [if_neg (by omega)]) ⟨rfl, rfl⟩)
                        clear e1
                        have hRN1 : RW ly N1.2.2 := by rw [r1.1]; exact hR
                        refine Rn.callV0 dX12_line_107 vX12_228 (rc149 hRN1) (by decide) rfl (rtok (M := N1) hS1.z hRN1) (by decide) ⟨(Nat.le_of_ble_eq_true rfl), (Nat.le_of_ble_eq_true rfl), (Nat.le_of_ble_eq_true rfl)⟩ (fun h => by cases h) (fun v1 ly1 N2 ⟨q1, q2, t1, z1⟩ => ?_)
                        rw [q1, q2]
                        have r2 : rlF M N2 := r1.tr (rlF.tok t1)
                        have hS2 := hS1.tk t1 z1
                        have hRN2 : RW ly N2.2.2 := by rw [r2.1]; exact hR
                        clear hS1
                        refine Rn.iload_n dX12_line_110 rfl ?_
                        refine Rn.tableIn (off := 216) (tgt := 327) dX12_line_111 (by decide) (by decide) (by decide) (by decide) ?_
                        have hS2p : RPs N2 f n p (nx f n i) := hS2
                        have hcn : ∀ k, k < 4 → N2.1 151 (19 + k) = nI (p.ct k) := hS2p.2.2.2.2.2.2.2.1.2.1
                        refine Rn.aload_n dX12_line_327 rfl ?_
                        refine Rn.bipushv (v := 9) dX12_line_328 bp_9 ?_
                        refine Rn.callV1 dX12_line_330 vX12_245 (rc149 hRN2) (by decide) rfl (tX12_fresher (M := N2) (k := 9) (by decide) hRN2) (by omega) ⟨(Nat.le_of_ble_eq_true rfl), (Nat.le_of_ble_eq_true rfl), (Nat.le_of_ble_eq_true rfl)⟩ (fun h => by cases h) (fun v1 ly1 M1 ⟨q1, q2, q3⟩ => ?_)
                        rw [q1, q2, q3]
                        refine Rn.topI (y := nI (p.ct 3)) (show N2.1 151 (13 + 9) = nI (p.ct 3) from hcn 3 (by decide)) ?_
                        refine Rn.istore_n (lv' := [some (.ref 149), some (.int 9), some (.int (nI (p.ct 3))), none]) dX12_line_333 (by decide) rfl ?_
                        refine Rn.aload_n dX12_line_334 rfl ?_
                        refine Rn.getR dX12_line_335 fX12_54 rfl (rc149 hRN2) (show N2.2.2 149 16 = some 164 from (rpt16 hRN2)) ?_
                        refine Rn.iconstv (v := 3) dX12_line_338 ic_3 ?_
                        refine Rn.iload_n dX12_line_339 rfl ?_
                        refine Rn.iadd dX12_line_340 ?_
                        refine Rn.topI (y := nI (3 + (p.ct 3))) (nI_add 3 (p.ct 3)) ?_
                        refine Rn.aload_n dX12_line_341 rfl ?_
                        refine Rn.aload_n dX12_line_342 rfl ?_
                        refine Rn.getR dX12_line_343 fX12_54 rfl (rc149 hRN2) (show N2.2.2 149 16 = some 164 from (rpt16 hRN2)) ?_
                        refine Rn.iconstv (v := 3) dX12_line_346 ic_3 ?_
                        refine Rn.iload_n dX12_line_347 rfl ?_
                        have h3 : p.ct 3 < 3 := Nat.lt_of_le_of_ne hct.2.2.2.1 hfu
                        refine Rn.callV3 dX12_line_348 vX12_278 (rc149 hRN2) (by decide) rfl (rfresh (M := N2) (i := nx f n i) (a := 164) (fo := 3) (m := p.ct 3) (len := 6) (N := p.D 4) hS2p.z (rc164 hRN2) (by omega) (by decide) (fun j hj => hS2p.2.2.2.2.2.2.2.1.2.2.2.1 4 (by decide) (by decide) j hj (fun g => absurd g (by decide))) hRN2) (by decide) ⟨(Nat.le_of_ble_eq_true rfl), (Nat.le_of_ble_eq_true rfl), (Nat.le_of_ble_eq_true rfl)⟩ (fun h => by cases h) (fun v1 ly1 N3 ⟨q2, hh⟩ => ?_)
                        rw [q2]
                        rcases hh with ⟨za, q1, t3, z3⟩ | ⟨za, q1, g3, hfa⟩
                        · skip
                          rw [q1]
                          have r3 : rlF M N3 := r2.tr (rlF.tok t3)
                          have hS3 := hS2p.tk t3 z3
                          have hRN3 : RW ly N3.2.2 := by rw [r3.1]; exact hR
                          refine Rn.iastN (k0 := (3 + (p.ct 3))) dX12_line_351 (rc164 hRN3) (by omega) (by decide) ?_
                          obtain ⟨N4, e4⟩ : ∃ N9, N9 = sI N3 164 (upd (N3.1 164) (3 + p.ct 3) (nvF f n (nx f n i))) := ⟨_, rfl⟩
                          rw [← e4]
                          have r4 : rlF M N4 := by rw [e4]; exact r3.tr (rlF.r (by decide) ⟨by decide, by decide, by show 3 ≤ _; omega⟩)
                          have a4 : ∀ a, a ≠ 164 → N4.1 a = N3.1 a := fun a ha => by rw [e4]; exact sI_ne ha
                          have a164 : N4.1 164 = upd (N3.1 164) (3 + p.ct 3) (nvF f n (nx f n i)) := by rw [e4]; exact sI_at _ _ _
                          clear e4
                          have hS4 : RPs N4 f n p (nx f n (nx f n i)) := by
                            obtain ⟨h1, h2, h3_, h4, h5, h6, h7, h8, h9⟩ := hS3
                            have hz4 := (show RDz N3 f n (nx f n (nx f n i)) from ⟨h1, h2, h3_⟩).of (K := N4) (by rw [a4 149 (by decide)]; exact ⟨rfl, rfl, rfl, rfl, rfl, rfl⟩) (a4 150 (by decide))
                            refine ⟨hz4.1, hz4.2.1, hz4.2.2, by rw [a4 149 (by decide)]; exact h4, by rw [a4 149 (by decide)]; exact h5, by rw [a4 149 (by decide)]; exact h6, by rw [a4 149 (by decide)]; exact h7, ?_, h9⟩
                            obtain ⟨g1, g2, g3, g4, g5⟩ := h8
                            refine ⟨by rw [a4 151 (by decide)]; exact g1, by rw [a4 151 (by decide)]; exact g2, by rw [a4 151 (by decide)]; exact g3, fun r r1 r2 j hj h9b => ?_, by rw [a4 165 (by decide), a4 166 (by decide), a4 167 (by decide), a4 168 (by decide)]; exact g5⟩
                            by_cases e : r = 4
                            · subst e
                              show N4.1 164 (3 + j) = _
                              have hj2 : j < p.ct 3 := hj
                              rw [a164, pk_un (by omega)]; exact g4 4 r1 r2 j hj h9b
                            · have hne : rCl r ≠ 164 := fun g => by rcases rows_i r (by omega) 4 (by decide) with x | x | x | x <;> first | omega | exact x.2 g
                              rw [a4 (rCl r) hne]; exact g4 r r1 r2 j hj h9b
                          have hRN4 : RW ly N4.2.2 := by rw [r4.1]; exact hR
                          refine Rn.aload_n dX12_line_352 rfl ?_
                          refine Rn.iconstv (v := 2) dX12_line_353 ic_2 ?_
                          refine Rn.iload_n dX12_line_354 rfl ?_
                          refine Rn.iadd dX12_line_355 ?_
                          refine Rn.topI (y := nI (2 + (p.ct 3))) (nI_add 2 (p.ct 3)) ?_
                          refine Rn.callV1 dX12_line_356 vX12_282 (rc149 hRN4) (by decide) rfl (rlawLine (M := N4) (k := 2 + p.ct 3) hS4 (by omega) hRN4) (by decide) ⟨(Nat.le_of_ble_eq_true rfl), (Nat.le_of_ble_eq_true rfl), (Nat.le_of_ble_eq_true rfl)⟩ (fun h => by cases h) (fun v1 ly1 N5 ⟨q1, q2, f5, hh⟩ => ?_)
                          rw [q1, q2]
                          have r5 : rlF M N5 := r4.tr f5
                          have hRN5 : RW ly N5.2.2 := by rw [r5.1]; exact hR
                          rcases hh with ⟨j, c2, e, hD, hS5, o5⟩ | ⟨q, j, hD, hfa⟩
                          · skip
                            have hmr := mRes_eq hD.top
                            refine Rn.aload_n dX12_line_359 rfl ?_
                            refine Rn.bipushv (v := 9) dX12_line_360 bp_9 ?_
                            refine Rn.iload_n dX12_line_362 rfl ?_
                            refine Rn.iconstv (v := 1) dX12_line_363 ic_1 ?_
                            refine Rn.iadd dX12_line_364 ?_
                            refine Rn.topI (y := nI (p.ct 3 + 1)) (nI_add (p.ct 3) 1) ?_
                            refine Rn.callV2 dX12_line_365 vX12_265 (rc149 hRN5) (by decide) rfl (tX12_reads (M := N5) (k := 9) (x := nI (p.ct 3 + 1)) (by decide) hRN5) (by omega) ⟨(Nat.le_of_ble_eq_true rfl), (Nat.le_of_ble_eq_true rfl), (Nat.le_of_ble_eq_true rfl)⟩ (fun h => by cases h) (fun v1 ly1 M1 ⟨q1, q2, q3⟩ => ?_)
                            rw [q1, q2, q3]
                            obtain ⟨N6, e6⟩ : ∃ N9, N9 = sI N5 151 (upd (N5.1 151) (13 + 9) (nI (p.ct 3 + 1))) := ⟨_, rfl⟩
                            rw [← e6]
                            have r6 : rlF M N6 := by rw [e6]; exact r5.tr (rlF.r (by decide) ⟨by decide, by decide, by show 13 ≤ _; omega⟩)
                            have a6 : ∀ a, a ≠ 151 → N6.1 a = N5.1 a := fun a ha => by rw [e6]; exact sI_ne ha
                            have a151 : N6.1 151 = upd (N5.1 151) (19 + 3) (nI (p.ct 3 + 1)) := by rw [e6]; exact sI_at _ _ _
                            clear e6
                            have hS6 : RPs N6 f n (set2 p.D 4 (p.ct 3) (nvF f n (nx f n i)), setN p.ct 3 (p.ct 3 + 1), setL p.lw (2 + p.ct 3) e, c2, p.tb, p.hc) j := by
                              obtain ⟨h1, h2, h3_, h4, h5, h6, h7, h8, h9⟩ := hS5
                              have hz6 := (show RDz N5 f n j from ⟨h1, h2, h3_⟩).of (K := N6) (by rw [a6 149 (by decide)]; exact ⟨rfl, rfl, rfl, rfl, rfl, rfl⟩) (a6 150 (by decide))
                              refine ⟨hz6.1, hz6.2.1, hz6.2.2, by rw [a6 149 (by decide)]; exact h4, by rw [a6 149 (by decide)]; exact h5, by rw [a6 149 (by decide)]; exact h6, by rw [a6 149 (by decide)]; exact h7, RPl.add (k := 3) (D2 := set2 p.D 4 (p.ct 3) (nvF f n (nx f n i))) h8 (by decide) rfl a151 ?_ ?_ ?_ ⟨a6 165 (by decide), a6 166 (by decide), a6 167 (by decide), a6 168 (by decide)⟩, h9.1, h9.2.1, h9.2.2.1, h3, h9.2.2.2.2.1, m00 (D := p.D) (r := 4) (ix := p.ct 3) (x := nvF f n (nx f n i)) (by omega) h9.2.2.2.2.2⟩
                              · intro r r1 r2 hk9
                                match r, r1, r2 with
                                | 4, _, _ => exact ⟨fun j _ => congrFun (a6 164 (by decide)) j, fun _ => (congrFun (a6 164 (by decide)) _).trans ((congrFun (o5 164 (by decide) (by decide)) _).trans ((congrFun a164 _).trans (pk_us.trans (show _ = set2 p.D 4 (p.ct 3) (nvF f n (nx f n i)) 4 (p.ct 3) from pk_us.symm))))⟩
                                | 1, _, _ => exact absurd hk9 (by decide)
                                | 2, _, _ => exact absurd hk9 (by decide)
                                | 3, _, _ => exact absurd hk9 (by decide)
                                | 5, _, _ => exact absurd hk9 (by decide)
                                | 6, _, _ => exact absurd hk9 (by decide)
                                | 7, _, _ => exact absurd hk9 (by decide)
                                | 8, _, _ => exact absurd hk9 (by decide)
                                | 9, _, _ => exact absurd hk9 (by decide)
                                | 10, _, _ => exact absurd hk9 (by decide)
                                | 11, _, _ => exact absurd hk9 (by decide)
                                | 12, _, _ => exact absurd hk9 (by decide)
                                | 13, _, _ => exact absurd hk9 (by decide)
                              · intro r r1 r2 hk9
                                have := rows_c r r2 r1
                                exact a6 (rCl r) (by omega)
                              · intro r j r1 r2 h9b
                                exact set2_k (a := 4) rfl h9b
                            have hRN6 : RW ly N6.2.2 := by rw [r6.1]; exact hR
                            have hres : lnF (kdF f n) (nvF f n) (nx f n) p i = if kdF f n j = 37 then .inl ((set2 p.D 4 (p.ct 3) (nvF f n (nx f n i)), setN p.ct 3 (p.ct 3 + 1), setL p.lw (2 + p.ct 3) e, c2, p.tb, p.hc), nx f n j) else .inr (1, j) := by
                              by_cases h37 : kdF f n j = 37
                              · rw [show drM (kdF f n) (dOk j c2 e) = mFin j c2 e from if_pos h37] at hmr
                                exact lnF_of (hln.trans ((if_neg hfu).trans ((qK_0 za).trans (congrArg (Sum.elim _ _) hmr))))
                              · rw [show drM (kdF f n) (dOk j c2 e) = mNo 1 j from if_neg h37] at hmr
                                rw [if_neg h37]
                                exact lnF_no (hln.trans ((if_neg hfu).trans ((qK_0 za).trans (congrArg (Sum.elim _ _) hmr))))
                            refine Rn.goto dX12_line_368 ?_
                            refine Rn.forget (lv' := [some (.ref 149), none, none, none]) (⟨rfl, trivial⟩) ?_
                            rw [hres]
                            exact rlTail hS6 r6 h23 hR
                          · skip
                            have hmr := mRes_eq hD.top
                            refine Rn.aload_n dX12_line_359 rfl ?_
                            refine Rn.bipushv (v := 9) dX12_line_360 bp_9 ?_
                            refine Rn.iload_n dX12_line_362 rfl ?_
                            refine Rn.iconstv (v := 1) dX12_line_363 ic_1 ?_
                            refine Rn.iadd dX12_line_364 ?_
                            refine Rn.topI (y := nI (p.ct 3 + 1)) (nI_add (p.ct 3) 1) ?_
                            refine Rn.callV2 dX12_line_365 vX12_265 (rc149 hRN5) (by decide) rfl (tX12_reads (M := N5) (k := 9) (x := nI (p.ct 3 + 1)) (by decide) hRN5) (by omega) ⟨(Nat.le_of_ble_eq_true rfl), (Nat.le_of_ble_eq_true rfl), (Nat.le_of_ble_eq_true rfl)⟩ (fun h => by cases h) (fun v1 ly1 M1 ⟨q1, q2, q3⟩ => ?_)
                            rw [q1, q2, q3]
                            obtain ⟨N6, e6⟩ : ∃ N9, N9 = sI N5 151 (upd (N5.1 151) (13 + 9) (nI (p.ct 3 + 1))) := ⟨_, rfl⟩
                            rw [← e6]
                            have r6 : rlF M N6 := by rw [e6]; exact r5.tr (rlF.r (by decide) ⟨by decide, by decide, by show 13 ≤ _; omega⟩)
                            have hfa6 : faR f n N6 q j := by rw [e6]; exact hfa
                            clear e6
                            have hRN6 : RW ly N6.2.2 := by rw [r6.1]; exact hR
                            refine Rn.goto dX12_line_368 ?_
                            refine Rn.forget (lv' := [some (.ref 149), none, none, none]) (⟨rfl, trivial⟩) ?_
                            exact rlTail0 hfa6 r6 (lnF_no (hln.trans ((if_neg hfu).trans ((qK_0 za).trans (congrArg (Sum.elim _ _) hmr))))) hR
                        · skip
                          rw [q1]
                          have r3 : rlF M N3 := r2.tr g3
                          have hRN3 : RW ly N3.2.2 := by rw [r3.1]; exact hR
                          refine Rn.iastN (k0 := (3 + (p.ct 3))) dX12_line_351 (rc164 hRN3) (by omega) (by decide) ?_
                          obtain ⟨N4, e4⟩ : ∃ N9, N9 = sI N3 164 (upd (N3.1 164) (3 + p.ct 3) 0) := ⟨_, rfl⟩
                          rw [← e4]
                          have r4 : rlF M N4 := by rw [e4]; exact r3.tr (rlF.r (by decide) ⟨by decide, by decide, by show 3 ≤ _; omega⟩)
                          have hfa4 := hfa.of (K2 := N4) (by rw [e4]; rfl) (by rw [e4]; rfl)
                          clear e4
                          have hRN4 : RW ly N4.2.2 := by rw [r4.1]; exact hR
                          have hf9 : ¬ N4.1 149 29 = 0 := fun g => hfa4.2.1 (hfa4.1.symm.trans g)
                          refine Rn.aload_n dX12_line_352 rfl ?_
                          refine Rn.iconstv (v := 2) dX12_line_353 ic_2 ?_
                          refine Rn.iload_n dX12_line_354 rfl ?_
                          refine Rn.iadd dX12_line_355 ?_
                          refine Rn.topI (y := nI (2 + (p.ct 3))) (nI_add 2 (p.ct 3)) ?_
                          refine Rn.callV1 dX12_line_356 vX12_282 (rc149 hRN4) (by decide) rfl (law0 (M := N4) hf9 hRN4) (by omega) ⟨(Nat.le_of_ble_eq_true rfl), (Nat.le_of_ble_eq_true rfl), (Nat.le_of_ble_eq_true rfl)⟩ (fun h => by cases h) (fun v1 ly1 M1 ⟨q1, q2, q3⟩ => ?_)
                          rw [q1, q2, q3]
                          refine Rn.aload_n dX12_line_359 rfl ?_
                          refine Rn.bipushv (v := 9) dX12_line_360 bp_9 ?_
                          refine Rn.iload_n dX12_line_362 rfl ?_
                          refine Rn.iconstv (v := 1) dX12_line_363 ic_1 ?_
                          refine Rn.iadd dX12_line_364 ?_
                          refine Rn.topI (y := nI (p.ct 3 + 1)) (nI_add (p.ct 3) 1) ?_
                          refine Rn.callV2 dX12_line_365 vX12_265 (rc149 hRN4) (by decide) rfl (tX12_reads (M := N4) (k := 9) (x := nI (p.ct 3 + 1)) (by decide) hRN4) (by omega) ⟨(Nat.le_of_ble_eq_true rfl), (Nat.le_of_ble_eq_true rfl), (Nat.le_of_ble_eq_true rfl)⟩ (fun h => by cases h) (fun v1 ly1 M1 ⟨q1, q2, q3⟩ => ?_)
                          rw [q1, q2, q3]
                          obtain ⟨N6, e6⟩ : ∃ N9, N9 = sI N4 151 (upd (N4.1 151) (13 + 9) (nI (p.ct 3 + 1))) := ⟨_, rfl⟩
                          rw [← e6]
                          have r6 : rlF M N6 := by rw [e6]; exact r4.tr (rlF.r (by decide) ⟨by decide, by decide, by show 13 ≤ _; omega⟩)
                          have hfa6 := hfa4.of (K2 := N6) (by rw [e6]; rfl) (by rw [e6]; rfl)
                          clear e6
                          have hRN6 : RW ly N6.2.2 := by rw [r6.1]; exact hR
                          refine Rn.goto dX12_line_368 ?_
                          refine Rn.forget (lv' := [some (.ref 149), none, none, none]) (⟨rfl, trivial⟩) ?_
                          exact rlTail0 hfa6 r6 (lnF_no (hln.trans ((if_neg hfu).trans (qK_n za)))) hR
                    · skip
                      by_cases c10 : kdF f n i = 10
                      · skip
                        have hln : lnC (kdF f n) (nvF f n) (nx f n) p i = _ := (if_neg (show ¬ kdF f n i = 0 by rw [c10]; decide)).trans ((if_neg (show ¬ kdF f n i = 1 by rw [c10]; decide)).trans ((if_neg (show ¬ kdF f n i = 2 by rw [c10]; decide)).trans ((if_neg (show ¬ kdF f n i = 3 by rw [c10]; decide)).trans ((if_neg (show ¬ kdF f n i = 4 by rw [c10]; decide)).trans ((if_neg (show ¬ kdF f n i = 5 by rw [c10]; decide)).trans ((if_neg (show ¬ kdF f n i = 6 by rw [c10]; decide)).trans ((if_neg (show ¬ kdF f n i = 7 by rw [c10]; decide)).trans ((if_neg (show ¬ kdF f n i = 8 by rw [c10]; decide)).trans ((if_neg (show ¬ kdF f n i = 9 by rw [c10]; decide)).trans (if_pos c10))))))))))
                        have hsv := (htc.1.w (w := 10) (by decide)).mpr (htc.2.1.trans c10)
                        refine Rn.aload_n dX12_line_0 rfl ?_
                        refine Rn.getI dX12_line_1 fX12_188 rfl (rc149 hR) ?_
                        refine Rn.topI (y := 0) (hsv.1) ?_
                        refine Rn.if_ne dX12_line_4 (fun h9 => (by first | exact absurd h9 (by decide) | exact absurd (by decide) h9)) (fun h9 => ?_)
                        refine Rn.aload_n dX12_line_7 rfl ?_
                        refine Rn.getI dX12_line_8 fX12_198 rfl (rc149 hR) ?_
                        refine Rn.topI (y := 10) (hsv.2) ?_
                        refine Rn.bipushv (v := 10) dX12_line_11 bp_10 ?_
                        refine Rn.icmp_le dX12_line_13 (fun h9 => ?_) (fun h9 => (by first | exact absurd h9 (by decide) | exact absurd (by decide) h9))
                        refine Rn.aload_n dX12_line_22 rfl ?_
                        refine Rn.getI dX12_line_23 fX12_198 rfl (rc149 hR) ?_
                        refine Rn.topI (y := 10) (hsv.2) ?_
                        refine Rn.istore_n (lv' := [some (.ref 149), some (.int 10), none, none]) dX12_line_26 (by decide) rfl ?_
                        refine Rn.aload_n dX12_line_27 rfl ?_
                        refine Rn.iload_n dX12_line_28 rfl ?_
                        refine Rn.callV1 dX12_line_29 vX12_249 (rc149 hR) (by decide) rfl (tX12_isFull (M := M) (x := 10) hR) (by decide) ⟨(Nat.le_of_ble_eq_true rfl), (Nat.le_of_ble_eq_true rfl), (Nat.le_of_ble_eq_true rfl)⟩ (fun h => by cases h) (fun v1 ly1 M1 ⟨q1, q2, q3⟩ => ?_)
                        rw [q1, q2, q3]
                        refine Rn.topI (y := 0) (if_neg (by rintro (g | g | g | g) <;> exact absurd g.1 (by decide))) ?_
                        refine Rn.if_eq dX12_line_32 (fun h9 => ?_) (fun h9 => (by first | exact absurd h9 (by decide) | exact absurd (by decide) h9))
                        refine Rn.iload_n dX12_line_43 rfl ?_
                        refine Rn.callS1 dX12_line_44 vX12_252 (tX12_isOnce (M := M) (x := 10)) (by decide) ⟨(Nat.le_of_ble_eq_true rfl), (Nat.le_of_ble_eq_true rfl), (Nat.le_of_ble_eq_true rfl)⟩ (fun h => by cases h) (fun v1 ly1 M1 ⟨q1, q2, q3⟩ => ?_)
                        rw [q1, q2, q3]
                        refine Rn.topI (y := 0) (by decide) ?_
                        refine Rn.if_eq dX12_line_47 (fun h9 => ?_) (fun h9 => (by first | exact absurd h9 (by decide) | exact absurd (by decide) h9))
                        refine Rn.iload_n dX12_line_70 rfl ?_
                        refine Rn.if_ne dX12_line_71 (fun h9 => ?_) (fun h9 => (by first | exact absurd h9 (by decide) | exact absurd (by decide) h9))
                        refine Rn.aload_n dX12_line_86 rfl ?_
                        refine Rn.getI dX12_line_87 fX12_222 rfl (rc149 hR) ?_
                        refine Rn.if_eq dX12_line_90 (fun h9 => ?_) (fun h9 => absurd h29 h9)
                        refine Rn.aload_n dX12_line_94 rfl ?_
                        refine Rn.dup dX12_line_95 rfl ?_
                        refine Rn.getI dX12_line_96 fX12_255 rfl (rc149 hR) ?_
                        refine Rn.iconstv (v := 1) dX12_line_99 ic_1 ?_
                        refine Rn.iload_n dX12_line_100 rfl ?_
                        refine Rn.ishl dX12_line_101 ?_
                        refine Rn.ior dX12_line_102 ?_
                        refine Rn.putI dX12_line_103 fX12_255 rfl rfl rfl (rc149 hR) ?_
                        refine Rn.aload_n dX12_line_106 rfl ?_
                        obtain ⟨N1, e1⟩ : ∃ N9, N9 = sI M 149 (upd (M.1 149) 21 ((M.1 149 21) ||| ((1 : Int32) <<< (10 &&& 31)))) := ⟨_, rfl⟩
                        rw [← e1]
                        have r1 : rlF M N1 := by rw [e1]; exact rlF.f (fun j hj => pk_un (by omega))
                        have hS1 : RPs N1 f n (p.D, p.ct, p.lw, p.c, p.tb, p.hc) i := by rw [e1]; exact hS0.told (hbw.or (k := 10) (by decide) _ (fun j hj => by rw [if_neg (by omega)]) ⟨rfl, rfl⟩)
                        clear e1
                        have hRN1 : RW ly N1.2.2 := by rw [r1.1]; exact hR
                        refine Rn.callV0 dX12_line_107 vX12_228 (rc149 hRN1) (by decide) rfl (rtok (M := N1) hS1.z hRN1) (by decide) ⟨(Nat.le_of_ble_eq_true rfl), (Nat.le_of_ble_eq_true rfl), (Nat.le_of_ble_eq_true rfl)⟩ (fun h => by cases h) (fun v1 ly1 N2 ⟨q1, q2, t1, z1⟩ => ?_)
                        rw [q1, q2]
                        have r2 : rlF M N2 := r1.tr (rlF.tok t1)
                        have hS2 := hS1.tk t1 z1
                        have hRN2 : RW ly N2.2.2 := by rw [r2.1]; exact hR
                        clear hS1
                        refine Rn.iload_n dX12_line_110 rfl ?_
                        refine Rn.tableOut (tgt := 371) dX12_line_111 (by decide) (by decide) ?_
                        have hS2p : RPs N2 f n p (nx f n i) := hS2
                        have hcn : ∀ k, k < 4 → N2.1 151 (19 + k) = nI (p.ct k) := hS2p.2.2.2.2.2.2.2.1.2.1
                        have htk := hS2p.z.tc
                        have hz2 := hS2p.z
                        by_cases d14 : kdF f n (nx f n i) = 14
                        · skip
                          have hsw := (htk.1.w (w := 14) (by decide)).mpr (htk.2.1.trans d14)
                          refine Rn.aload_n dX12_line_371 rfl ?_
                          refine Rn.getI dX12_line_372 fX12_188 rfl (rc149 hRN2) ?_
                          refine Rn.topI (y := 0) (hsw.1) ?_
                          refine Rn.if_ne dX12_line_375 (fun h9 => (by first | exact absurd h9 (by decide) | exact absurd (by decide) h9)) (fun h9 => ?_)
                          refine Rn.aload_n dX12_line_378 rfl ?_
                          refine Rn.getI dX12_line_379 fX12_198 rfl (rc149 hRN2) ?_
                          refine Rn.topI (y := 14) (hsw.2) ?_
                          refine Rn.bipushv (v := 14) dX12_line_382 bp_14 ?_
                          refine Rn.icmp_eq dX12_line_384 (fun h9 => ?_) (fun h9 => (by first | exact absurd h9 (by decide) | exact absurd (by decide) h9))
                          refine Rn.aload_n dX12_line_401 rfl ?_
                          refine Rn.getI dX12_line_402 fX12_198 rfl (rc149 hRN2) ?_
                          refine Rn.topI (y := 14) (hsw.2) ?_
                          refine Rn.bipushv (v := 14) dX12_line_405 bp_14 ?_
                          refine Rn.isub dX12_line_407 ?_
                          refine Rn.topI (y := 0) (by decide) ?_
                          refine Rn.istore_n (lv' := [some (.ref 149), some (.int 10), none, some (.int 0)]) dX12_line_408 (by decide) rfl ?_
                          refine Rn.aload_n dX12_line_409 rfl ?_
                          refine Rn.getI dX12_line_410 fX12_222 rfl (rc149 hRN2) ?_
                          refine Rn.topI (y := 0) (hz2.2.2) ?_
                          refine Rn.if_ne dX12_line_413 (fun h9 => (by first | exact absurd h9 (by decide) | exact absurd (by decide) h9)) (fun h9 => ?_)
                          have hbt : ((N2.1 149 21) >>> (16 &&& 31)) &&& 1 = 1 ↔ p.tb 14 = true := by rw [← hS2p.2.2.2.2.2.1.2.1]; exact bt2 (N2.1 149 21) (j := 16) (by decide)
                          refine Rn.aload_n dX12_line_416 rfl ?_
                          refine Rn.getI dX12_line_417 fX12_255 rfl (rc149 hRN2) ?_
                          refine Rn.bipushv (v := 16) dX12_line_420 bp_16 ?_
                          refine Rn.iload_n dX12_line_422 rfl ?_
                          refine Rn.iadd dX12_line_423 ?_
                          refine Rn.topI (y := 16) (by decide) ?_
                          refine Rn.ishr dX12_line_424 ?_
                          refine Rn.iconstv (v := 1) dX12_line_425 ic_1 ?_
                          refine Rn.iand dX12_line_426 ?_
                          refine Rn.iconstv (v := 1) dX12_line_427 ic_1 ?_
                          refine Rn.icmp_ne dX12_line_428 (fun hto => ?_) (fun hto => ?_)
                          · skip
                            have htb : ¬ p.tb 14 = true := fun g => hto (hbt.mpr g)
                            refine Rn.aload_n dX12_line_436 rfl ?_
                            refine Rn.getI dX12_line_437 fX12_222 rfl (rc149 hRN2) ?_
                            refine Rn.topI (y := 0) (hz2.2.2) ?_
                            refine Rn.if_eq dX12_line_440 (fun h9 => ?_) (fun h9 => (by first | exact absurd h9 (by decide) | exact absurd (by decide) h9))
                            refine Rn.aload_n dX12_line_444 rfl ?_
                            refine Rn.dup dX12_line_445 rfl ?_
                            refine Rn.getI dX12_line_446 fX12_255 rfl (rc149 hRN2) ?_
                            refine Rn.iconstv (v := 1) dX12_line_449 ic_1 ?_
                            refine Rn.bipushv (v := 16) dX12_line_450 bp_16 ?_
                            refine Rn.iload_n dX12_line_452 rfl ?_
                            refine Rn.iadd dX12_line_453 ?_
                            refine Rn.topI (y := 16) (by decide) ?_
                            refine Rn.ishl dX12_line_454 ?_
                            refine Rn.ior dX12_line_455 ?_
                            refine Rn.putI dX12_line_456 fX12_255 rfl rfl rfl (rc149 hRN2) ?_
                            refine Rn.aload_n dX12_line_459 rfl ?_
                            obtain ⟨N3, e3⟩ : ∃ N9, N9 = sI N2 149 (upd (N2.1 149) 21 ((N2.1 149 21) ||| ((1 : Int32) <<< (16 &&& 31)))) := ⟨_, rfl⟩
                            rw [← e3]
                            have r3 : rlF M N3 := by rw [e3]; exact r2.tr (rlF.f (fun j hj => pk_un (by omega)))
                            have hS3 : RPs N3 f n (p.D, p.ct, p.lw, p.c, setB p.tb 14 true, p.hc) (nx f n i) := by rw [e3]; exact hS2p.told (hS2p.2.2.2.2.2.1.law (k := 0) (by decide))
                            clear e3
                            have hRN3 : RW ly N3.2.2 := by rw [r3.1]; exact hR
                            refine Rn.callV0 dX12_line_460 vX12_228 (rc149 hRN3) (by decide) rfl (rtok (M := N3) hS3.z hRN3) (by decide) ⟨(Nat.le_of_ble_eq_true rfl), (Nat.le_of_ble_eq_true rfl), (Nat.le_of_ble_eq_true rfl)⟩ (fun h => by cases h) (fun v1 ly1 N4 ⟨q1, q2, t4, z4⟩ => ?_)
                            rw [q1, q2]
                            have r4 : rlF M N4 := r3.tr (rlF.tok t4)
                            have hS4 := hS3.tk t4 z4
                            have hRN4 : RW ly N4.2.2 := by rw [r4.1]; exact hR
                            refine Rn.aload_n dX12_line_463 rfl ?_
                            refine Rn.iload_n dX12_line_464 rfl ?_
                            refine Rn.callV1 dX12_line_465 vX12_282 (rc149 hRN4) (by decide) rfl (rlawLine (M := N4) (k := 0) hS4 (by decide) hRN4) (by decide) ⟨(Nat.le_of_ble_eq_true rfl), (Nat.le_of_ble_eq_true rfl), (Nat.le_of_ble_eq_true rfl)⟩ (fun h => by cases h) (fun v1 ly1 N5 ⟨q1, q2, f5, hh⟩ => ?_)
                            rw [q1, q2]
                            have r5 : rlF M N5 := r4.tr f5
                            have hRN5 : RW ly N5.2.2 := by rw [r5.1]; exact hR
                            rcases hh with ⟨j, c2, e, hD, hS5, o5⟩ | ⟨q, j, hD, hfa⟩
                            · skip
                              have hmr := mRes_eq hD.top
                              have hres : lnF (kdF f n) (nvF f n) (nx f n) p i = if kdF f n j = 37 then .inl ((p.D, p.ct, setL p.lw 0 e, c2, setB p.tb 14 true, p.hc), nx f n j) else .inr (1, j) := by
                                by_cases h37 : kdF f n j = 37
                                · rw [show drM (kdF f n) (dOk j c2 e) = mFin j c2 e from if_pos h37] at hmr
                                  exact lnF_of (hln.trans ((if_pos d14).trans ((if_neg htb).trans (congrArg (Sum.elim _ _) hmr))))
                                · rw [show drM (kdF f n) (dOk j c2 e) = mNo 1 j from if_neg h37] at hmr
                                  rw [if_neg h37]
                                  exact lnF_no (hln.trans ((if_pos d14).trans ((if_neg htb).trans (congrArg (Sum.elim _ _) hmr))))
                              refine Rn.forget (lv' := [some (.ref 149), none, none, none]) (⟨rfl, trivial⟩) ?_
                              rw [hres]
                              exact rlTail hS5 r5 h23 hR
                            · skip
                              have hmr := mRes_eq hD.top
                              refine Rn.forget (lv' := [some (.ref 149), none, none, none]) (⟨rfl, trivial⟩) ?_
                              exact rlTail0 hfa r5 (lnF_no (hln.trans ((if_pos d14).trans ((if_neg htb).trans (congrArg (Sum.elim _ _) hmr))))) hR
                          · skip
                            have htb : p.tb 14 = true := hbt.mp hto
                            refine Rn.aload_n dX12_line_431 rfl ?_
                            refine Rn.iconstv (v := 3) dX12_line_432 ic_3 ?_
                            refine Rn.callV1 dX12_line_433 vX12_231 (rc149 hRN2) (by decide) rfl (rdWrong (M := N2) (x := 3) hz2.2.2 hRN2) (by omega) ⟨(Nat.le_of_ble_eq_true rfl), (Nat.le_of_ble_eq_true rfl), (Nat.le_of_ble_eq_true rfl)⟩ (fun h => by cases h) (fun v1 ly1 M1 ⟨q1, q2, q3⟩ => ?_)
                            rw [q1, q2, q3]
                            have hfa := hz2.wr (k := 3) (by decide)
                            obtain ⟨N9, e9⟩ : ∃ N0, N0 = wrM N2 3 := ⟨_, rfl⟩
                            rw [← e9]
                            rw [← e9] at hfa
                            have rN9 : rlF M N9 := by rw [e9]; exact r2.tr rlF.wr
                            clear e9
                            have hRN9 : RW ly N9.2.2 := by rw [rN9.1]; exact hR
                            refine Rn.aload_n dX12_line_436 rfl ?_
                            refine Rn.getI dX12_line_437 fX12_222 rfl (rc149 hRN9) ?_
                            refine Rn.if_eq dX12_line_440 (fun h9 => absurd (hfa.1.symm.trans h9) hfa.2.1) (fun h9 => ?_)
                            exact Rn.vret dX12_line_443 rfl ⟨rfl, rfl, rN9.g, Or.inr ⟨_, _, lnF_no (hln.trans ((if_pos d14).trans (if_pos htb))), hfa⟩⟩
                        · skip
                          by_cases d15 : kdF f n (nx f n i) = 15
                          · skip
                            have hsw := (htk.1.w (w := 15) (by decide)).mpr (htk.2.1.trans d15)
                            refine Rn.aload_n dX12_line_371 rfl ?_
                            refine Rn.getI dX12_line_372 fX12_188 rfl (rc149 hRN2) ?_
                            refine Rn.topI (y := 0) (hsw.1) ?_
                            refine Rn.if_ne dX12_line_375 (fun h9 => (by first | exact absurd h9 (by decide) | exact absurd (by decide) h9)) (fun h9 => ?_)
                            refine Rn.aload_n dX12_line_378 rfl ?_
                            refine Rn.getI dX12_line_379 fX12_198 rfl (rc149 hRN2) ?_
                            refine Rn.topI (y := 15) (hsw.2) ?_
                            refine Rn.bipushv (v := 14) dX12_line_382 bp_14 ?_
                            refine Rn.icmp_eq dX12_line_384 (fun h9 => (by first | exact absurd h9 (by decide) | exact absurd (by decide) h9)) (fun h9 => ?_)
                            refine Rn.aload_n dX12_line_387 rfl ?_
                            refine Rn.getI dX12_line_388 fX12_198 rfl (rc149 hRN2) ?_
                            refine Rn.topI (y := 15) (hsw.2) ?_
                            refine Rn.bipushv (v := 15) dX12_line_391 bp_15 ?_
                            refine Rn.icmp_eq dX12_line_393 (fun h9 => ?_) (fun h9 => (by first | exact absurd h9 (by decide) | exact absurd (by decide) h9))
                            refine Rn.aload_n dX12_line_401 rfl ?_
                            refine Rn.getI dX12_line_402 fX12_198 rfl (rc149 hRN2) ?_
                            refine Rn.topI (y := 15) (hsw.2) ?_
                            refine Rn.bipushv (v := 14) dX12_line_405 bp_14 ?_
                            refine Rn.isub dX12_line_407 ?_
                            refine Rn.topI (y := 1) (by decide) ?_
                            refine Rn.istore_n (lv' := [some (.ref 149), some (.int 10), none, some (.int 1)]) dX12_line_408 (by decide) rfl ?_
                            refine Rn.aload_n dX12_line_409 rfl ?_
                            refine Rn.getI dX12_line_410 fX12_222 rfl (rc149 hRN2) ?_
                            refine Rn.topI (y := 0) (hz2.2.2) ?_
                            refine Rn.if_ne dX12_line_413 (fun h9 => (by first | exact absurd h9 (by decide) | exact absurd (by decide) h9)) (fun h9 => ?_)
                            have hbt : ((N2.1 149 21) >>> (17 &&& 31)) &&& 1 = 1 ↔ p.tb 15 = true := by rw [← hS2p.2.2.2.2.2.1.2.2]; exact bt2 (N2.1 149 21) (j := 17) (by decide)
                            refine Rn.aload_n dX12_line_416 rfl ?_
                            refine Rn.getI dX12_line_417 fX12_255 rfl (rc149 hRN2) ?_
                            refine Rn.bipushv (v := 16) dX12_line_420 bp_16 ?_
                            refine Rn.iload_n dX12_line_422 rfl ?_
                            refine Rn.iadd dX12_line_423 ?_
                            refine Rn.topI (y := 17) (by decide) ?_
                            refine Rn.ishr dX12_line_424 ?_
                            refine Rn.iconstv (v := 1) dX12_line_425 ic_1 ?_
                            refine Rn.iand dX12_line_426 ?_
                            refine Rn.iconstv (v := 1) dX12_line_427 ic_1 ?_
                            refine Rn.icmp_ne dX12_line_428 (fun hto => ?_) (fun hto => ?_)
                            · skip
                              have htb : ¬ p.tb 15 = true := fun g => hto (hbt.mpr g)
                              refine Rn.aload_n dX12_line_436 rfl ?_
                              refine Rn.getI dX12_line_437 fX12_222 rfl (rc149 hRN2) ?_
                              refine Rn.topI (y := 0) (hz2.2.2) ?_
                              refine Rn.if_eq dX12_line_440 (fun h9 => ?_) (fun h9 => (by first | exact absurd h9 (by decide) | exact absurd (by decide) h9))
                              refine Rn.aload_n dX12_line_444 rfl ?_
                              refine Rn.dup dX12_line_445 rfl ?_
                              refine Rn.getI dX12_line_446 fX12_255 rfl (rc149 hRN2) ?_
                              refine Rn.iconstv (v := 1) dX12_line_449 ic_1 ?_
                              refine Rn.bipushv (v := 16) dX12_line_450 bp_16 ?_
                              refine Rn.iload_n dX12_line_452 rfl ?_
                              refine Rn.iadd dX12_line_453 ?_
                              refine Rn.topI (y := 17) (by decide) ?_
                              refine Rn.ishl dX12_line_454 ?_
                              refine Rn.ior dX12_line_455 ?_
                              refine Rn.putI dX12_line_456 fX12_255 rfl rfl rfl (rc149 hRN2) ?_
                              refine Rn.aload_n dX12_line_459 rfl ?_
                              obtain ⟨N3, e3⟩ : ∃ N9, N9 = sI N2 149 (upd (N2.1 149) 21 ((N2.1 149 21) ||| ((1 : Int32) <<< (17 &&& 31)))) := ⟨_, rfl⟩
                              rw [← e3]
                              have r3 : rlF M N3 := by rw [e3]; exact r2.tr (rlF.f (fun j hj => pk_un (by omega)))
                              have hS3 : RPs N3 f n (p.D, p.ct, p.lw, p.c, setB p.tb 15 true, p.hc) (nx f n i) := by rw [e3]; exact hS2p.told (hS2p.2.2.2.2.2.1.law (k := 1) (by decide))
                              clear e3
                              have hRN3 : RW ly N3.2.2 := by rw [r3.1]; exact hR
                              refine Rn.callV0 dX12_line_460 vX12_228 (rc149 hRN3) (by decide) rfl (rtok (M := N3) hS3.z hRN3) (by decide) ⟨(Nat.le_of_ble_eq_true rfl), (Nat.le_of_ble_eq_true rfl), (Nat.le_of_ble_eq_true rfl)⟩ (fun h => by cases h) (fun v1 ly1 N4 ⟨q1, q2, t4, z4⟩ => ?_)
                              rw [q1, q2]
                              have r4 : rlF M N4 := r3.tr (rlF.tok t4)
                              have hS4 := hS3.tk t4 z4
                              have hRN4 : RW ly N4.2.2 := by rw [r4.1]; exact hR
                              refine Rn.aload_n dX12_line_463 rfl ?_
                              refine Rn.iload_n dX12_line_464 rfl ?_
                              refine Rn.callV1 dX12_line_465 vX12_282 (rc149 hRN4) (by decide) rfl (rlawLine (M := N4) (k := 1) hS4 (by decide) hRN4) (by decide) ⟨(Nat.le_of_ble_eq_true rfl), (Nat.le_of_ble_eq_true rfl), (Nat.le_of_ble_eq_true rfl)⟩ (fun h => by cases h) (fun v1 ly1 N5 ⟨q1, q2, f5, hh⟩ => ?_)
                              rw [q1, q2]
                              have r5 : rlF M N5 := r4.tr f5
                              have hRN5 : RW ly N5.2.2 := by rw [r5.1]; exact hR
                              rcases hh with ⟨j, c2, e, hD, hS5, o5⟩ | ⟨q, j, hD, hfa⟩
                              · skip
                                have hmr := mRes_eq hD.top
                                have hres : lnF (kdF f n) (nvF f n) (nx f n) p i = if kdF f n j = 37 then .inl ((p.D, p.ct, setL p.lw 1 e, c2, setB p.tb 15 true, p.hc), nx f n j) else .inr (1, j) := by
                                  by_cases h37 : kdF f n j = 37
                                  · rw [show drM (kdF f n) (dOk j c2 e) = mFin j c2 e from if_pos h37] at hmr
                                    exact lnF_of (hln.trans ((if_neg d14).trans ((if_pos d15).trans ((if_neg htb).trans (congrArg (Sum.elim _ _) hmr)))))
                                  · rw [show drM (kdF f n) (dOk j c2 e) = mNo 1 j from if_neg h37] at hmr
                                    rw [if_neg h37]
                                    exact lnF_no (hln.trans ((if_neg d14).trans ((if_pos d15).trans ((if_neg htb).trans (congrArg (Sum.elim _ _) hmr)))))
                                refine Rn.forget (lv' := [some (.ref 149), none, none, none]) (⟨rfl, trivial⟩) ?_
                                rw [hres]
                                exact rlTail hS5 r5 h23 hR
                              · skip
                                have hmr := mRes_eq hD.top
                                refine Rn.forget (lv' := [some (.ref 149), none, none, none]) (⟨rfl, trivial⟩) ?_
                                exact rlTail0 hfa r5 (lnF_no (hln.trans ((if_neg d14).trans ((if_pos d15).trans ((if_neg htb).trans (congrArg (Sum.elim _ _) hmr)))))) hR
                            · skip
                              have htb : p.tb 15 = true := hbt.mp hto
                              refine Rn.aload_n dX12_line_431 rfl ?_
                              refine Rn.iconstv (v := 3) dX12_line_432 ic_3 ?_
                              refine Rn.callV1 dX12_line_433 vX12_231 (rc149 hRN2) (by decide) rfl (rdWrong (M := N2) (x := 3) hz2.2.2 hRN2) (by omega) ⟨(Nat.le_of_ble_eq_true rfl), (Nat.le_of_ble_eq_true rfl), (Nat.le_of_ble_eq_true rfl)⟩ (fun h => by cases h) (fun v1 ly1 M1 ⟨q1, q2, q3⟩ => ?_)
                              rw [q1, q2, q3]
                              have hfa := hz2.wr (k := 3) (by decide)
                              obtain ⟨N9, e9⟩ : ∃ N0, N0 = wrM N2 3 := ⟨_, rfl⟩
                              rw [← e9]
                              rw [← e9] at hfa
                              have rN9 : rlF M N9 := by rw [e9]; exact r2.tr rlF.wr
                              clear e9
                              have hRN9 : RW ly N9.2.2 := by rw [rN9.1]; exact hR
                              refine Rn.aload_n dX12_line_436 rfl ?_
                              refine Rn.getI dX12_line_437 fX12_222 rfl (rc149 hRN9) ?_
                              refine Rn.if_eq dX12_line_440 (fun h9 => absurd (hfa.1.symm.trans h9) hfa.2.1) (fun h9 => ?_)
                              exact Rn.vret dX12_line_443 rfl ⟨rfl, rfl, rN9.g, Or.inr ⟨_, _, lnF_no (hln.trans ((if_neg d14).trans ((if_pos d15).trans (if_pos htb)))), hfa⟩⟩
                          · skip
                            have tail : Rn G l mX12_line (128, 0, 0, false) 396 [some (.ref 149), some (.int 10), none, none] [] ly N2 (lnP ly M f n m (lnF (kdF f n) (nvF f n) (nx f n) p i)) := by
                              refine Rn.aload_n dX12_line_396 rfl ?_
                              refine Rn.iconstv (v := 1) dX12_line_397 ic_1 ?_
                              refine Rn.callV1 dX12_line_398 vX12_231 (rc149 hRN2) (by decide) rfl (rdWrong (M := N2) (x := 1) hz2.2.2 hRN2) (by omega) ⟨(Nat.le_of_ble_eq_true rfl), (Nat.le_of_ble_eq_true rfl), (Nat.le_of_ble_eq_true rfl)⟩ (fun h => by cases h) (fun v1 ly1 M1 ⟨q1, q2, q3⟩ => ?_)
                              rw [q1, q2, q3]
                              have hfa := hz2.wr (k := 1) (by decide)
                              obtain ⟨N9, e9⟩ : ∃ N0, N0 = wrM N2 1 := ⟨_, rfl⟩
                              rw [← e9]
                              rw [← e9] at hfa
                              have rN9 : rlF M N9 := by rw [e9]; exact r2.tr rlF.wr
                              clear e9
                              have hRN9 : RW ly N9.2.2 := by rw [rN9.1]; exact hR
                              refine Rn.aload_n dX12_line_401 rfl ?_
                              refine Rn.getI dX12_line_402 fX12_198 rfl (rc149 hRN9) ?_
                              refine Rn.bipushv (v := 14) dX12_line_405 bp_14 ?_
                              refine Rn.isub dX12_line_407 ?_
                              refine Rn.istore_n (lv' := [some (.ref 149), some (.int 10), none, some (.int ((N9.1 149 28) - 14))]) dX12_line_408 (by decide) rfl ?_
                              refine Rn.aload_n dX12_line_409 rfl ?_
                              refine Rn.getI dX12_line_410 fX12_222 rfl (rc149 hRN9) ?_
                              refine Rn.if_ne dX12_line_413 (fun h9 => ?_) (fun h9 => absurd (hfa.1.symm.trans h9) hfa.2.1)
                              refine Rn.aload_n dX12_line_436 rfl ?_
                              refine Rn.getI dX12_line_437 fX12_222 rfl (rc149 hRN9) ?_
                              refine Rn.if_eq dX12_line_440 (fun h9 => absurd (hfa.1.symm.trans h9) hfa.2.1) (fun h9 => ?_)
                              exact Rn.vret dX12_line_443 rfl ⟨rfl, rfl, rN9.g, Or.inr ⟨_, _, lnF_no (hln.trans ((if_neg d14).trans (if_neg d15))), hfa⟩⟩
                            refine Rn.aload_n dX12_line_371 rfl ?_
                            refine Rn.getI dX12_line_372 fX12_188 rfl (rc149 hRN2) ?_
                            refine Rn.if_ne dX12_line_375 (fun h27 => ?_) (fun h27 => ?_)
                            · skip
                              exact tail
                            · skip
                              refine Rn.aload_n dX12_line_378 rfl ?_
                              refine Rn.getI dX12_line_379 fX12_198 rfl (rc149 hRN2) ?_
                              refine Rn.bipushv (v := 14) dX12_line_382 bp_14 ?_
                              refine Rn.icmp_eq dX12_line_384 (fun h14 => ?_) (fun h14 => ?_)
                              · skip
                                exact absurd (htk.2.1.symm.trans ((htk.1.w (w := 14) (by decide)).mp ⟨h27, h14⟩)) d14
                              · skip
                                refine Rn.aload_n dX12_line_387 rfl ?_
                                refine Rn.getI dX12_line_388 fX12_198 rfl (rc149 hRN2) ?_
                                refine Rn.bipushv (v := 15) dX12_line_391 bp_15 ?_
                                refine Rn.icmp_eq dX12_line_393 (fun h15 => ?_) (fun h15 => ?_)
                                · skip
                                  exact absurd (htk.2.1.symm.trans ((htk.1.w (w := 15) (by decide)).mp ⟨h27, h15⟩)) d15
                                · skip
                                  exact tail
                      · skip
                        have hln : lnC (kdF f n) (nvF f n) (nx f n) p i = .inr (1, i) := (if_neg c0).trans ((if_neg c1).trans ((if_neg c2).trans ((if_neg c3).trans ((if_neg c4).trans ((if_neg c5).trans ((if_neg c6).trans ((if_neg c7).trans ((if_neg c8).trans ((if_neg c9).trans (if_neg c10))))))))))
                        have tail : Rn G l mX12_line (128, 0, 0, false) 16 [some (.ref 149), none, none, none] [] ly M (lnP ly M f n m (lnF (kdF f n) (nvF f n) (nx f n) p i)) := by
                          refine Rn.aload_n dX12_line_16 rfl ?_
                          refine Rn.iconstv (v := 1) dX12_line_17 ic_1 ?_
                          refine Rn.callV1 dX12_line_18 vX12_231 (rc149 hR) (by decide) rfl (rdWrong (M := M) (x := 1) hz.2.2 hR) (by omega) ⟨(Nat.le_of_ble_eq_true rfl), (Nat.le_of_ble_eq_true rfl), (Nat.le_of_ble_eq_true rfl)⟩ (fun h => by cases h) (fun v1 ly1 M1 ⟨q1, q2, q3⟩ => ?_)
                          rw [q1, q2, q3]
                          have hfa := hz.wr (k := 1) (by decide)
                          obtain ⟨N9, e9⟩ : ∃ N0, N0 = wrM M 1 := ⟨_, rfl⟩
                          rw [← e9]
                          rw [← e9] at hfa
                          have rN9 : rlF M N9 := by rw [e9]; exact rlF.wr
                          clear e9
                          have hRN9 : RW ly N9.2.2 := by rw [rN9.1]; exact hR
                          exact Rn.vret dX12_line_21 rfl ⟨rfl, rfl, rN9.g, Or.inr ⟨_, _, lnF_no hln, hfa⟩⟩
                        refine Rn.aload_n dX12_line_0 rfl ?_
                        refine Rn.getI dX12_line_1 fX12_188 rfl (rc149 hR) ?_
                        refine Rn.if_ne dX12_line_4 (fun h27 => ?_) (fun h27 => ?_)
                        · skip
                          exact tail
                        · skip
                          refine Rn.aload_n dX12_line_7 rfl ?_
                          refine Rn.getI dX12_line_8 fX12_198 rfl (rc149 hR) ?_
                          refine Rn.bipushv (v := 10) dX12_line_11 bp_10 ?_
                          refine Rn.icmp_le dX12_line_13 (fun h28 => ?_) (fun h28 => ?_)
                          · skip
                            obtain ⟨w9, hw9, hv9⟩ : ∃ w9 : Nat, w9 < 25 ∧ M.1 149 28 = nI w9 := htc.1.r.elim (fun g => g.2.2) (fun g => absurd h27 (g.elim (fun g => by rw [g.1]; decide) (fun g => g.elim (fun g => by rw [g.1]; decide) (fun g => g.elim (fun g => by rw [g.1]; decide) (fun g => g.elim (fun g => by rw [g.1]; decide) (fun g => by rw [g.1]; decide))))))
                            have hkd := (htc.1.w hw9).mp ⟨h27, hv9⟩
                            rw [htc.2.1] at hkd
                            rw [hv9] at h28
                            have l2 : w9 ≤ 10 := (nI_leI (a := w9) (b := 10) (by omega) (by decide)).mp h28
                            rcases (show w9 = 0 ∨ w9 = 1 ∨ w9 = 2 ∨ w9 = 3 ∨ w9 = 4 ∨ w9 = 5 ∨ w9 = 6 ∨ w9 = 7 ∨ w9 = 8 ∨ w9 = 9 ∨ w9 = 10 by omega) with rfl | rfl | rfl | rfl | rfl | rfl | rfl | rfl | rfl | rfl | rfl
                            · exact absurd hkd c0
                            · exact absurd hkd c1
                            · exact absurd hkd c2
                            · exact absurd hkd c3
                            · exact absurd hkd c4
                            · exact absurd hkd c5
                            · exact absurd hkd c6
                            · exact absurd hkd c7
                            · exact absurd hkd c8
                            · exact absurd hkd c9
                            · exact absurd hkd c10
                          · skip
                            exact tail
