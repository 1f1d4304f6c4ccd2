theorem passT {G : Gx} {l : Launch} {ly : Ly} {M : Mm} {I : Nat → Nat → Int32} {L : Nat → Nat → Int64} {pl n nw nu nv : Nat} (hXS : XS ly M pl n nw nu nv) (hf : ∀ k, (k < 92 ∨ 108 < k) → I k = M.1 k) {Q : Qt} (hQ : ∀ (I' : Nat → Nat → Int32) (L' : Nat → Nat → Int64), (∀ k, (k < 92 ∨ 108 < k) → I' k = M.1 k) → frS I I' 92 → vS I' 92 = TX I pl n nw nu nv (I 92 4) (I 92 16) (I 92 17) (I 107) (vS I 92) → Q none ly (I', L', rT M pl)) : Mt G l mX9_pass (5, 0, 0, false) [.ref 92] ly (I, L, rT M pl) Q := by
  obtain ⟨hX, hpl, hp7, ⟨n0, n1, n2, n3⟩, ⟨hn, hn2, hn12⟩, ⟨hw1, hw2, hw6⟩, ⟨hu1, hu2, hv1, hv2⟩, hgl, hbb⟩ := hXS
  have hX' : XW ly (rT M pl) := XW_rSc hX (by decide)
  refine tX9_pass (M := (I, L, rT M pl)) (a := 92) (p := pl) (c := pl + 7) (u := pl + 18) (v := pl + 21) (n := n) (nu := nu) (nv := nv) (nw := nw) (xScene92 (M := (I, L, rT M pl)) hX') rfl (pc0 hX' hp7) (by omega) ((congrFun (hf pl (by omega)) 0).trans hn) hn12 rfl (iPlan.crowd (M := (I, L, rT M pl)) hX' hp7) (by omega) rfl (iPlan.push (M := (I, L, rT M pl)) hX' hp7) (by omega) rfl (iPlan.side (M := (I, L, rT M pl)) hX' hp7) (by omega) ((congrFun (hf (pl + 18) (by omega)) 0).trans hu1) hu2 ((congrFun (hf (pl + 21) (by omega)) 0).trans hv1) hv2 ((congrFun (hf (pl + 7) (by omega)) 0).trans hw2) hw6 (by show ¬ 2 * I pl 6 + 1 = 0; rw [hf pl (by omega)]; exact hgl) ?_
  intro I' L' h1 h2 h3
  exact hQ I' L' (fun k hk => (h1 k (by omega)).trans (hf k hk)) ⟨h1, h2⟩ h3
/-- a scene at rest: the chance, the stages -/
def zsc (ch : Int32) (sg : Nat → Int32) : Sc := (fun _ => 0, fun _ => 0, fun _ => 0, fun _ => 0, (fun _ => 0, fun _ => 0, sg, fun _ => 0, fun _ => 0), 0, 0, ch)
/-- the trial's scene is at rest -/
def reS (M : Mm) (I : Nat → Nat → Int32) : Prop := (∀ k, (k < 92 ∨ 108 < k) → I k = M.1 k) ∧ scE (vS I 92) (zsc (M.1 75 15) (fun _ => 0)) ∧ eqN 12 (I 107) (M.1 90) ∧ I 92 4 = M.1 75 4 ∧ I 92 16 = 0 ∧ I 92 17 = 1 ∧ I 104 0 = M.1 87 0 ∧ eqN 8 (I 105) (M.1 88) ∧ eqN 8 (I 106) (M.1 89)
theorem lvO_E {s : Int32} {f g : Nat → Int32} (h : eqN 6 f g) : ∀ k, eqN 6 (lvO s f k) (lvO s g k)
  | 0 => h
  | k + 1 => by
    unfold lvO
    by_cases e : (s >>> (nI k &&& 31)) &&& 1 = 0
    · rw [if_pos e, if_pos e]; exact (lvO_E h k).up rfl
    · rw [if_neg e, if_neg e]; exact lvO_E h k
theorem inN_1 {x : Int32} {k : Nat} (hk : k < 2 ^ 31) : (inN x (nI k) = 0 ∧ ¬ ∃ j : Nat, j < k ∧ x = nI j) ∨ (inN x (nI k) = 1 ∧ ∃ j : Nat, j < k ∧ x = nI j) := by
  unfold inN
  rcases pk_ix x hk with h | h | ⟨j, hj, rfl⟩
  · exact Or.inl ⟨if_pos h, fun ⟨j, hj, e⟩ => by subst e; exact nI_pos (by omega) h⟩
  · by_cases h1 : x < 0
    · exact Or.inl ⟨if_pos h1, fun ⟨j, hj, e⟩ => by subst e; exact nI_pos (by omega) h1⟩
    · exact Or.inl ⟨(if_neg h1).trans (if_pos h), fun ⟨j, hj, e⟩ => by subst e; exact nI_ge hj hk h⟩
  · exact Or.inr ⟨(if_neg (nI_pos (by omega))).trans (if_neg (nI_ge hj hk)), j, hj, rfl⟩
theorem tX11_tryFromRest {G : Gx} {l : Launch} {ly : Ly} {M : Mm} {pl n nw nu nv : Nat}  (hXS : XS ly M pl n nw nu nv) {Q : Qt} (hQ : ∀ I : Nat → Nat → Int32, reS M I → Q none ly (I, M.2.1, rT M pl)) : Mt G l mX11_tryFromRest (5, 0, 0, false) [.ref 0] ly M Q := by
  have hXS0 := hXS
  obtain ⟨hX, hpl, hp7, ⟨n0, n1, n2, n3⟩, ⟨hn, hn2, hn12⟩, ⟨hw1, hw2, hw6⟩, ⟨hu1, hu2, hv1, hv2⟩, hgl, hbb⟩ := hXS
  refine Mt.of (lv := [some (.ref 0)]) rfl ?_
  refine Rn.aload_n dX11_tryFromRest_0 rfl ?_
  refine Rn.iconstv (v := 1) dX11_tryFromRest_1 ic_1 ?_
  refine Rn.callV1 dX11_tryFromRest_2 vX11_299 (xc0 hX) (by decide) rfl (tX11_tryFromNow (Q := fun v0 ly0 M0 => v0 = none ∧ ly0 = ly ∧ ∃ I : Nat → Nat → Int32, M0 = (I, M.2.1, rT M pl) ∧ trS M I 1) (Or.inr rfl) hXS0 (fun I h => ⟨rfl, rfl, I, rfl, h⟩)) (by decide) ⟨(Nat.le_of_ble_eq_true rfl), (Nat.le_of_ble_eq_true rfl), (Nat.le_of_ble_eq_true rfl)⟩ (fun h => by cases h) (fun v1 ly1 M1 ⟨q1, q2, I1, q3, hT1⟩ => ?_)
  rw [q1, q2, q3]
  show Rn G l mX11_tryFromRest (5, 0, 0, false) 5 [some (.ref 0)] [] ly (I1, M.2.1, rT M pl) Q
  refine Rn.aload_n dX11_tryFromRest_5 rfl ?_
  refine Rn.getR dX11_tryFromRest_6 fX11_43 rfl (xc0 hX) (show M.2.2 0 6 = some 92 from (xp0_6 hX)) ?_
  refine Rn.callV0 dX11_tryFromRest_9 vX11_410 (xc92 hX) (by decide) rfl (tX9_rest (M := (I1, M.2.1, rT M pl)) (a := 92) (Q := fun v0 ly0 M0 => v0 = none ∧ ly0 = ly ∧ ∃ I : Nat → Nat → Int32, M0 = (I, M.2.1, rT M pl) ∧ (∀ k, k < 92 ∨ 92 + 11 < k → I k = I1 k) ∧ I 93 = I1 93 ∧ I 97 = I1 97 ∧ I 92 = upd (upd (I1 92) 7 0) 14 0 ∧ I 94 = pre 12 (fun _ => 0) (I1 94) ∧ I 95 = pre 12 (fun _ => 0) (I1 95) ∧ I 96 = pre 12 (fun _ => 0) (I1 96) ∧ I 98 = pre 12 (fun _ => 0) (I1 98) ∧ I 99 = pre 12 (fun _ => 0) (I1 99) ∧ I 100 = pre 12 (fun _ => 0) (I1 100) ∧ I 101 = pre 6 (fun _ => 0) (I1 101) ∧ I 102 = pre 6 (fun _ => 0) (I1 102) ∧ I 103 = pre 6 (fun _ => 0) (I1 103)) (xScene92 (M := (I1, M.2.1, rT M pl)) (XW_rSc hX (by decide))) (fun I f g93 g97 ga g94 g95 g96 g98 g99 g100 g101 g102 g103 => ⟨rfl, rfl, I, rfl, f, g93, g97, ga, g94, g95, g96, g98, g99, g100, g101, g102, g103⟩)) (by decide) ⟨(Nat.le_of_ble_eq_true rfl), (Nat.le_of_ble_eq_true rfl), (Nat.le_of_ble_eq_true rfl)⟩ (fun h => by cases h) (fun v1 ly1 M1 ⟨q1, q2, I2, q3, f2, g93, g97, ga, g94, g95, g96, g98, g99, g100, g101, g102, g103⟩ => ?_)
  rw [q1, q2, q3]
  refine Rn.vret dX11_tryFromRest_12 rfl (hQ I2 ⟨fun k hk => (f2 k (by omega)).trans (hT1.1 k hk), ⟨?_, ?_, ?_, ?_, ⟨?_, ?_, ?_, ?_, ?_⟩, ?_, ?_, ?_⟩, ?_, ?_, ?_, ?_, ?_, ?_, ?_⟩)
  · intro j hj; exact (congrFun g94 j).trans (pre_lt hj)
  · intro j hj; exact (congrFun g95 j).trans (pre_lt hj)
  · intro j hj; exact (congrFun g98 j).trans (pre_lt hj)
  · intro j hj; exact (congrFun g99 j).trans (pre_lt hj)
  · intro j hj; exact (congrFun g101 j).trans (pre_lt hj)
  · intro j hj; exact (congrFun g102 j).trans (pre_lt hj)
  · intro j hj; exact (congrFun g103 j).trans (pre_lt hj)
  · intro j hj; exact (congrFun g96 j).trans (pre_lt hj)
  · intro j hj; exact (congrFun g100 j).trans (pre_lt hj)
  · exact (congrFun ga 7).trans rfl
  · exact (congrFun ga 14).trans rfl
  · exact ((congrFun ga 15).trans rfl).trans hT1.2.1.2.2.2.2.2.2.2
  · rw [f2 107 (by omega)]; exact hT1.2.2.1
  · exact ((congrFun ga 4).trans rfl).trans hT1.2.2.2.1
  · exact ((congrFun ga 16).trans rfl).trans hT1.2.2.2.2.1
  · exact ((congrFun ga 17).trans rfl).trans hT1.2.2.2.2.2.1
  · exact (congrFun (f2 104 (by omega)) 0).trans hT1.2.2.2.2.2.2.1
  · rw [f2 105 (by omega)]; exact hT1.2.2.2.2.2.2.2.1
  · rw [f2 106 (by omega)]; exact hT1.2.2.2.2.2.2.2.2
theorem XS_tr {ly : Ly} {M : Mm} {I : Nat → Nat → Int32} {L : Nat → Nat → Int64} {pl n nw nu nv : Nat} (h : XS ly M pl n nw nu nv) (hf : ∀ k, (k < 92 ∨ 108 < k) → I k = M.1 k) : XS ly (I, L, rT M pl) pl n nw nu nv := by
  obtain ⟨hX, hpl, hp7, ⟨n0, n1, n2, n3⟩, ⟨hn, hn2, hn12⟩, ⟨hw1, hw2, hw6⟩, ⟨hu1, hu2, hv1, hv2⟩, hgl, hbb⟩ := h
  refine ⟨XW_rSc hX (by decide), hpl, hp7, ⟨n0, n1, n2, n3⟩, ⟨?_, hn2, hn12⟩, ⟨?_, ?_, hw6⟩, ⟨?_, hu2, ?_, hv2⟩, ?_, ?_⟩
  · exact (congrFun (hf pl (by omega)) 0).trans hn
  · exact (congrFun (hf (pl + 1) (by omega)) 0).trans hw1
  · exact (congrFun (hf (pl + 7) (by omega)) 0).trans hw2
  · exact (congrFun (hf (pl + 18) (by omega)) 0).trans hu1
  · exact (congrFun (hf (pl + 21) (by omega)) 0).trans hv1
  · show ¬ 2 * I pl 6 + 1 = 0
    rw [hf pl (by omega)]; exact hgl
  · show (I 75 16 = 0 ∨ I 75 16 = 1) ∧ (I 75 17 = 0 ∨ I 75 17 = 1)
    rw [hf 75 (by omega)]; exact hbb
theorem tX11_highOfSet {G : Gx} {l : Launch} {ly : Ly} {M : Mm} {pl n nw nu nv : Nat} {s : Int32} {N : Nat} (hN : N < 1000) (hXS : XS ly M pl n nw nu nv) {Q : Qt} (hQ : ∀ M' : Mm, quX M M' → XS ly M' pl n nw nu nv → Q (some (.int (hgS (TX M.1 pl n nw nu nv (M.1 75 4) 0 1 (M.1 90)) (zsc (M.1 75 15) (lvO s (fun _ => 0) 6)) n N))) ly M') : Mt G l mX11_highOfSet (7, 0, 0, false) [.ref 0, .int s, .int (nI N)] ly M Q := by
  have hXS0 := hXS
  obtain ⟨hX, hpl, hp7, ⟨n0, n1, n2, n3⟩, ⟨hn, hn2, hn12⟩, ⟨hw1, hw2, hw6⟩, ⟨hu1, hu2, hv1, hv2⟩, hgl, hbb⟩ := hXS
  refine Mt.of (lv := [some (.ref 0), some (.int s), some (.int (nI N))]) rfl ?_
  refine Rn.aload_n dX11_highOfSet_0 rfl ?_
  refine Rn.callV0 dX11_highOfSet_1 vX11_328 (xc0 hX) (by decide) rfl (tX11_tryFromRest (Q := fun v0 ly0 M0 => v0 = none ∧ ly0 = ly ∧ ∃ I : Nat → Nat → Int32, M0 = (I, M.2.1, rT M pl) ∧ reS M I) hXS0 (fun I h => ⟨rfl, rfl, I, rfl, h⟩)) (by decide) ⟨(Nat.le_of_ble_eq_true rfl), (Nat.le_of_ble_eq_true rfl), (Nat.le_of_ble_eq_true rfl)⟩ (fun h => by cases h) (fun v1 ly1 M1 ⟨q1, q2, I1, q3, hT1⟩ => ?_)
  rw [q1, q2, q3]
  refine Rn.aload_n dX11_highOfSet_4 rfl ?_
  refine Rn.getR dX11_highOfSet_5 fX11_43 rfl (xc0 hX) (show M.2.2 0 6 = some 92 from (xp0_6 hX)) ?_
  refine Rn.iload_n dX11_highOfSet_8 rfl ?_
  refine Rn.callV1 dX11_highOfSet_9 vX11_339 (xc92 hX) (by decide) rfl (tX9_leaveOnly (M := (I1, M.2.1, rT M pl)) (a := 92) (xScene92 (M := (I1, M.2.1, rT M pl)) (XW_rSc hX (by decide)))) (by decide) ⟨(Nat.le_of_ble_eq_true rfl), (Nat.le_of_ble_eq_true rfl), (Nat.le_of_ble_eq_true rfl)⟩ (fun h => by cases h) (fun v1 ly1 M1 ⟨q1, q2, q3⟩ => ?_)
  rw [q1, q2, q3]
  show Rn G l mX11_highOfSet (7, 0, 0, false) 12 [some (.ref 0), some (.int s), some (.int (nI N))] [] ly (sI (I1, M.2.1, rT M pl) 103 (lvO s (I1 103) 6)) Q
  refine Rn.aload_n dX11_highOfSet_12 rfl ?_
  refine Rn.getR dX11_highOfSet_13 fX11_43 rfl (xc0 hX) (show M.2.2 0 6 = some 92 from (xp0_6 hX)) ?_
  refine Rn.iload_n dX11_highOfSet_16 rfl ?_
  refine Rn.ldcw dX11_highOfSet_17 kX11_269 ?_
  have hf2 : ∀ k, (k < 92 ∨ 108 < k) → (sI (I1, M.2.1, rT M pl) 103 (lvO s (I1 103) 6)).1 k = M.1 k := fun k hk => (sI_ne (by omega)).trans (hT1.1 k hk)
  refine Rn.callV2 dX11_highOfSet_20 vX11_303 (xc92 hX) (by decide) rfl (highT (I := (sI (I1, M.2.1, rT M pl) 103 (lvO s (I1 103) 6)).1) (L := M.2.1) (Q := fun v0 ly0 M0 => v0 = some (.int (hgS (TX M.1 pl n nw nu nv (M.1 75 4) 0 1 (M.1 90)) (zsc (M.1 75 15) (lvO s (fun _ => 0) 6)) n N)) ∧ ly0 = ly ∧ quX M M0 ∧ XS ly M0 pl n nw nu nv) (N := N) hXS0 hf2 (by omega) (fun I' L' hf => ⟨congrArg (fun x => some (Value.int x)) (hgS_E hn12 (T := TX ((sI (I1, M.2.1, rT M pl) 103 (lvO s (I1 103) 6)).1) pl n nw nu nv (((sI (I1, M.2.1, rT M pl) 103 (lvO s (I1 103) 6)).1) 92 4) (((sI (I1, M.2.1, rT M pl) 103 (lvO s (I1 103) 6)).1) 92 16) (((sI (I1, M.2.1, rT M pl) 103 (lvO s (I1 103) 6)).1) 92 17) (((sI (I1, M.2.1, rT M pl) 103 (lvO s (I1 103) 6)).1) 107)) (s := vS ((sI (I1, M.2.1, rT M pl) 103 (lvO s (I1 103) 6)).1) 92) (T' := TX M.1 pl n nw nu nv (M.1 75 4) 0 1 (M.1 90)) (t := zsc (M.1 75 15) (lvO s (fun _ => 0) 6)) (fun a b h => by rw [show (sI (I1, M.2.1, rT M pl) 103 (lvO s (I1 103) 6)).1 92 16 = 0 from hT1.2.2.2.2.1, show (sI (I1, M.2.1, rT M pl) 103 (lvO s (I1 103) 6)).1 92 17 = 1 from hT1.2.2.2.2.2.1]; exact TX_try hp7 hn12 hw6 hf2 hT1.2.2.1 hT1.2.2.2.1 h) ⟨hT1.2.1.1, hT1.2.1.2.1, hT1.2.1.2.2.1, hT1.2.1.2.2.2.1, ⟨hT1.2.1.2.2.2.2.1.1, hT1.2.1.2.2.2.2.1.2.1, lvO_E hT1.2.1.2.2.2.2.1.2.2.1 6, hT1.2.1.2.2.2.2.1.2.2.2.1, hT1.2.1.2.2.2.2.1.2.2.2.2⟩, hT1.2.1.2.2.2.2.2.1, hT1.2.1.2.2.2.2.2.2.1, hT1.2.1.2.2.2.2.2.2.2⟩ N), rfl, quX.tr hf, XS_tr hXS0 hf⟩)) (by decide) ⟨(Nat.le_of_ble_eq_true rfl), (Nat.le_of_ble_eq_true rfl), (Nat.le_of_ble_eq_true rfl)⟩ (fun h => by cases h) (fun v1 ly1 M1 ⟨q1, q2, hq, hxs⟩ => ?_)
  rw [q1, q2]
  exact Rn.iret (ty := .int) dX11_highOfSet_23 rfl rfl (hQ M1 hq hxs)
