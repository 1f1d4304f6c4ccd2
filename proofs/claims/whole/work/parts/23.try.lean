/-- a time of the class's bridge: its plan's numbers out of J -/
def TX (J : Nat → Nat → Int32) (pl n nw nu nv : Nat) (het bl upo : Int32) (ca : Nat → Int32) : Sc → Sc := pasF n nw (J pl 1) (J pl 2) (J pl 5) (J pl 6) het bl upo ca (J (pl + 8)) (J (pl + 9)) (J (pl + 10)) (J (pl + 11)) (J (pl + 12)) (fun m => valL m (J (pl + 19)) nu) (fun m => valL m (J (pl + 22)) nv)
/-- the class's state, as far as its shape goes -/
def XS (ly : Ly) (M : Mm) (pl n nw nu nv : Nat) : Prop := XW ly M.2.2 ∧ M.2.2 0 3 = some pl ∧ (pl = 7 ∨ pl = 41) ∧ (M.2.2 75 0 = some pl ∧ M.2.2 75 1 = some (pl + 7) ∧ M.2.2 75 2 = some (pl + 18) ∧ M.2.2 75 3 = some (pl + 21)) ∧ (M.1 pl 0 = nI n ∧ 2 ≤ n ∧ n ≤ 12) ∧ (M.1 (pl + 1) 0 = nI nw ∧ M.1 (pl + 7) 0 = nI nw ∧ nw ≤ 6) ∧ (M.1 (pl + 18) 0 = nI nu ∧ nu ≤ 64 ∧ M.1 (pl + 21) 0 = nI nv ∧ nv ≤ 64) ∧ ¬ 2 * M.1 pl 6 + 1 = 0 ∧ ((M.1 75 16 = 0 ∨ M.1 75 16 = 1) ∧ (M.1 75 17 = 0 ∨ M.1 75 17 = 1))
/-- the trial's scene is as now -/
def trS (M : Mm) (I : Nat → Nat → Int32) (z : Int32) : Prop := (∀ k, (k < 92 ∨ 108 < k) → I k = M.1 k) ∧ scE (vS I 92) (vS M.1 75) ∧ eqN 12 (I 107) (M.1 90) ∧ I 92 4 = M.1 75 4 ∧ I 92 16 = 0 ∧ I 92 17 = z ∧ I 104 0 = M.1 87 0 ∧ eqN 8 (I 105) (M.1 88) ∧ eqN 8 (I 106) (M.1 89)
def rT (M : Mm) (pl : Nat) : Nat → Nat → Option Nat := rSc M.2.2 92 pl (pl + 7) (pl + 18) (pl + 21)
theorem tX11_tryFromNow {G : Gx} {l : Launch} {ly : Ly} {M : Mm} {pl n nw nu nv : Nat} {z : Int32} (hz : z = 0 ∨ z = 1) (hXS : XS ly M pl n nw nu nv) {Q : Qt} (hQ : ∀ I : Nat → Nat → Int32, trS M I z → Q none ly (I, M.2.1, rT M pl)) : Mt G l mX11_tryFromNow (4, 0, 0, false) [.ref 0, .int z] ly M Q := by
  have hXS0 := hXS
  obtain ⟨hX, hpl, hp7, ⟨n0, n1, n2, n3⟩, ⟨hn, hn2, hn12⟩, ⟨hw1, hw2, hw6⟩, ⟨hu1, hu2, hv1, hv2⟩, hgl, hbb⟩ := hXS
  refine Mt.of (lv := [some (.ref 0), some (.int z)]) rfl ?_
  refine Rn.aload_n dX11_tryFromNow_0 rfl ?_
  refine Rn.getR dX11_tryFromNow_1 fX11_43 rfl (xc0 hX) (show M.2.2 0 6 = some 92 from (xp0_6 hX)) ?_
  refine Rn.aload_n dX11_tryFromNow_4 rfl ?_
  refine Rn.getR dX11_tryFromNow_5 fX11_39 rfl (xc0 hX) (show M.2.2 0 5 = some 75 from (xp0_5 hX)) ?_
  refine Rn.callV1 dX11_tryFromNow_8 vX11_285 (xc92 hX) (by decide) rfl (tX9_copy92_75 (Q := fun v0 ly0 M0 => v0 = none ∧ ly0 = ly ∧ ∃ I : Nat → Nat → Int32, M0 = (I, M.2.1, rSc M.2.2 92 pl (pl + 7) (pl + 18) (pl + 21)) ∧ (∀ k, (k < 92 ∨ 108 < k) → I k = M.1 k) ∧ (∀ j, (j = 4 ∨ j = 7 ∨ j = 14 ∨ j = 15 ∨ j = 16 ∨ j = 17) → I 92 j = M.1 75 j) ∧ I 94 = cpR M.1 12 94 77 ∧ I 95 = cpR M.1 12 95 78 ∧ I 96 = cpR M.1 12 96 79 ∧ I 98 = cpR M.1 12 98 81 ∧ I 99 = cpR M.1 12 99 82 ∧ I 100 = cpR M.1 12 100 83 ∧ I 107 = cpR M.1 12 107 90 ∧ I 101 = cpR M.1 6 101 84 ∧ I 102 = cpR M.1 6 102 85 ∧ I 103 = cpR M.1 6 103 86 ∧ I 105 = cpR M.1 8 105 88 ∧ I 106 = cpR M.1 8 106 89 ∧ I 104 = upd (M.1 104) 0 (M.1 87 0)) hX n0 n1 n2 n3 hbb (fun I f1 f2 r2 r3 r4 r6 r7 r8 r15 r9 r10 r11 r13 r14 r12 => ⟨rfl, rfl, I, rfl, f1, f2, r2, r3, r4, r6, r7, r8, r15, r9, r10, r11, r13, r14, r12⟩)) (by decide) ⟨(Nat.le_of_ble_eq_true rfl), (Nat.le_of_ble_eq_true rfl), (Nat.le_of_ble_eq_true rfl)⟩ (fun h => by cases h) (fun v1 ly1 M1 ⟨q1, q2, I, q3, f1, f2, r2, r3, r4, r6, r7, r8, r15, r9, r10, r11, r13, r14, r12⟩ => ?_)
  rw [q1, q2, q3]
  refine Rn.aload_n dX11_tryFromNow_11 rfl ?_
  refine Rn.getR dX11_tryFromNow_12 fX11_43 rfl (xc0 hX) (show M.2.2 0 6 = some 92 from (xp0_6 hX)) ?_
  refine Rn.iconstv (v := 0) dX11_tryFromNow_15 ic_0 ?_
  refine Rn.putZ dX11_tryFromNow_16 fX11_242 rfl rfl rfl (by decide) (xc92 hX) ?_
  refine Rn.aload_n dX11_tryFromNow_19 rfl ?_
  refine Rn.getR dX11_tryFromNow_20 fX11_43 rfl (xc0 hX) (show M.2.2 0 6 = some 92 from (xp0_6 hX)) ?_
  refine Rn.iload_n dX11_tryFromNow_23 rfl ?_
  refine Rn.putZ dX11_tryFromNow_24 fX11_407 rfl rfl rfl hz (xc92 hX) ?_
  refine Rn.meq (M2 := sI (I, M.2.1, rSc M.2.2 92 pl (pl + 7) (pl + 18) (pl + 21)) 92 (upd (upd (I 92) 16 0) 17 z)) (sI_sI _ _ _ _) ?_
  refine Rn.vret dX11_tryFromNow_27 rfl (hQ (sI (I, M.2.1, rSc M.2.2 92 pl (pl + 7) (pl + 18) (pl + 21)) 92 (upd (upd (I 92) 16 0) 17 z)).1 ⟨fun k hk => ?_, ⟨?_, ?_, ?_, ?_, ⟨?_, ?_, ?_, ?_, ?_⟩, ?_, ?_, ?_⟩, ?_, ?_, rfl, rfl, ?_, ?_, ?_⟩)
  · exact (sI_ne (by omega)).trans (f1 k hk)
  · intro j hj; exact (congrFun r2 j).trans (pre_lt hj)
  · intro j hj; exact (congrFun r3 j).trans (pre_lt hj)
  · intro j hj; exact (congrFun r6 j).trans (pre_lt hj)
  · intro j hj; exact (congrFun r7 j).trans (pre_lt hj)
  · intro j hj; exact (congrFun r9 j).trans (pre_lt hj)
  · intro j hj; exact (congrFun r10 j).trans (pre_lt hj)
  · intro j hj; exact (congrFun r11 j).trans (pre_lt hj)
  · intro j hj; exact (congrFun r4 j).trans (pre_lt hj)
  · intro j hj; exact (congrFun r8 j).trans (pre_lt hj)
  · exact f2 7 (by decide)
  · exact f2 14 (by decide)
  · exact f2 15 (by decide)
  · intro j hj; exact (congrFun r15 j).trans (pre_lt hj)
  · exact f2 4 (by decide)
  · exact (congrFun r12 0).trans rfl
  · intro j hj; exact (congrFun r13 j).trans (pre_lt hj)
  · intro j hj; exact (congrFun r14 j).trans (pre_lt hj)
theorem ab_wi (x : Int32) : ab (wi x) ≤ 100000 := by
  have e1 : (100000 : Int32).toInt = 100000 := by decide
  have e2 : (-100000 : Int32).toInt = -100000 := by decide
  have h : -100000 ≤ (wi x).toInt ∧ (wi x).toInt ≤ 100000 := by
    unfold wi mx mn
    by_cases h1 : x < 100000
    · rw [if_pos h1]
      have h1 := Int32.lt_iff_toInt_lt.mp h1
      by_cases h2 : (-100000 : Int32) < x
      · rw [if_pos h2]
        have h2 := Int32.lt_iff_toInt_lt.mp h2
        omega
      · rw [if_neg h2]; omega
    · rw [if_neg h1, if_pos (by decide)]; omega
  unfold ab
  rw [Int32.le_iff_toInt_le]
  by_cases h3 : 0 ≤ wi x
  · rw [if_pos h3]; omega
  · rw [if_neg h3, Int32.toInt_sub, show (0 : Int32).toInt = 0 from rfl, Int.bmod_eq_of_le (by omega) (by omega)]; omega
theorem mx_le {x y b : Int32} (h1 : x ≤ b) (h2 : y ≤ b) : mx x y ≤ b := by
  unfold mx
  split
  · exact h2
  · exact h1
theorem gr_le {f : Nat → Int32} : ∀ n : Nat, (∀ j, j < n → ab (f j) ≤ 100000) → gr f n ≤ 100000
  | 0, _ => by show (0 : Int32) ≤ 100000; decide
  | n + 1, h => mx_le (gr_le n (fun j hj => h j (Nat.lt_succ_of_lt hj))) (h n (Nat.lt_succ_self n))
theorem gr_pas {n nw : Nat} {su ss hd gl het bl upo : Int32} {ca wt bt fr wy sy : Nat → Int32} {pv sv : (Nat → Int32) → Int64} {s : Sc} : gr (pasF n nw su ss hd gl het bl upo ca wt bt fr wy sy pv sv s).1 n ≤ 100000 := by
  refine gr_le n (fun j hj => ?_)
  show ab (pre n _ _ j) ≤ 100000
  rw [pre_lt hj]
  exact ab_wi _
theorem hgS_le {T : Sc → Sc} {s : Sc} {n : Nat} (hT : ∀ s, gr (T s).1 n ≤ 100000) : ∀ k : Nat, hgS T s n k ≤ 100000
  | 0 => by show (0 : Int32) ≤ 100000; decide
  | k + 1 => mx_le (hgS_le hT k) (hT _)
theorem hgS_nlt {T : Sc → Sc} {s : Sc} {n k : Nat} (hT : ∀ s, gr (T s).1 n ≤ 100000) : ¬ 100000 < hgS T s n k := fun h => absurd (hgS_le hT k) (Int32.not_le.mpr h)
/-- the trial's times are the plan's, whatever moved beside -/
theorem TX_try {M : Mm} {I : Nat → Nat → Int32} {pl n nw nu nv : Nat} {bl upo : Int32} {ca ca' : Nat → Int32} {a b : Sc} (hp : pl = 7 ∨ pl = 41) (hn : n ≤ 12) (hw : nw ≤ 6) (hf : ∀ k, (k < 92 ∨ 108 < k) → I k = M.1 k) (hca : eqN 12 ca ca') {het het' : Int32} (hh : het = het') (h : scE a b) : scE (TX I pl n nw nu nv het bl upo ca a) (TX M.1 pl n nw nu nv het' bl upo ca' b) := by
  subst hh
  unfold TX
  rw [hf pl (by omega), hf (pl + 8) (by omega), hf (pl + 9) (by omega), hf (pl + 10) (by omega), hf (pl + 11) (by omega), hf (pl + 12) (by omega), hf (pl + 19) (by omega), hf (pl + 22) (by omega)]
  exact pasF_E hn hw hca h
theorem highT {G : Gx} {l : Launch} {ly : Ly} {M : Mm} {I : Nat → Nat → Int32} {L : Nat → Nat → Int64} {pl n nw nu nv N : Nat} (hXS : XS ly M pl n nw nu nv) (hf : ∀ k, (k < 92 ∨ 108 < k) → I k = M.1 k) (hN : N < 1000) {Q : Qt} (hQ : ∀ (I' : Nat → Nat → Int32) (L' : Nat → Nat → Int64), (∀ k, (k < 92 ∨ 108 < k) → I' k = M.1 k) → Q (some (.int (hgS (TX I pl n nw nu nv (I 92 4) (I 92 16) (I 92 17) (I 107)) (vS I 92) n N))) ly (I', L', rT M pl)) : Mt G l mX9_highest (6, 0, 0, false) [.ref 92, .int (nI N), .int 100000] ly (I, L, rT M pl) Q := by
  obtain ⟨hX, hpl, hp7, ⟨n0, n1, n2, n3⟩, ⟨hn, hn2, hn12⟩, ⟨hw1, hw2, hw6⟩, ⟨hu1, hu2, hv1, hv2⟩, hgl, hbb⟩ := hXS
  have hX' : XW ly (rT M pl) := XW_rSc hX (by decide)
  refine tX9_highest (M := (I, L, rT M pl)) (a := 92) (p := pl) (c := pl + 7) (u := pl + 18) (v := pl + 21) (n := n) (nu := nu) (nv := nv) (nw := nw) (N := N) (lim := 100000) (xScene92 (M := (I, L, rT M pl)) hX') rfl (pc0 hX' hp7) (by omega) ((congrFun (hf pl (by omega)) 0).trans hn) hn12 rfl (iPlan.crowd (M := (I, L, rT M pl)) hX' hp7) (by omega) rfl (iPlan.push (M := (I, L, rT M pl)) hX' hp7) (by omega) rfl (iPlan.side (M := (I, L, rT M pl)) hX' hp7) (by omega) ((congrFun (hf (pl + 18) (by omega)) 0).trans hu1) hu2 ((congrFun (hf (pl + 21) (by omega)) 0).trans hv1) hv2 ((congrFun (hf (pl + 7) (by omega)) 0).trans hw2) hw6 (by show ¬ 2 * I pl 6 + 1 = 0; rw [hf pl (by omega)]; exact hgl) hN ?_
  intro I' L' k hk hfr hv hor hno
  have hk : k = N := hor.elim id (fun h => absurd h (hgS_nlt (fun s => gr_pas)))
  subst hk
  exact hQ I' L' (fun k hk => (hfr.1 k (by omega)).trans (hf k hk))
theorem inR_1 {x lo hi : Int32} : (inR x lo hi = 0 ∧ ¬ (lo ≤ x ∧ x ≤ hi)) ∨ (inR x lo hi = 1 ∧ lo ≤ x ∧ x ≤ hi) := by
  unfold inR
  by_cases h1 : x < lo
  · exact Or.inl ⟨if_pos h1, fun h => absurd h.1 (Int32.not_le.mpr h1)⟩
  · by_cases h2 : hi < x
    · exact Or.inl ⟨(if_neg h1).trans (if_pos h2), fun h => absurd h.2 (Int32.not_le.mpr h2)⟩
    · exact Or.inr ⟨(if_neg h1).trans (if_neg h2), Int32.not_lt.mp h1, Int32.not_lt.mp h2⟩
/-- a number in 1 .. b is a Nat -/
theorem nat_of {x b : Int32} {k : Nat} (hb : b = nI k) (hk : k < 2 ^ 31) (h1 : 1 ≤ x) (h2 : x ≤ b) : ∃ j : Nat, 1 ≤ j ∧ j ≤ k ∧ x = nI j := by
  have h0 : ¬ x < 0 := by
    rw [Int32.le_iff_toInt_le, show (1 : Int32).toInt = 1 from rfl] at h1
    rw [Int32.lt_iff_toInt_lt, show (0 : Int32).toInt = 0 from rfl]
    omega
  obtain ⟨j, hj, rfl⟩ := nI_of h0
  refine ⟨j, ?_, ?_, rfl⟩
  · exact (nI_leI (a := 1) (by omega) hj).mp h1
  · rw [hb] at h2; exact (nI_leI hj hk).mp h2
/-- a question changed nothing but the trial and what is scratch -/
def quX (M M' : Mm) : Prop := (∀ k, k ≠ 0 → k ≠ 91 → (k < 92 ∨ 108 < k) → (k < 138 ∨ 143 < k) → k ≠ 147 → k ≠ 148 → M'.1 k = M.1 k) ∧ (∀ j, j ≠ 17 → M'.1 0 j = M.1 0 j) ∧ (∀ k j, (k ≠ 92 ∨ 4 ≤ j) → M'.2.2 k j = M.2.2 k j)
theorem quX.tr {M : Mm} {I : Nat → Nat → Int32} {L : Nat → Nat → Int64} {pl : Nat} (hf : ∀ k, (k < 92 ∨ 108 < k) → I k = M.1 k) : quX M (I, L, rT M pl) := ⟨fun k _ _ h _ _ _ => hf k h, fun j _ => congrFun (hf 0 (by omega)) j, fun k j h => rSc_hi h⟩
theorem quX.rf {M : Mm} : quX M M := ⟨fun _ _ _ _ _ _ _ => rfl, fun _ _ => rfl, fun _ _ _ => rfl⟩
theorem tX11_high {G : Gx} {l : Launch} {ly : Ly} {M : Mm} {pl n nw nu nv : Nat} {x : Int32} (hXS : XS ly M pl n nw nu nv) {Q : Qt} (hQ : (¬ (1 ≤ x ∧ x ≤ 64) → Q (some (.int (-1))) ly M) ∧ (∀ N : Nat, 1 ≤ N → N ≤ 64 → x = nI N → ∀ M' : Mm, quX M M' → Q (some (.int (hgS (TX M.1 pl n nw nu nv (M.1 75 4) 0 1 (M.1 90)) (vS M.1 75) n N))) ly M')) : Mt G l mX11_high (7, 0, 0, false) [.ref 0, .int x] ly M Q := by
  have hXS0 := hXS
  obtain ⟨hX, hpl, hp7, ⟨n0, n1, n2, n3⟩, ⟨hn, hn2, hn12⟩, ⟨hw1, hw2, hw6⟩, ⟨hu1, hu2, hv1, hv2⟩, hgl, hbb⟩ := hXS
  refine Mt.of (lv := [some (.ref 0), some (.int x)]) rfl ?_
  refine Rn.iload_n dX11_high_0 rfl ?_
  refine Rn.iconstv (v := 1) dX11_high_1 ic_1 ?_
  refine Rn.bipushv (v := 64) dX11_high_2 bp_64 ?_
  refine Rn.callS3 dX11_high_4 vX11_295 (tX11_isIn) (by decide) ⟨(Nat.le_of_ble_eq_true rfl), (Nat.le_of_ble_eq_true rfl), (Nat.le_of_ble_eq_true rfl)⟩ (fun h => by cases h) (fun v1 ly1 M1 ⟨q1, q2, q3⟩ => ?_)
  rw [q1, q2, q3]
  refine Rn.if_ne dX11_high_7 (fun g => ?_) (fun g => ?_)
  · skip
    obtain ⟨N, hN1, hN2, rfl⟩ : ∃ j : Nat, 1 ≤ j ∧ j ≤ 64 ∧ x = nI j := by
      rcases inR_1 (x := x) (lo := 1) (hi := 64) with h | h
      · exact absurd h.1 g
      · exact nat_of (b := 64) (k := 64) rfl (by decide) h.2.1 h.2.2
    refine Rn.aload_n dX11_high_12 rfl ?_
    refine Rn.iconstv (v := 1) dX11_high_13 ic_1 ?_
    refine Rn.callV1 dX11_high_14 vX11_299 (xc0 hX) (by decide) rfl (tX11_tryFromNow (Q := fun v0 ly0 M0 => v0 = none ∧ ly0 = ly ∧ ∃ I : Nat → Nat → Int32, M0 = (I, M.2.1, rT M pl) ∧ trS M I 1) (Or.inr rfl) hXS0 (fun I h => ⟨rfl, rfl, I, rfl, h⟩)) (by decide) ⟨(Nat.le_of_ble_eq_true rfl), (Nat.le_of_ble_eq_true rfl), (Nat.le_of_ble_eq_true rfl)⟩ (fun h => by cases h) (fun v1 ly1 M1 ⟨q1, q2, I, q3, hT⟩ => ?_)
    rw [q1, q2, q3]
    refine Rn.aload_n dX11_high_17 rfl ?_
    refine Rn.getR dX11_high_18 fX11_43 rfl (xc0 hX) (show M.2.2 0 6 = some 92 from (xp0_6 hX)) ?_
    refine Rn.iload_n dX11_high_21 rfl ?_
    refine Rn.ldcw dX11_high_22 kX11_269 ?_
    refine Rn.callV2 dX11_high_25 vX11_303 (xc92 hX) (by decide) rfl (highT (Q := fun v0 ly0 M0 => v0 = some (.int (hgS (TX M.1 pl n nw nu nv (M.1 75 4) 0 1 (M.1 90)) (vS M.1 75) n N)) ∧ ly0 = ly ∧ quX M M0) (N := N) hXS0 hT.1 (by omega) (fun I' L' hf => ⟨by rw [hgS_E hn12 (T' := TX M.1 pl n nw nu nv (M.1 75 4) 0 1 (M.1 90)) (t := vS M.1 75) (fun a b h => by rw [hT.2.2.2.2.1, hT.2.2.2.2.2.1]; exact TX_try hp7 hn12 hw6 hT.1 hT.2.2.1 hT.2.2.2.1 h) hT.2.1 N], rfl, quX.tr hf⟩)) (by decide) ⟨(Nat.le_of_ble_eq_true rfl), (Nat.le_of_ble_eq_true rfl), (Nat.le_of_ble_eq_true rfl)⟩ (fun h => by cases h) (fun v1 ly1 M1 ⟨q1, q2, hq⟩ => ?_)
    rw [q1, q2]
    exact Rn.iret (ty := .int) dX11_high_28 rfl rfl (hQ.2 N hN1 hN2 rfl M1 hq)
  · skip
    refine Rn.iconstv (v := -1) dX11_high_10 ic_m1 ?_
    exact Rn.iret (ty := .int) dX11_high_11 rfl rfl (hQ.1 (fun h => inR_1.elim (fun k => k.2 h) (fun k => absurd (k.1.symm.trans g) (by decide))))
