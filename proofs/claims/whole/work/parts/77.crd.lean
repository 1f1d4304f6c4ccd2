/-- the class's bytes g are the bytes f -/
def tpR (g f : Nat → Int32) (n : Nat) : Prop := ∀ j, j < n → g j &&& 255 = f j ∧ ((f j < 128 ∧ g j = f j) ∨ (128 ≤ f j ∧ g j < 0))
theorem tpR.S {g f : Nat → Int32} {n j : Nat} (h : tpR g f n) (hj : j < n) : (inR (g j) 97 122 = 0 ∧ ¬ isS (f j) = true) ∨ (inR (g j) 97 122 = 1 ∧ isS (f j) = true) := by
  rcases (h j hj).2 with ⟨h1, h2⟩ | ⟨h1, h2⟩
  · rw [h2]; exact inS
  · refine Or.inl ⟨inR_1.elim (fun k => k.1) (fun k => absurd (Int32.le_trans (show (0 : Int32) ≤ 97 by decide) k.2.1) (Int32.not_le.mpr h2)), fun h3 => ?_⟩
    exact absurd (Int32.le_trans h1 (of_decide_eq_true h3).2) (by decide)
theorem tpR.D {g f : Nat → Int32} {n j : Nat} (h : tpR g f n) (hj : j < n) : (inR (g j) 48 57 = 0 ∧ ¬ isD (f j) = true) ∨ (inR (g j) 48 57 = 1 ∧ isD (f j) = true) := by
  rcases (h j hj).2 with ⟨h1, h2⟩ | ⟨h1, h2⟩
  · rw [h2]; exact inD
  · refine Or.inl ⟨inR_1.elim (fun k => k.1) (fun k => absurd (Int32.le_trans (show (0 : Int32) ≤ 48 by decide) k.2.1) (Int32.not_le.mpr h2)), fun h3 => ?_⟩
    exact absurd (Int32.le_trans h1 (of_decide_eq_true h3).2) (by decide)
theorem tpR.eqS {g f : Nat → Int32} {n j : Nat} (h : tpR g f n) (hj : j < n) {k : Int32} (hk : 0 ≤ k ∧ k < 128) : g j = k ↔ f j = k := by
  rcases (h j hj).2 with ⟨h1, h2⟩ | ⟨h1, h2⟩
  · rw [h2]
  · exact ⟨fun e => absurd hk.1 (Int32.not_le.mpr (e ▸ h2)), fun e => absurd (e ▸ h1 : (128 : Int32) ≤ k) (Int32.not_le.mpr hk.2)⟩
/-- the class's kind of a token -/
def sgK (v : Int32) : Int32 := if v = 256 then 26 else if v = 257 then 28 else if v = 258 then 29 else if v = 60 then 25 else if v = 61 then 27 else if v = 62 then 30 else if v = 43 then 31 else if v = 45 then 32 else if v = 42 then 33 else if v = 47 then 34 else if v = 40 then 35 else if v = 41 then 36 else if v = 59 then 37 else 41
def kdT (t v : Int32) : Int32 := if t = 0 then v else if t = 1 then 39 else if t = 2 then 38 else if t = 3 then sgK v else if t = 4 then 40 else 41
def ltB (c : Int32) (k : Nat) : Int32 := if k < 6 then (c - 97 + 1) <<< ((nI (5 * (5 - k))) &&& 31) else 0
def XR (M : Mm) (n i : Nat) : Prop := (M.1 3 5 = nI n ∧ n ≤ 700) ∧ (M.1 3 6 = nI i ∧ i ≤ n)
theorem tX8_isLetter {G : Gx} {l : Launch} {ly : Ly} {M : Mm} {x : Int32} : Mt G l mX8_isLetter (0, 0, 0, false) [.int x] ly M (Is (some (.int (inR x 97 122))) ly M) := by
  refine Mt.is (fun Q hQ => ?_)
  refine Mt.of (lv := [some (.int x)]) rfl ?_
  refine Rn.iload_n dX8_isLetter_0 rfl ?_
  refine Rn.bipushv (v := 97) dX8_isLetter_1 bp_97 ?_
  refine Rn.icmp_lt dX8_isLetter_3 (fun h1 => ?_) (fun h1 => ?_)
  · skip
    rw [show inR x 97 122 = 0 from inR_1.elim (fun k => k.1) (fun k => absurd h1 (Int32.not_lt.mpr k.2.1))] at hQ
    refine Rn.iconstv (v := 0) dX8_isLetter_16 ic_0 ?_
    exact Rn.iret (ty := .boolean) dX8_isLetter_17 rfl rfl hQ
  · skip
    refine Rn.iload_n dX8_isLetter_6 rfl ?_
    refine Rn.bipushv (v := 122) dX8_isLetter_7 bp_122 ?_
    refine Rn.icmp_gt dX8_isLetter_9 (fun h2 => ?_) (fun h2 => ?_)
    · skip
      rw [show inR x 97 122 = 0 from inR_1.elim (fun k => k.1) (fun k => absurd h2 (Int32.not_lt.mpr k.2.2))] at hQ
      refine Rn.iconstv (v := 0) dX8_isLetter_16 ic_0 ?_
      exact Rn.iret (ty := .boolean) dX8_isLetter_17 rfl rfl hQ
    · skip
      rw [show inR x 97 122 = 1 from inR_1.elim (fun k => absurd ⟨Int32.not_lt.mp h1, Int32.not_lt.mp h2⟩ k.2) (fun k => k.1)] at hQ
      refine Rn.iconstv (v := 1) dX8_isLetter_12 ic_1 ?_
      refine Rn.goto dX8_isLetter_13 ?_
      exact Rn.iret (ty := .boolean) dX8_isLetter_17 rfl rfl hQ
theorem tX8_isDigit {G : Gx} {l : Launch} {ly : Ly} {M : Mm} {x : Int32} : Mt G l mX8_isDigit (0, 0, 0, false) [.int x] ly M (Is (some (.int (inR x 48 57))) ly M) := by
  refine Mt.is (fun Q hQ => ?_)
  refine Mt.of (lv := [some (.int x)]) rfl ?_
  refine Rn.iload_n dX8_isDigit_0 rfl ?_
  refine Rn.bipushv (v := 48) dX8_isDigit_1 bp_48 ?_
  refine Rn.icmp_lt dX8_isDigit_3 (fun h1 => ?_) (fun h1 => ?_)
  · skip
    rw [show inR x 48 57 = 0 from inR_1.elim (fun k => k.1) (fun k => absurd h1 (Int32.not_lt.mpr k.2.1))] at hQ
    refine Rn.iconstv (v := 0) dX8_isDigit_16 ic_0 ?_
    exact Rn.iret (ty := .boolean) dX8_isDigit_17 rfl rfl hQ
  · skip
    refine Rn.iload_n dX8_isDigit_6 rfl ?_
    refine Rn.bipushv (v := 57) dX8_isDigit_7 bp_57 ?_
    refine Rn.icmp_gt dX8_isDigit_9 (fun h2 => ?_) (fun h2 => ?_)
    · skip
      rw [show inR x 48 57 = 0 from inR_1.elim (fun k => k.1) (fun k => absurd h2 (Int32.not_lt.mpr k.2.2))] at hQ
      refine Rn.iconstv (v := 0) dX8_isDigit_16 ic_0 ?_
      exact Rn.iret (ty := .boolean) dX8_isDigit_17 rfl rfl hQ
    · skip
      rw [show inR x 48 57 = 1 from inR_1.elim (fun k => absurd ⟨Int32.not_lt.mp h1, Int32.not_lt.mp h2⟩ k.2) (fun k => k.1)] at hQ
      refine Rn.iconstv (v := 1) dX8_isDigit_12 ic_1 ?_
      refine Rn.goto dX8_isDigit_13 ?_
      exact Rn.iret (ty := .boolean) dX8_isDigit_17 rfl rfl hQ
theorem tX8_letterBits {G : Gx} {l : Launch} {ly : Ly} {M : Mm} {x : Int32} {k : Nat} (hk : k ≤ 700) : Mt G l mX8_letterBits (0, 0, 0, false) [.int x, .int (nI k)] ly M (Is (some (.int (ltB x k))) ly M) := by
  refine Mt.is (fun Q hQ => ?_)
  refine Mt.of (lv := [some (.int x), some (.int (nI k))]) rfl ?_
  refine Rn.iload_n dX8_letterBits_0 rfl ?_
  refine Rn.bipushv (v := 6) dX8_letterBits_1 bp_6 ?_
  refine Rn.icmp_ge dX8_letterBits_3 (fun g => ?_) (fun g => ?_)
  · skip
    rw [show ltB x k = 0 from if_neg (fun h => absurd g (nI_ge (a := k) (b := 6) h (by decide)))] at hQ
    refine Rn.iconstv (v := 0) dX8_letterBits_21 ic_0 ?_
    exact Rn.iret (ty := .int) dX8_letterBits_22 rfl rfl hQ
  · skip
    have hk6 : k < 6 := Nat.lt_of_not_le (fun h => g (nI_le (a := 6) (b := k) h (by omega)))
    rw [show ltB x k = _ from if_pos hk6] at hQ
    refine Rn.iload_n dX8_letterBits_6 rfl ?_
    refine Rn.bipushv (v := 97) dX8_letterBits_7 bp_97 ?_
    refine Rn.isub dX8_letterBits_9 ?_
    refine Rn.iconstv (v := 1) dX8_letterBits_10 ic_1 ?_
    refine Rn.iadd dX8_letterBits_11 ?_
    refine Rn.iconstv (v := 5) dX8_letterBits_12 ic_5 ?_
    refine Rn.iconstv (v := 5) dX8_letterBits_13 ic_5 ?_
    refine Rn.iload_n dX8_letterBits_14 rfl ?_
    refine Rn.isub dX8_letterBits_15 ?_
    refine Rn.topI (y := nI (5 - k)) (i32sub (a := 5) (by omega)) ?_
    refine Rn.imul dX8_letterBits_16 ?_
    refine Rn.topI (y := nI (5 * (5 - k))) (nI_mul 5 (5 - k)) ?_
    refine Rn.topI (y := nI (5 * (5 - k))) (by first | rfl | exact nI_mul 5 (5 - k)) ?_
    refine Rn.ishl dX8_letterBits_17 ?_
    refine Rn.goto dX8_letterBits_18 ?_
    exact Rn.iret (ty := .int) dX8_letterBits_22 rfl rfl hQ
theorem tX8_signAt {G : Gx} {l : Launch} {ly : Ly} {M : Mm} {n k : Nat} {f : Nat → Int32} (hn : M.1 3 5 = nI n ∧ n ≤ 700) (hf : tpR (M.1 1) f n) (hk : k ≤ 700) (hX : XW ly M.2.2) : Mt G l mX8_signAt (0, 0, 0, false) [.ref 3, .int (nI k)] ly M (Is (some (.int (hrF f n k))) ly M) := by
  refine Mt.is (fun Q hQ => ?_)
  refine Mt.of (lv := [some (.ref 3), some (.int (nI k))]) rfl ?_
  refine Rn.iload_n dX8_signAt_0 rfl ?_
  refine Rn.aload_n dX8_signAt_1 rfl ?_
  refine Rn.getI dX8_signAt_2 fX8_40 rfl (xc3 hX) ?_
  refine Rn.topI (y := nI n) (hn.1) ?_
  refine Rn.icmp_ge dX8_signAt_5 (fun g => ?_) (fun g => ?_)
  · skip
    rw [show hrF f n k = -1 from if_neg (fun h => absurd g (nI_ge (a := k) (b := n) h (by omega)))] at hQ
    refine Rn.iconstv (v := -1) dX8_signAt_21 ic_m1 ?_
    exact Rn.iret (ty := .int) dX8_signAt_22 rfl rfl hQ
  · skip
    have hlt : k < n := Nat.lt_of_not_le (fun h => g (nI_le (a := n) (b := k) h (by omega)))
    rw [show hrF f n k = M.1 1 k &&& 255 from (if_pos hlt).trans (hf k hlt).1.symm] at hQ
    refine Rn.aload_n dX8_signAt_8 rfl ?_
    refine Rn.getR dX8_signAt_9 fX8_15 rfl (xc3 hX) (show M.2.2 3 4 = some 1 from (xp3_4 hX)) ?_
    refine Rn.iload_n dX8_signAt_12 rfl ?_
    refine Rn.baldN (k0 := k) dX8_signAt_13 (xc1 hX) (by omega) (by decide) ?_
    refine Rn.sipushv (v := 255) dX8_signAt_14 sp_255 ?_
    refine Rn.iand dX8_signAt_17 ?_
    refine Rn.goto dX8_signAt_18 ?_
    exact Rn.iret (ty := .int) dX8_signAt_22 rfl rfl hQ
theorem tX8_wordKind {G : Gx} {l : Launch} {ly : Ly} {M : Mm}  (hX : XW ly M.2.2) : Mt G l mX8_wordKind (0, 0, 0, false) [.ref 3] ly M (Is (some (.int (if wdF (fun j => decide (M.1 4 j = M.1 3 3)) 25 0 = -1 then 39 else wdF (fun j => decide (M.1 4 j = M.1 3 3)) 25 0))) ly M) := by
  refine Mt.is (fun Q hQ => ?_)
  refine Mt.of (lv := [some (.ref 3), none]) rfl ?_
  refine Rn.iconstv (v := 0) dX8_wordKind_0 ic_0 ?_
  refine Rn.istore_n (lv' := [some (.ref 3), some (.int 0)]) dX8_wordKind_1 (by decide) rfl ?_
  have loop : ∀ g j : Nat, j + g = 25 → wdF (fun j => decide (M.1 4 j = M.1 3 3)) 25 0 = wdF (fun j => decide (M.1 4 j = M.1 3 3)) g j → Rn G l mX8_wordKind (0, 0, 0, false) 2 [some (.ref 3), some (.int (nI j))] [] ly M Q := by
    intro g
    induction g with
    | zero =>
      intro j hj hst
      refine Rn.iload_n dX8_wordKind_2 rfl ?_
      refine Rn.bipushv (v := 25) dX8_wordKind_3 bp_25 ?_
      refine Rn.icmp_ge dX8_wordKind_5 (fun hc => ?_) (fun hc => ?_)
      · skip
        refine Rn.bipushv (v := 39) dX8_wordKind_29 bp_39 ?_
        rw [hst, show wdF (fun j => decide (M.1 4 j = M.1 3 3)) 0 j = -1 from rfl, if_pos rfl] at hQ
        exact Rn.iret (ty := .int) dX8_wordKind_31 rfl rfl hQ
      · skip
        exact absurd (nI_le (a := 25) (b := j) (by omega) (by omega)) hc
    | succ g ih =>
      intro j hj hst
      refine Rn.iload_n dX8_wordKind_2 rfl ?_
      refine Rn.bipushv (v := 25) dX8_wordKind_3 bp_25 ?_
      refine Rn.icmp_ge dX8_wordKind_5 (fun hc => ?_) (fun hc => ?_)
      · skip
        exact absurd hc (nI_ge (a := j) (b := 25) (by omega) (by omega))
      · skip
        refine Rn.aload_n dX8_wordKind_8 rfl ?_
        refine Rn.getR dX8_wordKind_9 fX8_9 rfl (xc3 hX) (show M.2.2 3 7 = some 4 from (xp3_7 hX)) ?_
        refine Rn.iload_n dX8_wordKind_12 rfl ?_
        refine Rn.ialdN (k0 := j) dX8_wordKind_13 (xc4 hX) (by omega) (by decide) ?_
        refine Rn.aload_n dX8_wordKind_14 rfl ?_
        refine Rn.getI dX8_wordKind_15 fX8_76 rfl (xc3 hX) ?_
        refine Rn.icmp_ne dX8_wordKind_18 (fun g1 => ?_) (fun g1 => ?_)
        · skip
          refine Rn.iincN (lv' := [some (.ref 3), some (.int (nI (j + 1)))]) dX8_wordKind_23 rfl (by decide) rfl ?_
          refine Rn.goto dX8_wordKind_26 ?_
          exact ih (j + 1) (by omega) (by rw [hst, (show wdF (fun j => decide (M.1 4 j = M.1 3 3)) (g + 1) j = if decide (M.1 4 j = M.1 3 3) = true then nI j else wdF (fun j => decide (M.1 4 j = M.1 3 3)) g (j + 1) from rfl), if_neg (fun h => g1 (of_decide_eq_true h))])
        · skip
          refine Rn.iload_n dX8_wordKind_21 rfl ?_
          rw [hst, (show wdF (fun j => decide (M.1 4 j = M.1 3 3)) (g + 1) j = if decide (M.1 4 j = M.1 3 3) = true then nI j else wdF (fun j => decide (M.1 4 j = M.1 3 3)) g (j + 1) from rfl), if_pos (decide_eq_true g1), if_neg (fun e => nI_pos (n := j) (by omega) (by rw [e]; decide))] at hQ
          exact Rn.iret (ty := .int) dX8_wordKind_22 rfl rfl hQ
  exact loop 25 0 (by omega) rfl
