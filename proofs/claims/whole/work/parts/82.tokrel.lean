theorem isD_nat {c : Int32} (h : isD c = true) : ∃ m : Nat, m < 10 ∧ c = nI (48 + m) := by
  obtain ⟨h1, h2⟩ := of_decide_eq_true h
  obtain ⟨k, hk, rfl⟩ := nI_of (x := c) (fun h3 => absurd (Int32.le_trans (show (0 : Int32) ≤ 48 by decide) h1) (Int32.not_le.mpr h3))
  have e1 := (nI_leI (a := 48) (by decide) hk).mp h1
  have e2 := (nI_leI (b := 57) hk (by decide)).mp h2
  exact ⟨k - 48, by omega, by rw [show 48 + (k - 48) = k by omega]⟩
/-- numbers alike: the same, or both too great -/
def nuR (a b : Int32) : Prop := (∃ v : Nat, v ≤ 99999 ∧ a = nI v ∧ b = nI v) ∨ (∃ v u : Nat, (99999 < v ∧ v ≤ 1000000) ∧ (99999 < u ∧ u ≤ 1000000) ∧ a = nI v ∧ b = nI u)
theorem mn_nI {a b : Nat} (ha : a < 2 ^ 31) (hb : b < 2 ^ 31) : mn (nI a) (nI b) = nI (if b < a then b else a) := by
  unfold mn
  by_cases h : b < a
  · rw [if_pos h, if_pos ((nI_ltI hb ha).mpr h)]
  · rw [if_neg h, if_neg (fun h2 => h ((nI_ltI hb ha).mp h2))]
theorem num_rel {f : Nat → Int32} {p : Nat} : ∀ k : Nat, (∀ i, i < k → isD (f (p + i)) = true) → nuR (nmC f p k) (nmR f p k)
  | 0, _ => Or.inl ⟨0, by decide, rfl, rfl⟩
  | k + 1, h => by
    have ih := num_rel (f := f) (p := p) k (fun i hi => h i (by omega))
    obtain ⟨d, hd, ed⟩ := isD_nat (h k (by omega))
    have eC : ∀ v : Nat, v ≤ 1000000 → nmC f p k = nI v → nmC f p (k + 1) = nI (if v * 10 + d < 1000000 then v * 10 + d else 1000000) := fun v hv e => by
      show mn (nI 1000000) (nmC f p k * nI 10 + f (p + k) - nI 48) = _
      rw [e, ed, nI_mul, nI_add, show v * 10 + (48 + d) = (v * 10 + d) + 48 by omega, nI_subk, mn_nI (by decide) (by omega)]
    have eR : nmR f p (k + 1) = if 99999 < nmR f p k then nmR f p k else 10 * nmR f p k + f (p + k) - 48 := rfl
    rcases ih with ⟨v, hv, e1, e2⟩ | ⟨v, u, hv, hu, e1, e2⟩
    · have e3 := eC v (by omega) e1
      have e4 : nmR f p (k + 1) = nI (v * 10 + d) := by
        have hng : ¬ (99999 : Int32) < nI v := fun h2 => absurd ((nI_ltI (a := 99999) (b := v) (by decide) (by omega)).mp h2) (by omega)
        rw [eR, e2, if_neg hng, ed]
        show nI 10 * nI v + nI (48 + d) - nI 48 = _
        rw [nI_mul, nI_add, show 10 * v + (48 + d) = (v * 10 + d) + 48 by omega, nI_subk]
      rw [if_pos (by omega)] at e3
      by_cases h9 : v * 10 + d ≤ 99999
      · exact Or.inl ⟨v * 10 + d, h9, e3, e4⟩
      · exact Or.inr ⟨v * 10 + d, v * 10 + d, by omega, by omega, e3, e4⟩
    · have e3 := eC v hv.2 e1
      have hgt : (99999 : Int32) < nI u := (nI_ltI (a := 99999) (b := u) (by decide) (by omega)).mpr hu.1
      have e4 : nmR f p (k + 1) = nI u := by rw [eR, e2, if_pos hgt]
      rw [if_neg (by omega)] at e3
      exact Or.inr ⟨1000000, u, by decide, hu, e3, e4⟩
theorem sg_kd {c h : Int32} (hc : c < 256) : kdT (sgO c) (sgV c h) = sgK (sgV c h) := by
  by_cases hs : c = 59 ∨ c = 40 ∨ c = 41 ∨ c = 43 ∨ c = 45 ∨ c = 42 ∨ c = 47 ∨ c = 60 ∨ c = 61 ∨ c = 62
  · rw [show sgO c = 3 from if_pos hs]; rfl
  · rw [show sgO c = 5 from if_neg hs]
    have ev : sgV c h = c := by
      unfold sgV
      rw [if_neg (fun e => hs (by rw [e.1]; decide)), if_neg (fun e => hs (by rw [e.1]; decide)), if_neg (fun e => hs (by rw [e.1]; decide))]
    have ne : ∀ k : Int32, ¬ k < 256 → ¬ c = k := fun k hk e => hk (e ▸ hc)
    have nm : ∀ k : Int32, (k = 59 ∨ k = 40 ∨ k = 41 ∨ k = 43 ∨ k = 45 ∨ k = 42 ∨ k = 47 ∨ k = 60 ∨ k = 61 ∨ k = 62) → ¬ c = k := fun k hk e => hs (e ▸ hk)
    rw [ev]
    show (41 : Int32) = sgK c
    unfold sgK
    rw [if_neg (ne 256 (by decide)), if_neg (ne 257 (by decide)), if_neg (ne 258 (by decide)), if_neg (nm 60 (by decide)), if_neg (nm 61 (by decide)), if_neg (nm 62 (by decide)), if_neg (nm 43 (by decide)), if_neg (nm 45 (by decide)), if_neg (nm 42 (by decide)), if_neg (nm 47 (by decide)), if_neg (nm 40 (by decide)), if_neg (nm 41 (by decide)), if_neg (nm 59 (by decide))]
theorem sgO_n {c : Int32} : ¬ sgO c = 1 ∧ ¬ sgO c = 2 := by unfold sgO; split <;> exact ⟨by decide, by decide⟩
/-- the class's token is the reference's -/
theorem kdA.rel {M K : Mm} {f : Nat → Int32} {n p : Nat} {v0 : Int32} (h : kdA M K f n p) (hw : ∀ w, w < 25 → M.1 4 w = wdP w) (hb : byA f n) : K.1 3 0 = kdT (tkT f n p v0).2.1 (tkT f n p v0).2.2 ∧ ((tkT f n p v0).2.1 = 1 → K.1 3 3 = (tkT f n p v0).2.2) ∧ ((tkT f n p v0).2.1 = 2 → nuR (K.1 3 2) (tkT f n p v0).2.2) := by
  obtain ⟨h1, h2, h3, h4⟩ := h
  by_cases hn : n ≤ p
  · rw [show tkT f n p v0 = (p, 4, v0) by unfold tkT; rw [if_pos hn]]
    exact ⟨h1 hn, fun e => absurd e (show ¬ (4 : Int32) = 1 by decide), fun e => absurd e (show ¬ (4 : Int32) = 2 by decide)⟩
  · by_cases hs : isS (f p) = true
    · obtain ⟨k0, k3⟩ := h2 (by omega) hs
      have hE := scN_le (P := isS) (f := f) (n - p) p
      have hU := scN_up (P := isS) (f := f) (k := n - p) (i := p) (by omega) hs
      have hin : ∀ i, i < scN isS f (n - p) p - p → isS (f (p + i)) = true := fun i hi => scN_in (n - p) p (p + i) (by omega) (by omega)
      obtain ⟨e, he⟩ : ∃ e, e = scN isS f (n - p) p := ⟨_, rfl⟩
      have hT : tkT f n p v0 = (if ¬ wdF (mtB f p e) 25 0 = -1 then (e, 0, wdF (mtB f p e) 25 0) else if 6 < e - p then (e, 5, -1) else (e, 1, pkR f p e 6)) := by unfold tkT; rw [if_neg hn, if_pos hs, ← he]
      rw [← he] at k0 k3 hE hU hin
      by_cases h6 : 6 < e - p
      · have hno : wdF (mtB f p e) 25 0 = -1 := wdF_no 25 0 (fun j _ hj => decide_eq_false (fun hh => by have := (wS j (by omega)).1; omega))
        rw [if_pos h6] at k0
        rw [hno, if_neg (fun hh => hh rfl), if_pos h6] at hT
        rw [hT]
        exact ⟨k0, fun e => absurd e (show ¬ (5 : Int32) = 1 by decide), fun e => absurd e (show ¬ (5 : Int32) = 2 by decide)⟩
      · have hEq : wdF (fun j => decide (M.1 4 j = lbS f p (e - p))) 25 0 = wdF (mtB f p e) 25 0 := wdF_E 25 0 (fun j _ hj => by
          show decide (M.1 4 j = lbS f p (e - p)) = mtB f p e j
          rw [hw j (by omega), wd_mt (by omega) (by omega) hin, show p + (e - p) = e by omega])
        rw [if_neg h6, hEq] at k0
        by_cases hno : wdF (mtB f p e) 25 0 = -1
        · rw [if_pos hno] at k0
          rw [hno, if_neg (fun hh => hh rfl), if_neg h6] at hT
          rw [hT]
          refine ⟨k0, fun _ => ?_, fun e => absurd e (show ¬ (1 : Int32) = 2 by decide)⟩
          rw [k3, lbS_pk (by omega) (by omega), show p + (e - p) = e by omega]
        · rw [if_neg hno] at k0
          rw [if_pos hno] at hT
          rw [hT]
          exact ⟨k0, fun e => absurd e (show ¬ (0 : Int32) = 1 by decide), fun e => absurd e (show ¬ (0 : Int32) = 2 by decide)⟩
    · by_cases hd : isD (f p) = true
      · obtain ⟨k0, k2⟩ := h3 (by omega) hs hd
        have hT : tkT f n p v0 = (scN isD f (n - p) p, 2, nmR f p (scN isD f (n - p) p - p)) := by unfold tkT; rw [if_neg hn, if_neg hs, if_pos hd]
        have hE := scN_le (P := isD) (f := f) (n - p) p
        rw [hT]
        refine ⟨k0, fun e => absurd e (show ¬ (2 : Int32) = 1 by decide), fun _ => ?_⟩
        rw [k2]
        exact num_rel _ (fun i hi => scN_in (n - p) p (p + i) (by omega) (by omega))
      · have k0 := h4 (by omega) hs hd
        have hT : tkT f n p v0 = (if 256 ≤ sgV (f p) (hrF f n (p + 1)) then p + 2 else p + 1, sgO (f p), sgV (f p) (hrF f n (p + 1))) := by unfold tkT; rw [if_neg hn, if_neg hs, if_neg hd]
        rw [hT]
        exact ⟨k0.trans (sg_kd (hb p (by omega)).2).symm, fun e => absurd e sgO_n.1, fun e => absurd e sgO_n.2⟩
