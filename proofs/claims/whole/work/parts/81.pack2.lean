theorem isS_nat {c : Int32} (h : isS c = true) : ∃ m : Nat, m < 26 ∧ c = nI (97 + m) := by
  obtain ⟨h1, h2⟩ := of_decide_eq_true h
  obtain ⟨k, hk, rfl⟩ := nI_of (x := c) (fun h3 => absurd (Int32.le_trans (show (0 : Int32) ≤ 97 by decide) h1) (Int32.not_le.mpr h3))
  have e1 := (nI_leI (a := 97) (by decide) hk).mp h1
  have e2 := (nI_leI (b := 122) hk (by decide)).mp h2
  exact ⟨k - 97, by omega, by rw [show 97 + (k - 97) = k by omega]⟩
theorem ltr_val : ∀ m, m < 26 → (nI (97 + m) - 97 + 1).toBitVec.toNat = m + 1 := by decide +kernel
theorem ltr_hi {c : Int32} (h : isS c = true) {b : Nat} (hb : 5 ≤ b) : (c - 97 + 1).toBitVec.getLsbD b = false := by
  obtain ⟨m, hm, rfl⟩ := isS_nat h
  show Nat.testBit (nI (97 + m) - 97 + 1).toBitVec.toNat b = false
  rw [ltr_val m hm]
  exact Nat.testBit_lt_two_pow (Nat.lt_of_lt_of_le (show m + 1 < 2 ^ 5 by omega) (Nat.pow_le_pow_right (by decide) hb))
theorem ltr_ex {c : Int32} (h : isS c = true) : ∃ t, t < 5 ∧ (c - 97 + 1).toBitVec.getLsbD t = true := by
  obtain ⟨m, hm, rfl⟩ := isS_nat h
  exact (show ∀ m, m < 26 → ∃ t, t < 5 ∧ (nI (97 + m) - 97 + 1).toBitVec.getLsbD t = true by decide +kernel) m hm
theorem ltr_inj {c d : Int32} (h : isS c = true) (g : isS d = true) (e : ∀ t, t < 5 → (c - 97 + 1).toBitVec.getLsbD t = (d - 97 + 1).toBitVec.getLsbD t) : c = d := by
  have e2 : (c - 97 + 1).toBitVec = (d - 97 + 1).toBitVec := by
    apply BitVec.eq_of_getLsbD_eq
    intro i hi
    by_cases h5 : i < 5
    · exact e i h5
    · rw [ltr_hi h (by omega), ltr_hi g (by omega)]
  obtain ⟨m, hm, rfl⟩ := isS_nat h
  obtain ⟨m2, hm2, rfl⟩ := isS_nat g
  have e3 := congrArg BitVec.toNat e2
  rw [ltr_val m hm, ltr_val m2 hm2] at e3
  rw [show m = m2 by omega]
theorem lbT_bit {f : Nat → Int32} {p j t : Nat} (hj : j < 6) (ht : t < 5) : ∀ k : Nat, k ≤ 6 → (∀ i, i < k → isS (f (p + i)) = true) → (lbT f p 5 k).toBitVec.getLsbD (5 * (5 - j) + t) = (decide (j < k) && (f (p + j) - 97 + 1).toBitVec.getLsbD t)
  | 0, _, _ => by
    show (0 : Int32).toBitVec.getLsbD _ = (decide (j < 0) && _)
    rw [decide_eq_false (Nat.not_lt_zero j), Bool.false_and]
    exact BitVec.getLsbD_zero
  | k + 1, h, hl => by
    have ih := lbT_bit (f := f) (p := p) hj ht k (by omega) (fun i hi => hl i (by omega))
    show (lbT f p 5 k ||| ((f (p + k) - 97 + 1) <<< (nI (5 * (5 - k)) &&& 31))).toBitVec.getLsbD _ = _
    rw [Int32.toBitVec_or, BitVec.getLsbD_or, ih, i32shl (by omega), BitVec.getLsbD_shiftLeft]
    rcases Nat.lt_trichotomy j k with h1 | h1 | h1
    · rw [decide_eq_true h1, decide_eq_true (show j < k + 1 by omega), ltr_hi (hl k (by omega)) (show 5 ≤ 5 * (5 - j) + t - 5 * (5 - k) by omega), Bool.and_false, Bool.or_false]
    · subst h1
      rw [decide_eq_false (Nat.lt_irrefl j), decide_eq_true (Nat.lt_succ_self j), Bool.false_and, Bool.false_or, Nat.add_sub_cancel_left, decide_eq_true (show 5 * (5 - j) + t < 32 by omega), decide_eq_false (show ¬ 5 * (5 - j) + t < 5 * (5 - j) by omega)]
      rfl
    · rw [decide_eq_false (show ¬ j < k by omega), decide_eq_false (show ¬ j < k + 1 by omega), decide_eq_true (show 5 * (5 - j) + t < 5 * (5 - k) by omega)]
      simp
theorem lbS_inj {f g : Nat → Int32} {p q k m : Nat} (hk : k ≤ 6) (hm : m ≤ 6) (hf : ∀ i, i < k → isS (f (p + i)) = true) (hg : ∀ i, i < m → isS (g (q + i)) = true) (e : lbS f p k = lbS g q m) : k = m ∧ ∀ i, i < k → f (p + i) = g (q + i) := by
  rw [lbS_T k hk, lbS_T m hm] at e
  have hb : ∀ j t, j < 6 → t < 5 → (decide (j < k) && (f (p + j) - 97 + 1).toBitVec.getLsbD t) = (decide (j < m) && (g (q + j) - 97 + 1).toBitVec.getLsbD t) := fun j t hj ht => by
    rw [← lbT_bit hj ht k hk hf, ← lbT_bit hj ht m hm hg, e]
  have hle : ∀ {f g : Nat → Int32} {p q k m : Nat}, k ≤ 6 → (∀ i, i < k → isS (f (p + i)) = true) → (∀ j t, j < 6 → t < 5 → (decide (j < k) && (f (p + j) - 97 + 1).toBitVec.getLsbD t) = (decide (j < m) && (g (q + j) - 97 + 1).toBitVec.getLsbD t)) → k ≤ m := fun {f g p q k m} hk hf hb => by
    refine Nat.le_of_not_lt (fun h => ?_)
    obtain ⟨t, ht, h1⟩ := ltr_ex (hf m h)
    have h2 := hb m t (by omega) ht
    rw [decide_eq_true h, decide_eq_false (Nat.lt_irrefl m), h1, Bool.false_and] at h2
    exact absurd h2 (by decide)
  have ekm : k = m := Nat.le_antisymm (hle hk hf hb) (hle hm hg (fun j t hj ht => (hb j t hj ht).symm))
  subst ekm
  refine ⟨rfl, fun i hi => ltr_inj (hf i hi) (hg i hi) (fun t ht => ?_)⟩
  have h2 := hb i t (by omega) ht
  rw [decide_eq_true hi, Bool.true_and, Bool.true_and] at h2
  exact h2
theorem wS : ∀ w, w < 25 → wLn w ≤ 6 ∧ ∀ i, i < wLn w → isS (lgB (wOf w + i)) = true := by decide +kernel
/-- a word, packed -/
def wdP (w : Nat) : Int32 := lbS lgB (wOf w) (wLn w)
theorem lbS_E {f g : Nat → Int32} {p q : Nat} : ∀ k : Nat, (∀ i, i < k → f (p + i) = g (q + i)) → lbS f p k = lbS g q k
  | 0, _ => rfl
  | k + 1, h => by
    show lbS f p k ||| ltB (f (p + k)) k = lbS g q k ||| ltB (g (q + k)) k
    rw [lbS_E k (fun i hi => h i (by omega)), h k (by omega)]
theorem wd_mt {f : Nat → Int32} {p k w : Nat} (hw : w < 25) (hk : k ≤ 6) (hf : ∀ i, i < k → isS (f (p + i)) = true) : decide (wdP w = lbS f p k) = mtB f p (p + k) w := by
  have hS := wS w hw
  unfold mtB
  apply decide_eq_decide.mpr
  constructor
  · intro h
    obtain ⟨e1, e2⟩ := lbS_inj hS.1 hk hS.2 hf h
    exact ⟨by omega, fun i hi => (e2 i hi).symm⟩
  · rintro ⟨h1, h2⟩
    have e1 : k = wLn w := by omega
    subst e1
    exact (lbS_E (wLn w) h2).symm
theorem wdF_E {A B : Nat → Bool} : ∀ (k w : Nat), (∀ j, w ≤ j → j < w + k → A j = B j) → wdF A k w = wdF B k w
  | 0, _, _ => rfl
  | k + 1, w, h => by
    unfold wdF
    rw [h w (Nat.le_refl w) (by omega), wdF_E k (w + 1) (fun j h1 h2 => h j (by omega) (by omega))]
theorem wdF_no {A : Nat → Bool} : ∀ (k w : Nat), (∀ j, w ≤ j → j < w + k → A j = false) → wdF A k w = -1
  | 0, _, _ => rfl
  | k + 1, w, h => by
    unfold wdF
    rw [if_neg (by rw [h w (Nat.le_refl w) (by omega)]; decide)]
    exact wdF_no k (w + 1) (fun j h1 h2 => h j (by omega) (by omega))
