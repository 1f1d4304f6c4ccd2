theorem bindS {α β : Type} (f : α → Option β) (a : α) : (some a).bind f = f a := rfl
theorem arL_c {x : Int32} {e : List Int32} {d : Nat} (h : arL e = some d) : arL (x :: e) = arS x d := by
  show (arL e).bind (arS x) = arS x d
  rw [h]; exact bindS (arS x) d
theorem arL_K {E : Nat → Int32} : ∀ e : List Int32, lsR E e → arK E e.length = arL e
  | [], _ => rfl
  | x :: e, h => by
    show (arK E e.length).bind (arS (E e.length)) = (arL e).bind (arS x)
    rw [arL_K e h.2, h.1]
theorem arS_num {v : Int32} {d : Nat} (h : ¬ v < 0) : arS v d = some (d + 1) := by
  unfold arS
  have e : (-1) - v < 0 := by
    obtain ⟨j, hj, rfl⟩ := nI_of h
    rw [Int32.lt_iff_toInt_lt, Int32.toInt_sub]
    have h1 : (nI j).toInt = (j : Int) := by
      unfold nI; rw [Int32.toInt_ofNat_of_lt hj]
    rw [h1]
    show Int.bmod (-1 - (j : Int)) (2 ^ 32) < 0
    rw [Int.bmod_eq_of_le (by omega) (by omega)]
    omega
  rw [if_pos e]
theorem nI_rg {x : Int32} {a b : Nat} (hb : b < 100) (h : nI a ≤ x ∧ x ≤ nI b) : ∃ w : Nat, a ≤ w ∧ w ≤ b ∧ x = nI w ∨ ¬ a < 2 ^ 31 := by
  by_cases ha : a < 2 ^ 31
  · obtain ⟨m, m1, m2⟩ := nI_of (x := x) (fun g => absurd (Int32.le_trans ((nI_leI (a := 0) (b := a) (by decide) ha).mpr (Nat.zero_le a)) h.1) (Int32.not_le.mpr g))
    exact ⟨m, Or.inl ⟨(nI_leI (a := a) (b := m) ha m1).mp (by rw [← m2]; exact h.1), (nI_leI (a := m) (b := b) m1 (by omega)).mp (by rw [← m2]; exact h.2), m2⟩⟩
  · exact ⟨0, Or.inr ha⟩
theorem arS_name {x : Int32} {d : Nat} (h : 19 ≤ x ∧ x ≤ 24) : arS (-1 - x) d = some (d + 1) := by
  obtain ⟨w, ⟨w1, w2, rfl⟩ | hw⟩ := nI_rg (a := 19) (b := 24) (by decide) h
  · rcases (show w = 19 ∨ w = 20 ∨ w = 21 ∨ w = 22 ∨ w = 23 ∨ w = 24 by omega) with rfl | rfl | rfl | rfl | rfl | rfl <;> rfl
  · exact absurd (by decide) hw
theorem arS_bin2 {x : Int32} {d : Nat} (h0 : ¬ bnd x = 0) (h18 : ¬ x = 18) : arS (-1 - x) (d + 2) = some (d + 1) := by
  unfold bnd at h0
  by_cases a1 : x = 16
  · subst a1; exact (if_pos (Nat.le_add_left 2 d) : (if 2 ≤ d + 2 then some (d + 2 - 1) else none) = some (d + 2 - 1))
  by_cases a2 : x = 17
  · subst a2; exact (if_pos (Nat.le_add_left 2 d) : (if 2 ≤ d + 2 then some (d + 2 - 1) else none) = some (d + 2 - 1))
  by_cases a3 : x = 31
  · subst a3; exact (if_pos (Nat.le_add_left 2 d) : (if 2 ≤ d + 2 then some (d + 2 - 1) else none) = some (d + 2 - 1))
  by_cases a4 : x = 32
  · subst a4; exact (if_pos (Nat.le_add_left 2 d) : (if 2 ≤ d + 2 then some (d + 2 - 1) else none) = some (d + 2 - 1))
  by_cases a5 : x = 33
  · subst a5; exact (if_pos (Nat.le_add_left 2 d) : (if 2 ≤ d + 2 then some (d + 2 - 1) else none) = some (d + 2 - 1))
  by_cases a6 : x = 34
  · subst a6; exact (if_pos (Nat.le_add_left 2 d) : (if 2 ≤ d + 2 then some (d + 2 - 1) else none) = some (d + 2 - 1))
  rw [if_neg a1, if_neg a2, if_neg h18, if_neg a3, if_neg a4, if_neg a5, if_neg a6] at h0
  by_cases a7 : 25 ≤ x ∧ x ≤ 30
  · obtain ⟨w, ⟨w1, w2, rfl⟩ | hw⟩ := nI_rg (a := 25) (b := 30) (by decide) a7
    · rcases (show w = 25 ∨ w = 26 ∨ w = 27 ∨ w = 28 ∨ w = 29 ∨ w = 30 by omega) with rfl | rfl | rfl | rfl | rfl | rfl <;> exact (if_pos (Nat.le_add_left 2 d) : (if 2 ≤ d + 2 then some (d + 2 - 1) else none) = some (d + 2 - 1))
    · exact absurd (by decide) hw
  · rw [if_neg a7] at h0; exact absurd rfl h0
def ArM (L : Nat) (e : List Int32) (r : Dr) : Prop := ∀ j c2 e2, r = dOk j c2 e2 → ∀ d, (L < 10 → arL e = some d → arL e2 = some (d + 1)) ∧ (10 ≤ L → arL e = some (d + 1) → arL e2 = some (d + 1))
theorem bi_n {L : Nat} (hL : biL L) {x : Int32} (h : bnd x = nI L) : ¬ bnd x = 0 ∧ ¬ x = 18 := by
  refine ⟨by rw [h]; rcases hL with rfl | rfl | rfl | rfl <;> decide, fun e => ?_⟩
  have := (bnd_of x).2.2.2.2.2.1 e
  rw [h] at this
  rcases hL with rfl | rfl | rfl | rfl <;> exact absurd this (by decide)
theorem Dd.ar {kd nv : Nat → Int32} {nx : Nat → Nat} {L o i c : Nat} {e : List Int32} {r : Dr} (hnv : ∀ i, kd i = 38 → ¬ nv i < 0) (h : Dd kd nv nx L o i c e r) : ArM L e r := by
  refine h (fun L _ _ _ e r => ArM L e r) ⟨?_, ?_, ?_, ?_, ?_, ?_, ?_, ?_, ?_, ?_, ?_, ?_, ?_, ?_, ?_, ?_, ?_, ?_, ?_, ?_, ?_⟩
  · intro i c e h0
    intro j9 c9 e9 h9; cases h9
  · intro o i c e k j h0 h1 h2
    intro j9 c9 e9 h9; cases h9
  · intro o i c e j c2 e2 h0 h1 h2 h3
    intro j9 c9 e9 h9; cases h9
  · intro o i c e j c2 e2 h0 h1 h2 h3
    rintro j9 c9 e9 h9 d
    cases h9
    exact ⟨fun _ g => (h2 _ _ _ rfl d).1 (by decide) g, fun g => absurd g (by decide)⟩
  · intro o i c e h0 h1
    intro j9 c9 e9 h9; cases h9
  · intro o i c e h0 h1
    intro j9 c9 e9 h9; cases h9
  · intro o i c e h0 h1 h2
    rintro j9 c9 e9 h9 d
    cases h9
    refine ⟨fun _ g => ?_, fun g => absurd g (by decide)⟩
    rw [arL_c g]
    unfold leafV
    by_cases e38 : kd i = 38
    · rw [if_pos e38]; exact arS_num (hnv i e38)
    · rw [if_neg e38]; exact arS_name (h0.elim (fun g => absurd g e38) id)
  · intro L o i c e k j h0 h1
    intro j9 c9 e9 h9; cases h9
  · intro L o i c e j c2 e2 r h0 h1 h2
    rintro j9 c9 e9 h9 d
    have hl := nI_lev h0
    exact ⟨fun _ g => (h2 _ _ _ h9 d).2 (by omega) ((h1 _ _ _ rfl d).1 hl.2.2.2.2.1 g), fun g => absurd g (by have := hl.2.2.2.2.2.1; omega)⟩
  · intro L o i c e h0 h1
    rintro j9 c9 e9 h9 d
    cases h9
    exact ⟨fun g => absurd g (by omega), fun _ g => g⟩
  · intro L o i e h0 h1
    intro j9 c9 e9 h9; cases h9
  · intro L o i c e k j h0 h1 h2 h3
    intro j9 c9 e9 h9; cases h9
  · intro L o i c e j c2 e2 r h0 h1 h2 h3 h4
    rintro j9 c9 e9 h9 d
    refine ⟨fun g => absurd g (by omega), fun hg g => (h4 _ _ _ h9 d).2 hg ?_⟩
    have h5 := (h3 _ _ _ rfl (d + 1)).1 (nI_lev h0).2.2.2.2.1 g
    have hb := bi_n h0 h1
    rw [arL_c h5]
    exact arS_bin2 hb.1 hb.2
  · intro o i e h0
    intro j9 c9 e9 h9; cases h9
  · intro o i c e k j h0 h1 h2
    intro j9 c9 e9 h9; cases h9
  · intro o i c e j c2 e2 h0 h1 h2
    rintro j9 c9 e9 h9 d
    cases h9
    refine ⟨fun _ g => ?_, fun g => absurd g (by decide)⟩
    have h5 := (h2 _ _ _ rfl d).1 (by decide) g
    rw [arL_c h5]
    exact (if_pos (Nat.le_add_left 1 d) : (if 1 ≤ d + 1 then some (d + 1) else none) = some (d + 1))
  · intro o i c e k j h0 h1
    intro j9 c9 e9 h9; cases h9
  · intro o i c e j c2 e2 h0 h1 h2
    rintro j9 c9 e9 h9 d
    cases h9
    exact ⟨fun _ g => (h1 _ _ _ rfl d).1 (by decide) g, fun g => absurd g (by decide)⟩
  · intro o i c e j e2 h0 h1 h2
    intro j9 c9 e9 h9; cases h9
  · intro o i c e j c2 e2 k m h0 h1 h2 h3 h4
    intro j9 c9 e9 h9; cases h9
  · intro o i c e j c2 e2 m c3 e3 h0 h1 h2 h3 h4
    rintro j9 c9 e9 h9 d
    cases h9
    refine ⟨fun _ g => ?_, fun g => absurd g (by decide)⟩
    have h5 := (h1 _ _ _ rfl d).1 (by decide) g
    have h6 := (h4 _ _ _ rfl (d + 1)).1 (by decide) h5
    rw [arL_c h6]
    exact arS_bin2 (by rw [h2]; decide) (fun e => by have := (bnd_of (kd j)).2.2.2.2.2.1 e; rw [h2] at this; exact absurd this (by decide))
theorem nvF_nn {f : Nat → Int32} {n i : Nat} (h : kdF f n i = 38) : ¬ nvF f n i < 0 := (tkT_c (f := f) (n := n) (p := tkP f n i) (v0 := 0)).n.2.2.2 ((tkT_c (f := f) (n := n) (p := tkP f n i) (v0 := 0)).n.1.mpr h)
theorem Dd.ar1 {f : Nat → Int32} {n i c j c2 : Nat} {e : List Int32} (h : Dd (kdF f n) (nvF f n) (nx f n) 1 0 i c [] (dOk j c2 e)) : arL e = some 1 := (h.ar (fun i => nvF_nn) j c2 e rfl 0).1 (by decide) rfl
