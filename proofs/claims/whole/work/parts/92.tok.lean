def sgVs : List Int32 := [256, 257, 258, 60, 61, 62, 43, 45, 42, 47, 40, 41, 59]
/-- what a token may be -/
def TC (s v : Int32) : Prop := (s = 0 ∧ ∃ w : Nat, w < 25 ∧ v = nI w) ∨ s = 1 ∨ (s = 2 ∧ ¬ v < 0) ∨ (s = 3 ∧ v ∈ sgVs) ∨ s = 4 ∨ s = 5
theorem wdF_in {A : Nat → Bool} : ∀ (k w : Nat), ¬ wdF A k w = -1 → ∃ j : Nat, j < w + k ∧ wdF A k w = nI j
  | 0, w, h => absurd rfl h
  | k + 1, w, h => by
    unfold wdF at h ⊢
    by_cases hA : A w = true
    · rw [if_pos hA]; exact ⟨w, by omega, rfl⟩
    · rw [if_neg hA] at h ⊢
      obtain ⟨j, hj, e⟩ := wdF_in k (w + 1) h
      exact ⟨j, by omega, e⟩
theorem sgO_in {c h : Int32} (hs : sgO c = 3) : sgV c h ∈ sgVs := by
  unfold sgO at hs
  by_cases g : c = 59 ∨ c = 40 ∨ c = 41 ∨ c = 43 ∨ c = 45 ∨ c = 42 ∨ c = 47 ∨ c = 60 ∨ c = 61 ∨ c = 62
  · unfold sgV
    split
    · decide
    · split
      · decide
      · split
        · decide
        · rcases g with rfl | rfl | rfl | rfl | rfl | rfl | rfl | rfl | rfl | rfl <;> decide
  · rw [if_neg g] at hs; exact absurd hs (by decide)
theorem sgO_35 {c : Int32} : sgO c = 3 ∨ sgO c = 5 := by unfold sgO; split <;> first | exact Or.inl rfl | exact Or.inr rfl
theorem nI_nn {v : Nat} (h : v ≤ 1000000) : ¬ nI v < 0 := fun g => absurd ((nI_ltI (a := v) (b := 0) (by omega) (by decide)).mp g) (by omega)
theorem tkT_c {f : Nat → Int32} {n p : Nat} {v0 : Int32} : TC (tkT f n p v0).2.1 (tkT f n p v0).2.2 := by
  unfold tkT
  by_cases h : n ≤ p
  · rw [if_pos h]; exact Or.inr (Or.inr (Or.inr (Or.inr (Or.inl rfl))))
  · rw [if_neg h]
    by_cases h1 : isS (f p) = true
    · rw [if_pos h1]
      by_cases h2 : ¬ wdF (mtB f p (scN isS f (n - p) p)) 25 0 = -1
      · rw [if_pos h2]
        obtain ⟨j, hj, e⟩ := wdF_in 25 0 h2
        exact Or.inl ⟨rfl, j, by omega, e⟩
      · rw [if_neg h2]
        by_cases h3 : 6 < scN isS f (n - p) p - p
        · rw [if_pos h3]; exact Or.inr (Or.inr (Or.inr (Or.inr (Or.inr rfl))))
        · rw [if_neg h3]; exact Or.inr (Or.inl rfl)
    · rw [if_neg h1]
      by_cases h2 : isD (f p) = true
      · rw [if_pos h2]
        refine Or.inr (Or.inr (Or.inl ⟨rfl, ?_⟩))
        show ¬ nmR f p (scN isD f (n - p) p - p) < 0
        have hd := num_rel (f := f) (p := p) (scN isD f (n - p) p - p) (fun i hi => scN_in (n - p) p (p + i) (by omega) (by omega))
        rcases hd with ⟨v, h5, _, h6⟩ | ⟨v, u, _, h5, _, h6⟩
        · rw [h6]; exact nI_nn (by omega)
        · rw [h6]; exact nI_nn h5.2
      · rw [if_neg h2]
        rcases sgO_35 (c := f p) with e | e
        · exact Or.inr (Or.inr (Or.inr (Or.inl ⟨e, sgO_in e⟩)))
        · exact Or.inr (Or.inr (Or.inr (Or.inr (Or.inr e))))
theorem tkT_v {f : Nat → Int32} {n p : Nat} {v0 : Int32} : (n ≤ p ∧ (tkT f n p v0).2.1 = 4 ∧ (tkT f n p 0).2.1 = 4) ∨ (p < n ∧ tkT f n p v0 = tkT f n p 0) := by
  unfold tkT
  by_cases h : n ≤ p
  · rw [if_pos h, if_pos h]; exact Or.inl ⟨h, rfl, rfl⟩
  · rw [if_neg h, if_neg h]; exact Or.inr ⟨by omega, rfl⟩
/-- the kind and the value of the token that begins behind i -/
def kdF (f : Nat → Int32) (n i : Nat) : Int32 := kdT (tkT f n (tkP f n i) 0).2.1 (tkT f n (tkP f n i) 0).2.2
def nvF (f : Nat → Int32) (n i : Nat) : Int32 := (tkT f n (tkP f n i) 0).2.2
theorem kd_k {s v : Int32} (h : s = 4) : kdT s v = 40 := by rw [h]; rfl
theorem sgK_r : ∀ v ∈ sgVs, 25 ≤ sgK v ∧ sgK v ≤ 37 := by decide
theorem sgK_i : ∀ v ∈ sgVs, ∀ q ∈ sgVs, sgK v = sgK q → v = q := by decide
theorem nI_25 : ∀ w, w < 25 → nI w < 25 ∧ nI w ≤ 24 ∧ 0 ≤ nI w := by decide
theorem TC.r {s v : Int32} (h : TC s v) : (s = 0 ∧ kdT s v = v ∧ ∃ w : Nat, w < 25 ∧ v = nI w) ∨ (s = 1 ∧ kdT s v = 39) ∨ (s = 2 ∧ kdT s v = 38 ∧ ¬ v < 0) ∨ (s = 3 ∧ kdT s v = sgK v ∧ v ∈ sgVs) ∨ (s = 4 ∧ kdT s v = 40) ∨ (s = 5 ∧ kdT s v = 41) := by
  rcases h with ⟨rfl, w, hw, rfl⟩ | rfl | ⟨rfl, hv⟩ | ⟨rfl, hv⟩ | rfl | rfl
  · exact Or.inl ⟨rfl, rfl, w, hw, rfl⟩
  · exact Or.inr (Or.inl ⟨rfl, rfl⟩)
  · exact Or.inr (Or.inr (Or.inl ⟨rfl, rfl, hv⟩))
  · exact Or.inr (Or.inr (Or.inr (Or.inl ⟨rfl, rfl, hv⟩)))
  · exact Or.inr (Or.inr (Or.inr (Or.inr (Or.inl ⟨rfl, rfl⟩))))
  · exact Or.inr (Or.inr (Or.inr (Or.inr (Or.inr ⟨rfl, rfl⟩))))
theorem TC.w {s v : Int32} (h : TC s v) {w : Nat} (hw : w < 25) : (s = 0 ∧ v = nI w) ↔ kdT s v = nI w := by
  have h25 := (nI_25 w hw).1
  rcases h.r with ⟨rfl, e, _⟩ | ⟨rfl, e⟩ | ⟨rfl, e, _⟩ | ⟨rfl, e, hv⟩ | ⟨rfl, e⟩ | ⟨rfl, e⟩
  · rw [e]; exact ⟨fun g => g.2, fun g => ⟨rfl, g⟩⟩
  · rw [e]; exact ⟨fun g => absurd g.1 (by decide), fun g => by rw [← g] at h25; exact absurd h25 (by decide)⟩
  · rw [e]; exact ⟨fun g => absurd g.1 (by decide), fun g => by rw [← g] at h25; exact absurd h25 (by decide)⟩
  · rw [e]; exact ⟨fun g => absurd g.1 (by decide), fun g => by rw [← g] at h25; exact absurd h25 (Int32.not_lt.mpr (sgK_r v hv).1)⟩
  · rw [e]; exact ⟨fun g => absurd g.1 (by decide), fun g => by rw [← g] at h25; exact absurd h25 (by decide)⟩
  · rw [e]; exact ⟨fun g => absurd g.1 (by decide), fun g => by rw [← g] at h25; exact absurd h25 (by decide)⟩
theorem TC.g {s v q : Int32} (h : TC s v) (hq : q ∈ sgVs) : (s = 3 ∧ v = q) ↔ kdT s v = sgK q := by
  have h25 := sgK_r q hq
  rcases h.r with ⟨rfl, e, w, hw, rfl⟩ | ⟨rfl, e⟩ | ⟨rfl, e, _⟩ | ⟨rfl, e, hv⟩ | ⟨rfl, e⟩ | ⟨rfl, e⟩
  · rw [e]; exact ⟨fun g => absurd g.1 (by decide), fun g => by rw [← g] at h25; exact absurd (nI_25 w hw).1 (Int32.not_lt.mpr h25.1)⟩
  · rw [e]; exact ⟨fun g => absurd g.1 (by decide), fun g => by rw [← g] at h25; exact absurd h25.2 (by decide)⟩
  · rw [e]; exact ⟨fun g => absurd g.1 (by decide), fun g => by rw [← g] at h25; exact absurd h25.2 (by decide)⟩
  · rw [e]; exact ⟨fun g => by rw [g.2], fun g => ⟨rfl, sgK_i v hv q hq g⟩⟩
  · rw [e]; exact ⟨fun g => absurd g.1 (by decide), fun g => by rw [← g] at h25; exact absurd h25.2 (by decide)⟩
  · rw [e]; exact ⟨fun g => absurd g.1 (by decide), fun g => by rw [← g] at h25; exact absurd h25.2 (by decide)⟩
theorem TC.n {s v : Int32} (h : TC s v) : (s = 2 ↔ kdT s v = 38) ∧ (s = 1 ↔ kdT s v = 39) ∧ (s = 4 ↔ kdT s v = 40) ∧ (s = 2 → ¬ v < 0) := by
  rcases h.r with ⟨rfl, e, w, hw, rfl⟩ | ⟨rfl, e⟩ | ⟨rfl, e, hv⟩ | ⟨rfl, e, hv⟩ | ⟨rfl, e⟩ | ⟨rfl, e⟩
  · rw [e]
    have h25 := (nI_25 w hw).1
    exact ⟨⟨fun g => absurd g (by decide), fun g => by rw [g] at h25; exact absurd h25 (by decide)⟩, ⟨fun g => absurd g (by decide), fun g => by rw [g] at h25; exact absurd h25 (by decide)⟩, ⟨fun g => absurd g (by decide), fun g => by rw [g] at h25; exact absurd h25 (by decide)⟩, fun g => absurd g (by decide)⟩
  · rw [e]; exact ⟨by decide, by decide, by decide, fun g => absurd g (by decide)⟩
  · rw [e]; exact ⟨by decide, by decide, by decide, fun _ => hv⟩
  · rw [e]
    have h25 := (sgK_r v hv).2
    exact ⟨⟨fun g => absurd g (by decide), fun g => by rw [g] at h25; exact absurd h25 (by decide)⟩, ⟨fun g => absurd g (by decide), fun g => by rw [g] at h25; exact absurd h25 (by decide)⟩, ⟨fun g => absurd g (by decide), fun g => by rw [g] at h25; exact absurd h25 (by decide)⟩, fun g => absurd g (by decide)⟩
  · rw [e]; exact ⟨by decide, by decide, by decide, fun g => absurd g (by decide)⟩
  · rw [e]; exact ⟨by decide, by decide, by decide, fun g => absurd g (by decide)⟩
theorem b_w : ∀ w, w < 25 → ¬ bnd (nI w) = 4 ∧ ¬ bnd (nI w) = 5 ∧ ¬ bnd (nI w) = 6 ∧ (bnd (nI w) = 1 ↔ nI w = 16) ∧ (bnd (nI w) = 2 ↔ nI w = 17) ∧ ((19 ≤ nI w ∧ nI w ≤ 24) ↔ 19 ≤ nI w) := by decide
theorem b_g : ∀ v ∈ sgVs, ((v = 60 ∨ v = 62 ∨ v = 61 ∨ 256 ≤ v) ↔ bnd (sgK v) = 4) ∧ ((v = 43 ∨ v = 45) ↔ bnd (sgK v) = 5) ∧ ((v = 42 ∨ v = 47) ↔ bnd (sgK v) = 6) ∧ ¬ bnd (sgK v) = 1 ∧ ¬ bnd (sgK v) = 2 ∧ ¬ (19 ≤ sgK v ∧ sgK v ≤ 24) ∧ (¬ bnd (sgK v) = 0 → (sgK v, v) ∈ sgT) := by decide
/-- what binds, told of the reference's token -/
theorem TC.b {s v : Int32} (h : TC s v) : ((s = 3 ∧ (v = 60 ∨ v = 62 ∨ v = 61 ∨ 256 ≤ v)) ↔ bnd (kdT s v) = 4) ∧ ((s = 3 ∧ (v = 43 ∨ v = 45)) ↔ bnd (kdT s v) = 5) ∧ ((s = 3 ∧ (v = 42 ∨ v = 47)) ↔ bnd (kdT s v) = 6) ∧ ((s = 0 ∧ v = 16) ↔ bnd (kdT s v) = 1) ∧ ((s = 0 ∧ v = 17) ↔ bnd (kdT s v) = 2) ∧ ((s = 0 ∧ 19 ≤ v) ↔ (19 ≤ kdT s v ∧ kdT s v ≤ 24)) ∧ (s = 3 → ¬ bnd (kdT s v) = 0 → (kdT s v, v) ∈ sgT) := by
  rcases h.r with ⟨rfl, e, w, hw, rfl⟩ | ⟨rfl, e⟩ | ⟨rfl, e, hv⟩ | ⟨rfl, e, hv⟩ | ⟨rfl, e⟩ | ⟨rfl, e⟩
  · rw [e]
    obtain ⟨a4, a5, a6, a1, a2, a7⟩ := b_w w hw
    exact ⟨⟨fun g => absurd g.1 (by decide), fun g => absurd g a4⟩, ⟨fun g => absurd g.1 (by decide), fun g => absurd g a5⟩, ⟨fun g => absurd g.1 (by decide), fun g => absurd g a6⟩, ⟨fun g => a1.mpr g.2, fun g => ⟨rfl, a1.mp g⟩⟩, ⟨fun g => a2.mpr g.2, fun g => ⟨rfl, a2.mp g⟩⟩, ⟨fun g => a7.mpr g.2, fun g => ⟨rfl, g.1⟩⟩, fun g => absurd g (by decide)⟩
  · rw [e]; exact ⟨⟨fun g => absurd g.1 (by decide), fun g => absurd g (by decide)⟩, ⟨fun g => absurd g.1 (by decide), fun g => absurd g (by decide)⟩, ⟨fun g => absurd g.1 (by decide), fun g => absurd g (by decide)⟩, ⟨fun g => absurd g.1 (by decide), fun g => absurd g (by decide)⟩, ⟨fun g => absurd g.1 (by decide), fun g => absurd g (by decide)⟩, ⟨fun g => absurd g.1 (by decide), fun g => absurd g (by decide)⟩, fun g => absurd g (by decide)⟩
  · rw [e]; exact ⟨⟨fun g => absurd g.1 (by decide), fun g => absurd g (by decide)⟩, ⟨fun g => absurd g.1 (by decide), fun g => absurd g (by decide)⟩, ⟨fun g => absurd g.1 (by decide), fun g => absurd g (by decide)⟩, ⟨fun g => absurd g.1 (by decide), fun g => absurd g (by decide)⟩, ⟨fun g => absurd g.1 (by decide), fun g => absurd g (by decide)⟩, ⟨fun g => absurd g.1 (by decide), fun g => absurd g (by decide)⟩, fun g => absurd g (by decide)⟩
  · rw [e]
    obtain ⟨a4, a5, a6, a1, a2, a7, a8⟩ := b_g v hv
    exact ⟨⟨fun g => a4.mp g.2, fun g => ⟨rfl, a4.mpr g⟩⟩, ⟨fun g => a5.mp g.2, fun g => ⟨rfl, a5.mpr g⟩⟩, ⟨fun g => a6.mp g.2, fun g => ⟨rfl, a6.mpr g⟩⟩, ⟨fun g => absurd g.1 (by decide), fun g => absurd g a1⟩, ⟨fun g => absurd g.1 (by decide), fun g => absurd g a2⟩, ⟨fun g => absurd g.1 (by decide), fun g => absurd g a7⟩, fun _ => a8⟩
  · rw [e]; exact ⟨⟨fun g => absurd g.1 (by decide), fun g => absurd g (by decide)⟩, ⟨fun g => absurd g.1 (by decide), fun g => absurd g (by decide)⟩, ⟨fun g => absurd g.1 (by decide), fun g => absurd g (by decide)⟩, ⟨fun g => absurd g.1 (by decide), fun g => absurd g (by decide)⟩, ⟨fun g => absurd g.1 (by decide), fun g => absurd g (by decide)⟩, ⟨fun g => absurd g.1 (by decide), fun g => absurd g (by decide)⟩, fun g => absurd g (by decide)⟩
  · rw [e]; exact ⟨⟨fun g => absurd g.1 (by decide), fun g => absurd g (by decide)⟩, ⟨fun g => absurd g.1 (by decide), fun g => absurd g (by decide)⟩, ⟨fun g => absurd g.1 (by decide), fun g => absurd g (by decide)⟩, ⟨fun g => absurd g.1 (by decide), fun g => absurd g (by decide)⟩, ⟨fun g => absurd g.1 (by decide), fun g => absurd g (by decide)⟩, ⟨fun g => absurd g.1 (by decide), fun g => absurd g (by decide)⟩, fun g => absurd g (by decide)⟩
/-- the token at hand -/
theorem RD.tc {M : Mm} {n i : Nat} (h : RD M n i) : TC (M.1 149 27) (M.1 149 28) ∧ kdT (M.1 149 27) (M.1 149 28) = kdF (M.1 150) n i ∧ (¬ kdF (M.1 150) n i = 40 → M.1 149 28 = nvF (M.1 150) n i) := by
  obtain ⟨_, _, _, _, _, v0, h1, h2⟩ := h
  rw [h1, h2]
  refine ⟨tkT_c, ?_⟩
  unfold kdF nvF
  rcases tkT_v (f := M.1 150) (n := n) (p := tkP (M.1 150) n i) (v0 := v0) with ⟨_, e1, e2⟩ | ⟨_, e⟩
  · exact ⟨(kd_k e1).trans (kd_k e2).symm, fun g => absurd (kd_k e2) g⟩
  · rw [e]; exact ⟨rfl, fun _ => rfl⟩
theorem kdF_lt {f : Nat → Int32} {n i : Nat} (h : ¬ kdF f n i = 40) : tkP f n i < n := by
  refine Nat.lt_of_not_le (fun g => h (kd_k ?_))
  unfold tkT; rw [if_pos g]
theorem nx_mono {f : Nat → Int32} {n : Nat} (hb : byA f n) (x : Nat) : x ≤ nx f n x := by
  by_cases h : x ≤ n
  · have h1 := tkP_le (f := f) h
    have h2 := nx_le hb h
    by_cases g : tkP f n x < n
    · have := h2.2 g; omega
    · unfold nx tkT; rw [if_pos (by omega)]; exact h1.1
  · have e : tkP f n x = x := by unfold tkP; rw [show n - x = 0 by omega]; rfl
    unfold nx tkT; rw [e, if_pos (by omega)]; exact Nat.le_refl x
theorem nx_lt {f : Nat → Int32} {n i : Nat} (hb : byA f n) (hi : i ≤ n) (h : ¬ kdF f n i = 40) : i < nx f n i := (nx_le hb hi).2 (kdF_lt h)
