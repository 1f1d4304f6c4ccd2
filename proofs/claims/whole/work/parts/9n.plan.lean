theorem gale_nz {x : Int32} (h : nb x 0 99) : ¬ 2 * x + 1 = 0 := by
  obtain ⟨v, rfl, _, hv⟩ := h
  exact (show ∀ v, v < 100 → ¬ 2 * nI v + 1 = 0 by decide) v (by omega)
/-- the rows of the class's walkers and laws, at the plan pl -/
def clW (I : Nat → Nat → Int32) (pl : Nat) : Wx := (I (pl + 8), I (pl + 9), I (pl + 10), I (pl + 11), I (pl + 12))
def clL (I : Nat → Nat → Int32) (pl : Nat) (p : Pl) (k : Nat) : (Nat → Int32) × Nat := (I (pl + laO k + 1), (p.lw k).length)
theorem plE_of {M : Mm} {pl n : Nat} {p : Pl} (hC : CPl M pl p) (hR : RLo M.1 p) (hct : ctOk p) (hok : plOk p) (hn : p.D 0 0 = nI n) (hn12 : n ≤ 12) : plE M.1 n (p.ct 0) (p.D 0 1, p.D 0 2, p.D 0 5, p.D 0 10) (p.D 0 4) (p.D 0 3) (clW M.1 pl) (clL M.1 pl p) := by
  obtain ⟨r1, r2, r3, r4, r5, _⟩ := hR
  obtain ⟨_, c2, c3, c4, c5⟩ := hC
  refine ⟨⟨(r1 0 (by decide)).trans hn, hn12⟩, ⟨r1 1 (by decide), r1 2 (by decide), r1 5 (by decide), r1 10 (by decide), gale_nz hok.2.1.2.2.2.2.2.1⟩, r1 4 (by decide), r1 3 (by decide), ⟨r2 0 (by decide), hct.1, fun w hw => ?_⟩, fun k hk => ?_⟩
  · obtain ⟨k1, k2, k3, k4⟩ := hok.2.2.1 w hw
    have e5 : M.1 (pl + 8) w = p.D 5 w := c4 5 (by decide) (by decide) w hw
    have e6 : M.1 (pl + 9) w = p.D 6 w := c4 6 (by decide) (by decide) w hw
    have e7 : M.1 (pl + 10) w = p.D 7 w := c4 7 (by decide) (by decide) w hw
    have e8 : M.1 (pl + 11) w = p.D 8 w := c4 8 (by decide) (by decide) w hw
    have e9 : M.1 (pl + 12) w = p.D 9 w := c4 9 (by decide) (by decide) w hw
    have f5 : M.1 153 w = p.D 5 w := r3 5 (by decide) (by decide) w hw (fun g => absurd g (by decide))
    have f6 : M.1 154 w = p.D 6 w := r3 6 (by decide) (by decide) w hw (fun g => absurd g (by decide))
    have f7 : M.1 155 w = p.D 7 w := r3 7 (by decide) (by decide) w hw (fun g => absurd g (by decide))
    have f8 : M.1 156 w = p.D 8 w := r3 8 (by decide) (by decide) w hw (fun g => absurd g (by decide))
    refine ⟨f5.trans e5.symm, f6.trans e6.symm, f7.trans e7.symm, f8.trans e8.symm, fun g => ?_, ?_, ?_⟩
    · exact (r3 9 (by decide) (by decide) w hw (fun _ => e8.symm.trans g)).trans e9.symm
    · obtain ⟨v, v1, v2, v3⟩ := k2
      exact ⟨v, v2, v3, e6.trans v1⟩
    · obtain ⟨v, v1, _, v3⟩ := k3
      exact ⟨v, v3, e7.trans v1⟩
  · obtain ⟨f0, a1, a2, a3, a4⟩ := r4 k hk
    have hls := (c5 k hk).2
    have hc64 : p.c ≤ 64 := hct.2.2.2.2.1
    refine ⟨f0, a1, a2, by show f0 + (p.lw k).length ≤ 64; omega, fun i hi => a4 _ hls i hi, ?_⟩
    rcases r5 k hk with e | e
    · left; show (p.lw k).length = 0; rw [e]; rfl
    · right; exact (arL_K _ hls).trans e
/-- what a class's plan is, told without the reading -/
theorem XS_of {ly : Ly} {M : Mm} {pl n : Nat} {p : Pl} (hX : XW ly M.2.2) (h03 : M.2.2 0 3 = some pl) (hp7 : pl = 7 ∨ pl = 41) (hC : CPl M pl p) (hct : ctOk p) (hok : plOk p) (hn : p.D 0 0 = nI n) (hn2 : 2 ≤ n ∧ n ≤ 12) (h75 : M.2.2 75 0 = some pl ∧ M.2.2 75 1 = some (pl + 7) ∧ M.2.2 75 2 = some (pl + 18) ∧ M.2.2 75 3 = some (pl + 21)) (hg : (M.1 75 16 = 0 ∨ M.1 75 16 = 1) ∧ (M.1 75 17 = 0 ∨ M.1 75 17 = 1)) (hl : (p.lw 0).length ≤ 64 ∧ (p.lw 1).length ≤ 64) : XS ly M pl n (p.ct 0) (p.lw 0).length (p.lw 1).length := by
  obtain ⟨c1, c2, c3, c4, c5⟩ := hC
  exact ⟨hX, h03, hp7, h75, ⟨c1.1.trans hn, hn2.1, hn2.2⟩, ⟨c2 0 (by decide), c3.1, hct.1⟩, ⟨(c5 0 (by decide)).1, hl.1, (c5 1 (by decide)).1, hl.2⟩, by rw [c1.2.2.2.2.2.2.1]; exact gale_nz hok.2.1.2.2.2.2.2.1, hg⟩
theorem cell_in {p : Pl} {x : Int32} (h : inC p x) : vp_in x 12 := by
  obtain ⟨v, m, rfl, _, h1, h2⟩ := h
  exact vp_in_nI (n := v) (by omega) (by decide)
/-- the cells of the fat ones that a text tells -/
theorem txF_cell {kd nv : Nat → Int32} {nx : Nat → Nat} {p2 : Pl} {m : Nat} (h : txF kd nv nx 701 p0 0 0 = .inl (p2, m)) : ∀ i, i < p2.ct 1 → vp_in (p2.D 10 i) 12 := fun i hi => cell_in ((txF_ok 701 p0_ok h).2.2.2.1 i hi).2.1
theorem RLo.len {I : Nat → Nat → Int32} {p : Pl} (h : RLo I p) (hct : ctOk p) {k : Nat} (hk : k < 5) : (p.lw k).length ≤ 64 := by
  obtain ⟨f0, _, _, a3, _⟩ := h.2.2.2.1 k hk
  have : p.c ≤ 64 := hct.2.2.2.2.1
  omega
