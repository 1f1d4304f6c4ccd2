def nb (x : Int32) (lo hi : Nat) : Prop := ∃ v : Nat, x = nI v ∧ lo ≤ v ∧ v ≤ hi
def inC (p : Pl) (x : Int32) : Prop := ∃ v m : Nat, x = nI v ∧ p.D 0 0 = nI m ∧ v < m ∧ m ≤ 12
def wkO (p : Pl) (j : Nat) : Prop := nb (p.D 5 j) 1 30 ∧ nb (p.D 6 j) 1 9 ∧ nb (p.D 7 j) 0 60 ∧ (p.D 8 j = 1 ∨ p.D 8 j = -1 ∨ (p.D 8 j = 0 ∧ p.hc = true ∧ inC p (p.D 9 j)))
/-- what a plan's text may tell -/
def plOk (p : Pl) : Prop := (∃ m : Nat, p.D 0 0 = nI m ∧ 2 ≤ m ∧ m ≤ 12) ∧ (nb (p.D 0 1) 0 9 ∧ nb (p.D 0 2) 0 9 ∧ nb (p.D 0 3) 0 99 ∧ nb (p.D 0 4) 0 9 ∧ nb (p.D 0 5) 0 9999 ∧ nb (p.D 0 10) 0 99 ∧ nb (p.D 0 11) 0 99999) ∧ (∀ j, j < p.ct 0 → wkO p j) ∧ (∀ j, j < p.ct 1 → p.hc = true ∧ inC p (p.D 10 j) ∧ nb (p.D 11 j) 1 99) ∧ (∀ j, j < p.ct 2 → p.hc = true ∧ inC p (p.D 12 j) ∧ nb (p.D 13 j) 1 9999)
theorem p0_ok : plOk p0 := ⟨⟨8, rfl, by decide, by decide⟩, ⟨⟨4, rfl, by decide, by decide⟩, ⟨4, rfl, by decide, by decide⟩, ⟨5, rfl, by decide, by decide⟩, ⟨0, rfl, by decide, by decide⟩, ⟨0, rfl, by decide, by decide⟩, ⟨0, rfl, by decide, by decide⟩, ⟨0, rfl, by decide, by decide⟩⟩, fun j hj => absurd hj (Nat.not_lt_zero j), fun j hj => absurd hj (Nat.not_lt_zero j), fun j hj => absurd hj (Nat.not_lt_zero j)⟩
theorem nmQ_0 {kd nv : Nat → Int32} {lo hi : Int32} {i : Nat} (h : nmQ kd nv lo hi i = 0) : lo ≤ nv i ∧ nv i ≤ hi := by
  unfold nmQ at h
  by_cases e : kd i = 38
  · rw [if_pos e] at h
    by_cases g : nv i < lo ∨ hi < nv i
    · rw [if_pos g] at h; exact absurd h (by decide)
    · exact ⟨Int32.not_lt.mp (fun x => g (Or.inl x)), Int32.not_lt.mp (fun x => g (Or.inr x))⟩
  · rw [if_neg e] at h; exact absurd h (by decide)
theorem nb_of {x : Int32} {lo hi : Nat} (hl : lo < 100) (hh : hi < 100000) (h : nI lo ≤ x ∧ x ≤ nI hi) : nb x lo hi := by
  obtain ⟨m, m1, m2⟩ := nI_of (x := x) (fun g => absurd (Int32.le_trans ((nI_leI (a := 0) (b := lo) (by decide) (by omega)).mpr (Nat.zero_le lo)) h.1) (Int32.not_le.mpr g))
  exact ⟨m, m2, (nI_leI (a := lo) (b := m) (by omega) m1).mp (by rw [← m2]; exact h.1), (nI_leI (a := m) (b := hi) m1 (by omega)).mp (by rw [← m2]; exact h.2)⟩
theorem qK_2 {q : Int32} {i : Nat} {r : Rs} {x : Pl × Nat} (h : qK q i r = .inl x) : q = 0 ∧ r = .inl x := by
  unfold qK at h
  by_cases g : q = 0
  · rw [if_pos g] at h; exact ⟨g, h⟩
  · rw [if_neg g] at h; cases h
theorem ite_2 {c : Prop} {d : Decidable c} {q : Int32 × Nat} {b : Rs} {x : Pl × Nat} (h : (@ite Rs c d (.inr q) b) = .inl x) : ¬ c ∧ b = .inl x := by
  by_cases g : c
  · rw [if_pos g] at h; cases h
  · rw [if_neg g] at h; exact ⟨g, h⟩
theorem inC_of {p : Pl} {x : Int32} (hm : ∃ m : Nat, p.D 0 0 = nI m ∧ 2 ≤ m ∧ m ≤ 12) (h : 0 ≤ x ∧ x ≤ p.D 0 0 - 1) : inC p x := by
  obtain ⟨m, e, h1, h2⟩ := hm
  rw [e, nI_sub1 (by omega)] at h
  obtain ⟨v, v1, v2, v3⟩ := nb_of (lo := 0) (hi := m - 1) (by decide) (by omega) h
  exact ⟨v, m, v1, e, by omega, h2⟩
/-- the same, other rows and numbers -/
theorem plOk.mv {p p2 : Pl} (h : plOk p) (h0 : p2.D 0 0 = p.D 0 0) (hn : nb (p2.D 0 1) 0 9 ∧ nb (p2.D 0 2) 0 9 ∧ nb (p2.D 0 3) 0 99 ∧ nb (p2.D 0 4) 0 9 ∧ nb (p2.D 0 5) 0 9999 ∧ nb (p2.D 0 10) 0 99 ∧ nb (p2.D 0 11) 0 99999) (hr : ∀ r, 5 ≤ r → p2.D r = p.D r) (hc : p2.ct 0 = p.ct 0 ∧ p2.ct 1 = p.ct 1 ∧ p2.ct 2 = p.ct 2) (hh : p2.hc = p.hc) : plOk p2 := by
  obtain ⟨g1, g2, g3, g4, g5⟩ := h
  have hi : ∀ x, inC p x → inC p2 x := fun x ⟨v, m, a1, a2, a3, a4⟩ => ⟨v, m, a1, h0.trans a2, a3, a4⟩
  refine ⟨by rw [h0]; exact g1, hn, fun j hj => ?_, fun j hj => ?_, fun j hj => ?_⟩
  · obtain ⟨a1, a2, a3, a4⟩ := g3 j (by rw [← hc.1]; exact hj)
    unfold wkO
    rw [hr 5 (by decide), hr 6 (by decide), hr 7 (by decide), hr 8 (by decide), hr 9 (by decide), hh]
    exact ⟨a1, a2, a3, a4.imp id (Or.imp id (fun g => ⟨g.1, g.2.1, hi _ g.2.2⟩))⟩
  · obtain ⟨a1, a2, a3⟩ := g4 j (by rw [← hc.2.1]; exact hj)
    rw [hr 10 (by decide), hr 11 (by decide), hh]; exact ⟨a1, hi _ a2, a3⟩
  · obtain ⟨a1, a2, a3⟩ := g5 j (by rw [← hc.2.2]; exact hj)
    rw [hr 12 (by decide), hr 13 (by decide), hh]; exact ⟨a1, hi _ a2, a3⟩
theorem inC_d {p p2 : Pl} {x : Int32} (h0 : p2.D 0 0 = p.D 0 0) (h : inC p x) : inC p2 x := by
  obtain ⟨v, m, a1, a2, a3, a4⟩ := h
  exact ⟨v, m, a1, h0.trans a2, a3, a4⟩
theorem addW_ok {p : Pl} {na wt bt fr wy sy : Int32} {hc : Bool} (h : plOk p) (hhc : p.hc = true → hc = true) (h1 : nb wt 1 30) (h2 : nb bt 1 9) (h3 : nb fr 0 60) (h4 : wy = 1 ∨ wy = -1 ∨ (wy = 0 ∧ hc = true ∧ inC p sy)) : plOk (addW p na wt bt fr wy sy hc) := by
  obtain ⟨g1, g2, g3, g4, g5⟩ := h
  refine ⟨g1, g2, fun j hj => ?_, fun j hj => ?_, fun j hj => ?_⟩
  · have hj2 : j < p.ct 0 + 1 := hj
    by_cases e : j = p.ct 0
    · subst e
      have e5 : (addW p na wt bt fr wy sy hc).D 5 (p.ct 0) = wt := pk_us
      have e6 : (addW p na wt bt fr wy sy hc).D 6 (p.ct 0) = bt := pk_us
      have e7 : (addW p na wt bt fr wy sy hc).D 7 (p.ct 0) = fr := pk_us
      have e8 : (addW p na wt bt fr wy sy hc).D 8 (p.ct 0) = wy := pk_us
      have e9 : (addW p na wt bt fr wy sy hc).D 9 (p.ct 0) = sy := pk_us
      unfold wkO
      rw [e5, e6, e7, e8, e9]
      exact ⟨h1, h2, h3, h4.imp id (Or.imp id (fun g => ⟨g.1, g.2.1, inC_d rfl g.2.2⟩))⟩
    · have e5 : (addW p na wt bt fr wy sy hc).D 5 j = p.D 5 j := pk_un e
      have e6 : (addW p na wt bt fr wy sy hc).D 6 j = p.D 6 j := pk_un e
      have e7 : (addW p na wt bt fr wy sy hc).D 7 j = p.D 7 j := pk_un e
      have e8 : (addW p na wt bt fr wy sy hc).D 8 j = p.D 8 j := pk_un e
      have e9 : (addW p na wt bt fr wy sy hc).D 9 j = p.D 9 j := pk_un e
      obtain ⟨a1, a2, a3, a4⟩ := g3 j (by omega)
      unfold wkO
      rw [e5, e6, e7, e8, e9]
      exact ⟨a1, a2, a3, a4.imp id (Or.imp id (fun g => ⟨g.1, hhc g.2.1, inC_d rfl g.2.2⟩))⟩
  · obtain ⟨a1, a2, a3⟩ := g4 j hj
    exact ⟨hhc a1, inC_d rfl a2, a3⟩
  · obtain ⟨a1, a2, a3⟩ := g5 j hj
    exact ⟨hhc a1, inC_d rfl a2, a3⟩
theorem wk_t {p p2 : Pl} {j : Nat} (h : wkO p j) (h0 : p2.D 0 0 = p.D 0 0) (h5 : p2.D 5 j = p.D 5 j ∧ p2.D 6 j = p.D 6 j ∧ p2.D 7 j = p.D 7 j ∧ p2.D 8 j = p.D 8 j ∧ p2.D 9 j = p.D 9 j) (hh : p2.hc = true) : wkO p2 j := by
  obtain ⟨a1, a2, a3, a4⟩ := h
  unfold wkO
  rw [h5.1, h5.2.1, h5.2.2.1, h5.2.2.2.1, h5.2.2.2.2]
  exact ⟨a1, a2, a3, a4.imp id (Or.imp id (fun g => ⟨g.1, hh, inC_d h0 g.2.2⟩))⟩
theorem addF_ok {p : Pl} {na ce ca : Int32} (h : plOk p) (h1 : inC p ce) (h2 : nb ca 1 99) : plOk (addF p na ce ca) := by
  obtain ⟨g1, g2, g3, g4, g5⟩ := h
  refine ⟨g1, g2, fun j hj => wk_t (g3 j hj) rfl ⟨rfl, rfl, rfl, rfl, rfl⟩ rfl, fun j hj => ⟨rfl, ?_⟩, fun j hj => ⟨rfl, inC_d rfl (g5 j hj).2.1, (g5 j hj).2.2⟩⟩
  have hj2 : j < p.ct 1 + 1 := hj
  by_cases e : j = p.ct 1
  · subst e
    rw [show (addF p na ce ca).D 10 (p.ct 1) = ce from pk_us, show (addF p na ce ca).D 11 (p.ct 1) = ca from pk_us]
    exact ⟨inC_d rfl h1, h2⟩
  · rw [show (addF p na ce ca).D 10 j = p.D 10 j from pk_un e, show (addF p na ce ca).D 11 j = p.D 11 j from pk_un e]
    obtain ⟨_, a2, a3⟩ := g4 j (by omega)
    exact ⟨inC_d rfl a2, a3⟩
theorem addZ_ok {p : Pl} {na ce ca : Int32} (h : plOk p) (h1 : inC p ce) (h2 : nb ca 1 9999) : plOk (addZ p na ce ca) := by
  obtain ⟨g1, g2, g3, g4, g5⟩ := h
  refine ⟨g1, g2, fun j hj => wk_t (g3 j hj) rfl ⟨rfl, rfl, rfl, rfl, rfl⟩ rfl, fun j hj => ⟨rfl, inC_d rfl (g4 j hj).2.1, (g4 j hj).2.2⟩, fun j hj => ⟨rfl, ?_⟩⟩
  have hj2 : j < p.ct 2 + 1 := hj
  by_cases e : j = p.ct 2
  · subst e
    rw [show (addZ p na ce ca).D 12 (p.ct 2) = ce from pk_us, show (addZ p na ce ca).D 13 (p.ct 2) = ca from pk_us]
    exact ⟨inC_d rfl h1, h2⟩
  · rw [show (addZ p na ce ca).D 12 j = p.D 12 j from pk_un e, show (addZ p na ce ca).D 13 j = p.D 13 j from pk_un e]
    obtain ⟨_, a2, a3⟩ := g5 j (by omega)
    exact ⟨inC_d rfl a2, a3⟩
theorem mR_ok {kd nv : Nat → Int32} {nx : Nat → Nat} {i c : Nat} {g : Nat × Nat × List Int32 → Pl} {p2 : Pl} {j : Nat} (hg : ∀ x, plOk (g x)) (h : Sum.elim (fun x => (.inl (g x, x.1) : Rs)) .inr (mRes kd nv nx i c) = .inl (p2, j)) : plOk p2 := by
  cases e : mRes kd nv nx i c with
  | inl x => rw [e] at h; cases h; exact hg x
  | inr x => rw [e] at h; cases h
theorem lnC_ok {kd nv : Nat → Int32} {nx : Nat → Nat} {p p2 : Pl} {i j : Nat} (hp : plOk p) (h : lnC kd nv nx p i = .inl (p2, j)) : plOk p2 := by
  unfold lnC at h
  split at h
  · have ⟨_, g⟩ := ite_2 h
    have ⟨hc, g⟩ := ite_2 g
    have ⟨q0, g⟩ := qK_2 g
    have ⟨q1, g⟩ := qK_2 g
    have ⟨q2, g⟩ := qK_2 g
    cases g
    obtain ⟨a1, a2, a3, a4, a5⟩ := hp
    obtain ⟨m, m1, m2, m3⟩ := nb_of (lo := 2) (hi := 12) (by decide) (by decide) (nmQ_0 q0)
    have n1 := nb_of (x := nv (nx (nx i))) (lo := 0) (hi := 9) (by decide) (by decide) (nmQ_0 q1)
    have n2 := nb_of (x := nv (nx (nx (nx i)))) (lo := 0) (hi := 9) (by decide) (by decide) (nmQ_0 q2)
    refine ⟨⟨m, m1, m2, m3⟩, ⟨n1, n2, a2.2.2⟩, fun j hj => ?_, fun j hj => absurd (a4 j hj).1 hc, fun j hj => absurd (a5 j hj).1 hc⟩
    obtain ⟨b1, b2, b3, b4⟩ := a3 j hj
    exact ⟨b1, b2, b3, b4.imp id (Or.imp id (fun g => absurd g.2.1 hc))⟩
  split at h
  · have ⟨_, g⟩ := ite_2 h
    have ⟨q0, g2⟩ := qK_2 g
    cases g2
    have hn := hp.2.1
    refine hp.mv rfl ⟨?_, ?_, ?_, ?_, ?_, ?_, ?_⟩ (fun r hr => set2_o (by omega)) ⟨rfl, rfl, rfl⟩ rfl
    · exact hn.1
    · exact hn.2.1
    · show nb (set2 p.D 0 3 (nv (nx i)) 0 3) _ _; rw [set2_s]; exact nb_of (by decide) (by decide) (nmQ_0 q0)
    · exact hn.2.2.2.1
    · exact hn.2.2.2.2.1
    · exact hn.2.2.2.2.2.1
    · exact hn.2.2.2.2.2.2
  split at h
  · have ⟨_, g⟩ := ite_2 h
    have ⟨q0, g2⟩ := qK_2 g
    cases g2
    have hn := hp.2.1
    refine hp.mv rfl ⟨?_, ?_, ?_, ?_, ?_, ?_, ?_⟩ (fun r hr => set2_o (by omega)) ⟨rfl, rfl, rfl⟩ rfl
    · exact hn.1
    · exact hn.2.1
    · exact hn.2.2.1
    · show nb (set2 p.D 0 4 (nv (nx i)) 0 4) _ _; rw [set2_s]; exact nb_of (by decide) (by decide) (nmQ_0 q0)
    · exact hn.2.2.2.2.1
    · exact hn.2.2.2.2.2.1
    · exact hn.2.2.2.2.2.2
  split at h
  · have ⟨_, g⟩ := ite_2 h
    have ⟨q0, g2⟩ := qK_2 g
    cases g2
    have hn := hp.2.1
    refine hp.mv rfl ⟨?_, ?_, ?_, ?_, ?_, ?_, ?_⟩ (fun r hr => set2_o (by omega)) ⟨rfl, rfl, rfl⟩ rfl
    · exact hn.1
    · exact hn.2.1
    · exact hn.2.2.1
    · exact hn.2.2.2.1
    · show nb (set2 p.D 0 5 (nv (nx i)) 0 5) _ _; rw [set2_s]; exact nb_of (by decide) (by decide) (nmQ_0 q0)
    · exact hn.2.2.2.2.2.1
    · exact hn.2.2.2.2.2.2
  split at h
  · have ⟨_, g⟩ := ite_2 h
    have ⟨_, g⟩ := qK_2 g
    have ⟨q1, g⟩ := qK_2 g
    have ⟨q2, g⟩ := qK_2 g
    have ⟨q3, g⟩ := qK_2 g
    have n1 := nb_of (lo := 1) (hi := 30) (by decide) (by decide) (nmQ_0 q1)
    have n2 := nb_of (lo := 1) (hi := 9) (by decide) (by decide) (nmQ_0 q2)
    have n3 := nb_of (lo := 0) (hi := 60) (by decide) (by decide) (nmQ_0 q3)
    split at g
    · have ⟨q4, g⟩ := qK_2 g
      cases g
      exact addW_ok hp (fun _ => rfl) n1 n2 n3 (Or.inr (Or.inr ⟨rfl, rfl, inC_of hp.1 (nmQ_0 q4)⟩))
    · split at g
      · cases g
        refine addW_ok hp id n1 n2 n3 ?_
        split
        · exact Or.inr (Or.inl rfl)
        · exact Or.inl rfl
      · cases g
  split at h
  · have ⟨_, g⟩ := ite_2 h
    have ⟨_, g⟩ := qK_2 g
    have ⟨q1, g⟩ := qK_2 g
    split at g
    · have ⟨q2, g⟩ := qK_2 g
      cases g
      exact addF_ok hp (inC_of hp.1 (nmQ_0 q1)) (nb_of (by decide) (by decide) (nmQ_0 q2))
    · cases g
  split at h
  · have ⟨_, g⟩ := ite_2 h
    have ⟨_, g⟩ := qK_2 g
    have ⟨q1, g⟩ := qK_2 g
    have ⟨q2, g⟩ := qK_2 g
    cases g
    exact addZ_ok hp (inC_of hp.1 (nmQ_0 q1)) (nb_of (by decide) (by decide) (nmQ_0 q2))
  split at h
  · have ⟨_, g⟩ := ite_2 h
    have ⟨q0, g2⟩ := qK_2 g
    cases g2
    have hn := hp.2.1
    refine hp.mv rfl ⟨?_, ?_, ?_, ?_, ?_, ?_, ?_⟩ (fun r hr => set2_o (by omega)) ⟨rfl, rfl, rfl⟩ rfl
    · exact hn.1
    · exact hn.2.1
    · exact hn.2.2.1
    · exact hn.2.2.2.1
    · exact hn.2.2.2.2.1
    · show nb (set2 p.D 0 10 (nv (nx i)) 0 10) _ _; rw [set2_s]; exact nb_of (by decide) (by decide) (nmQ_0 q0)
    · exact hn.2.2.2.2.2.2
  split at h
  · have ⟨_, g⟩ := ite_2 h
    have ⟨q0, g2⟩ := qK_2 g
    cases g2
    have hn := hp.2.1
    refine hp.mv rfl ⟨?_, ?_, ?_, ?_, ?_, ?_, ?_⟩ (fun r hr => set2_o (by omega)) ⟨rfl, rfl, rfl⟩ rfl
    · exact hn.1
    · exact hn.2.1
    · exact hn.2.2.1
    · exact hn.2.2.2.1
    · exact hn.2.2.2.2.1
    · exact hn.2.2.2.2.2.1
    · show nb (set2 p.D 0 11 (nv (nx i)) 0 11) _ _; rw [set2_s]; exact nb_of (by decide) (by decide) (nmQ_0 q0)
  split at h
  · have ⟨_, g⟩ := ite_2 h
    have ⟨_, g⟩ := qK_2 g
    exact mR_ok (g := fun x => (set2 p.D 4 (p.ct 3) (nv (nx i)), setN p.ct 3 (p.ct 3 + 1), setL p.lw (2 + p.ct 3) x.2.2, x.2.1, p.tb, p.hc)) (fun x => hp.mv rfl hp.2.1 (fun r hr => set2_o (by omega)) ⟨rfl, rfl, rfl⟩ rfl) g
  split at h
  · unfold lnL at h
    split at h
    · have ⟨_, g⟩ := ite_2 h
      exact mR_ok (g := fun x => (p.D, p.ct, setL p.lw 0 x.2.2, x.2.1, setB p.tb 14 true, p.hc)) (fun x => hp.mv rfl hp.2.1 (fun r hr => rfl) ⟨rfl, rfl, rfl⟩ rfl) g
    · split at h
      · have ⟨_, g⟩ := ite_2 h
        exact mR_ok (g := fun x => (p.D, p.ct, setL p.lw 1 x.2.2, x.2.1, setB p.tb 15 true, p.hc)) (fun x => hp.mv rfl hp.2.1 (fun r hr => rfl) ⟨rfl, rfl, rfl⟩ rfl) g
      · cases h
  · cases h
theorem txF_ok {kd nv : Nat → Int32} {nx : Nat → Nat} : ∀ (k : Nat) {p p2 : Pl} {i m m2 : Nat}, plOk p → txF kd nv nx k p i m = .inl (p2, m2) → plOk p2
  | 0, _, _, _, _, _, _, h => by cases h
  | k + 1, p, p2, i, m, m2, hp, h => by
    unfold txF at h
    by_cases e : kd i = 40
    · rw [if_pos e] at h; cases h; exact hp
    · rw [if_neg e] at h
      cases g : lnF kd nv nx p i with
      | inr x => rw [g] at h; cases h
      | inl x =>
        rw [g] at h
        refine txF_ok k ?_ h
        unfold lnF at g
        cases g2 : lnC kd nv nx p i with
        | inr y => rw [g2] at g; cases g
        | inl y =>
          rw [g2] at g
          have g3 : (if kd y.2 = 37 then (.inl (y.1, nx y.2) : Rs) else .inr (1, y.2)) = .inl x := g
          by_cases e2 : kd y.2 = 37
          · rw [if_pos e2] at g3; cases g3; exact lnC_ok hp g2
          · rw [if_neg e2] at g3; cases g3
