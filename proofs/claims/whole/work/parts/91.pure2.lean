theorem lfK_n {x : Int32} (h : lfK x) : ¬ x = 35 ∧ ¬ x = 18 := by
  rcases h with rfl | h
  · exact ⟨by decide, by decide⟩
  · exact ⟨fun e => absurd h.2 (by rw [e]; decide), fun e => absurd h.1 (by rw [e]; decide)⟩
theorem mst_op8 {kd nv : Nat → Int32} {nx : Nat → Nat} {i c op : Nat} {em wt : List Int32} {cb : Nat → Bool} {nt : Bool} (h : kd i = 35) (ho : op = 8) : mst kd nv nx (i, c, em, wt, op, cb, true, nt) = .inl (mNo 2 i) := (if_pos rfl).trans ((if_pos h).trans (if_pos ho))
theorem mst_op {kd nv : Nat → Int32} {nx : Nat → Nat} {i c op : Nat} {em wt : List Int32} {cb : Nat → Bool} {nt : Bool} (h : kd i = 35) (ho : ¬ op = 8) : mst kd nv nx (i, c, em, wt, op, cb, true, nt) = .inr (nx i, c, em, 35 :: wt, op + 1, setB cb (op + 1) false, true, true) := (if_pos rfl).trans ((if_pos h).trans (if_neg ho))
theorem mst_on {kd nv : Nat → Int32} {nx : Nat → Nat} {i c op : Nat} {em wt : List Int32} {cb : Nat → Bool} {nt : Bool} (h : ¬ kd i = 35) (h2 : ¬ lfK (kd i)) (h3 : ¬ (kd i = 18 ∧ nt = true)) : mst kd nv nx (i, c, em, wt, op, cb, true, nt) = .inl (mNo 1 i) := (if_pos rfl).trans ((if_neg h).trans (if_neg (fun g => g.elim h2 h3)))
theorem mst_ob {kd nv : Nat → Int32} {nx : Nat → Nat} {i c op : Nat} {em wt : List Int32} {cb : Nat → Bool} {nt : Bool} (h : lfK (kd i) ∨ (kd i = 18 ∧ nt = true)) (h2 : c = 64 ∨ bigN (kd i) (nv i)) : mst kd nv nx (i, c, em, wt, op, cb, true, nt) = .inl (mNo 2 i) := (if_pos rfl).trans ((if_neg (h.elim (fun g => (lfK_n g).1) (fun g e => absurd (g.1.symm.trans e) (by decide)))).trans ((if_pos h).trans (if_pos h2)))
theorem mst_nt {kd nv : Nat → Int32} {nx : Nat → Nat} {i c op : Nat} {em wt : List Int32} {cb : Nat → Bool} {nt : Bool} (h : kd i = 18) (hn : nt = true) (hc : c < 64) : mst kd nv nx (i, c, em, wt, op, cb, true, nt) = .inr (nx i, c + 1, em, 18 :: wt, op, cb, true, nt) := (if_pos rfl).trans ((if_neg (fun e => absurd (h.symm.trans e) (by decide))).trans ((if_pos (Or.inr ⟨h, hn⟩)).trans ((if_neg (fun g => g.elim (fun g => Nat.ne_of_lt hc g) (fun g => absurd (h.symm.trans g.1) (by decide)))).trans (if_pos h))))
theorem mst_lf {kd nv : Nat → Int32} {nx : Nat → Nat} {i c op : Nat} {em wt : List Int32} {cb : Nat → Bool} {nt : Bool} (h : lfK (kd i)) (hc : c < 64) (h2 : ¬ bigN (kd i) (nv i)) : mst kd nv nx (i, c, em, wt, op, cb, true, nt) = .inr (nx i, c + 1, leafV (kd i) (nv i) :: em, wt, op, cb, false, nt) := (if_pos rfl).trans ((if_neg (lfK_n h).1).trans ((if_pos (Or.inl h)).trans ((if_neg (fun g => g.elim (fun g => Nat.ne_of_lt hc g) h2)).trans (if_neg (lfK_n h).2))))
theorem mst_fin {kd nv : Nat → Int32} {nx : Nat → Nat} {i c op : Nat} {em wt : List Int32} {cb : Nat → Bool} {nt : Bool} (ho : op = 0) (h : kd i = 37) : mst kd nv nx (i, c, em, wt, op, cb, false, nt) = .inl (mFin i c (pdL 1 wt em).2) := (if_neg (show ¬ (false = true) by decide)).trans (if_pos ⟨ho, h⟩)
theorem mst_cl {kd nv : Nat → Int32} {nx : Nat → Nat} {i c op : Nat} {em wt : List Int32} {cb : Nat → Bool} {nt : Bool} (h : kd i = 36) (ho : 0 < op) : mst kd nv nx (i, c, em, wt, op, cb, false, nt) = .inr (nx i, c, (pdL 1 wt em).2, (pdL 1 wt em).1.tail, op - 1, cb, false, nt) := (if_neg (show ¬ (false = true) by decide)).trans ((if_neg (fun g => absurd (g.1 : op = 0) (by omega))).trans (if_pos ⟨h, ho⟩))
theorem mst_no {kd nv : Nat → Int32} {nx : Nat → Nat} {i c op : Nat} {em wt : List Int32} {cb : Nat → Bool} {nt : Bool} (h1 : ¬ (op = 0 ∧ kd i = 37)) (h2 : ¬ (kd i = 36 ∧ 0 < op)) (h3 : bnd (kd i) = 0 ∨ kd i = 18 ∨ (bnd (kd i) = 4 ∧ cb op = true)) : mst kd nv nx (i, c, em, wt, op, cb, false, nt) = .inl (mNo 1 i) := (if_neg (show ¬ (false = true) by decide)).trans ((if_neg h1).trans ((if_neg h2).trans (if_pos h3)))
theorem mst_nn {kd : Nat → Int32} {i op : Nat} (h0 : ¬ bnd (kd i) = 0) : ¬ (op = 0 ∧ kd i = 37) ∧ ¬ (kd i = 36 ∧ 0 < op) := ⟨fun g => h0 ((bnd_of _).2.2.2.2.2.2.2 g.2), fun g => h0 ((bnd_of _).2.2.2.2.2.2.1 g.1)⟩
theorem mst_64 {kd nv : Nat → Int32} {nx : Nat → Nat} {i c op : Nat} {em wt : List Int32} {cb : Nat → Bool} {nt : Bool} (h0 : ¬ bnd (kd i) = 0) (h8 : ¬ kd i = 18) (h4 : ¬ (bnd (kd i) = 4 ∧ cb op = true)) (hc : c = 64) : mst kd nv nx (i, c, em, wt, op, cb, false, nt) = .inl (mNo 2 i) := (if_neg (show ¬ (false = true) by decide)).trans ((if_neg (mst_nn (op := op) h0).1).trans ((if_neg (mst_nn (op := op) h0).2).trans ((if_neg (fun g => g.elim h0 (fun g => g.elim h8 h4))).trans (if_pos hc))))
theorem mst_sg {kd nv : Nat → Int32} {nx : Nat → Nat} {i c op : Nat} {em wt : List Int32} {cb : Nat → Bool} {nt : Bool} (h0 : ¬ bnd (kd i) = 0) (h8 : ¬ kd i = 18) (h4 : ¬ (bnd (kd i) = 4 ∧ cb op = true)) (hc : c < 64) : mst kd nv nx (i, c, em, wt, op, cb, false, nt) = .inr (nx i, c + 1, (pdL (bnd (kd i)) wt em).2, kd i :: (pdL (bnd (kd i)) wt em).1, op, (if bnd (kd i) = 4 then setB cb op true else if kd i = 17 ∨ kd i = 16 then setB cb op false else cb), true, decide (kd i = 17 ∨ kd i = 16)) := (if_neg (show ¬ (false = true) by decide)).trans ((if_neg (mst_nn (op := op) h0).1).trans ((if_neg (mst_nn (op := op) h0).2).trans ((if_neg (fun g => g.elim h0 (fun g => g.elim h8 h4))).trans (if_neg (show ¬ c = 64 by omega)))))
def tokC (kd : Nat → Int32) (L : Nat) (s : Ms) : Prop := (L ≤ 6 → ¬ bnd (kd s.i) = 6) ∧ (L ≤ 5 → ¬ bnd (kd s.i) = 5) ∧ (L ≤ 3 → bnd (kd s.i) = 4 → s.cb s.op = true) ∧ (L ≤ 2 → ¬ bnd (kd s.i) = 2) ∧ (L ≤ 1 → ¬ bnd (kd s.i) = 1)
def cbF (L : Nat) (s t : Ms) : Prop := ∀ j, j < s.op + (if L ≤ 3 then 0 else 1) → t.cb j = s.cb j
def stp (kd nv : Nat → Int32) (nx : Nat → Nat) (s t : Ms) : Prop := ∀ r, Mrun kd nv nx t r → Mrun kd nv nx s r
/-- how a level ends from the state s, the signs w0 waiting below it -/
def enP (kd nv : Nat → Int32) (nx : Nat → Nat) (L : Nat) (s : Ms) (w0 : List Int32) : Dr → Prop
  | .inl (j, c2, e2) => ∃ (t : Ms) (p : List Int32), stp kd nv nx s t ∧ t.i = j ∧ t.c = c2 ∧ e2 = pdA p t.em ∧ t.wt = p ++ w0 ∧ (∀ x ∈ p, nI L ≤ bnd x) ∧ t.due = false ∧ t.op = s.op ∧ cbF L s t ∧ tokC kd L t
  | .inr (k, j) => Mrun kd nv nx s (mNo k j)
def limL (L : Nat) : Nat := if L = 3 then 4 else L
/-- the machine does what the descent does -/
def Mot (kd nv : Nat → Int32) (nx : Nat → Nat) (L o i c : Nat) (e : List Int32) (r : Dr) : Prop :=
  (L < 10 → ∀ s : Ms, s.i = i → s.c = c → s.em = e → s.op = o → s.due = true → hdB s.wt (nI (limL L)) → (L ≤ 3 → s.nt = true ∧ s.cb s.op = false) → (4 < L → kd s.i = 18 → s.nt = false) → enP kd nv nx L s s.wt r) ∧
  (∀ m, L = 10 + m → ∀ (s : Ms) (p w0 : List Int32), s.i = i → s.c = c → s.due = false → s.op = o → s.wt = p ++ w0 → (∀ x ∈ p, nI m ≤ bnd x) → e = pdA p s.em → hdB w0 (nI m) → tokC kd (sbL m) s → enP kd nv nx m s w0 r)
theorem hdB_c {x : Int32} {w : List Int32} {b : Int32} (h : bnd x < b) : hdB (x :: w) b := fun y t e => by cases e; exact h
theorem hdB_le {w : List Int32} {a b : Int32} (h : hdB w a) (hab : a ≤ b) : hdB w b := fun y t e => Int32.lt_of_lt_of_le (h y t e) hab
theorem tok1 {kd : Nat → Int32} {s : Ms} (h : tokC kd 1 s) : bnd (kd s.i) = 0 ∨ kd s.i = 18 ∨ (bnd (kd s.i) = 4 ∧ s.cb s.op = true) := by
  obtain ⟨h6, h5, h4, h2, h1⟩ := h
  rcases (bnd_of (kd s.i)).1 with g | g | g | g | g | g | g
  · exact Or.inl g
  · exact absurd g (h1 (by decide))
  · exact absurd g (h2 (by decide))
  · exact Or.inr (Or.inl ((bnd_of _).2.1 g))
  · exact Or.inr (Or.inr ⟨g, h4 (by decide) g⟩)
  · exact absurd g (h5 (by decide))
  · exact absurd g (h6 (by decide))
theorem enP.pre {kd nv : Nat → Int32} {nx : Nat → Nat} {L : Nat} {s t : Ms} {w0 : List Int32} {r : Dr} (h : enP kd nv nx L t w0 r) (g : stp kd nv nx s t) (ho : t.op = s.op) (hcb : ∀ j, j < s.op + (if L ≤ 3 then 0 else 1) → t.cb j = s.cb j) : enP kd nv nx L s w0 r := by
  rcases r with ⟨j, c2, e2⟩ | ⟨k, j⟩
  · obtain ⟨u, p, a1, a2, a3, a4, a5, a6, a7, a8, a9, a10⟩ := h
    exact ⟨u, p, fun r hr => g r (a1 r hr), a2, a3, a4, a5, a6, a7, a8.trans ho, fun x hx => (a9 x (by rw [ho]; exact hx)).trans (hcb x hx), a10⟩
  · exact g _ h
theorem nI_lev {L : Nat} (hL : biL L) : nI L ≤ nI (sbL L) ∧ nI (limL L) ≤ nI (limL (sbL L)) ∧ nI L < nI (limL (sbL L)) ∧ limL L = L ∧ sbL L < 10 ∧ L < 10 ∧ (sbL L ≤ 3 ↔ L ≤ 3) ∧ L ≤ 6 := by
  rcases hL with rfl | rfl | rfl | rfl <;> decide
theorem tok_sb {kd : Nat → Int32} {L : Nat} {s : Ms} (hL : biL L) (h : tokC kd (sbL L) s) (hb : ¬ bnd (kd s.i) = nI L) : tokC kd L s := by
  obtain ⟨h6, h5, h4, h2, h1⟩ := h
  rcases hL with rfl | rfl | rfl | rfl
  · exact ⟨fun _ => h6 (by decide), fun _ => h5 (by decide), fun _ => h4 (by decide), fun _ => h2 (by decide), fun _ => hb⟩
  · exact ⟨fun _ => h6 (by decide), fun _ => h5 (by decide), fun _ => h4 (by decide), fun _ => hb, fun g => absurd g (by decide)⟩
  · exact ⟨fun _ => h6 (by decide), fun _ => hb, fun g => absurd g (by decide), fun g => absurd g (by decide), fun g => absurd g (by decide)⟩
  · exact ⟨fun _ => hb, fun g => absurd g (by decide), fun g => absurd g (by decide), fun g => absurd g (by decide), fun g => absurd g (by decide)⟩
/-- a sign of the level L at hand: the machine takes it -/
theorem lp_go {L : Nat} {kd nv : Nat → Int32} {nx : Nat → Nat} {i c op : Nat} {em wt : List Int32} {cb : Nat → Bool} {nt : Bool} {p w0 : List Int32} (hL : biL L) (hb : bnd (kd i) = nI L) (hc : c < 64) (hw : wt = p ++ w0) (hp : ∀ x ∈ p, nI L ≤ bnd x) (hd : hdB w0 (nI L)) : ∃ cb2 nt2, mst kd nv nx (i, c, em, wt, op, cb, false, nt) = .inr (nx i, c + 1, pdA p em, kd i :: w0, op, cb2, true, nt2) ∧ (∀ j, j < op + (if L ≤ 3 then 0 else 1) → cb2 j = cb j) ∧ (sbL L ≤ 3 → nt2 = true ∧ cb2 op = false) ∧ (4 < sbL L → nt2 = false) := by
  have hn0 : ¬ bnd (kd i) = 0 := by rw [hb]; rcases hL with rfl | rfl | rfl | rfl <;> decide
  have hn4 : ¬ bnd (kd i) = 4 := by rw [hb]; rcases hL with rfl | rfl | rfl | rfl <;> decide
  have hn18 : ¬ kd i = 18 := fun e => by have := (bnd_of (kd i)).2.2.2.2.2.1 e; rw [hb] at this; rcases hL with rfl | rfl | rfl | rfl <;> exact absurd this (by decide)
  refine ⟨_, _, (mst_sg hn0 hn18 (fun g => hn4 g.1) hc).trans (by rw [hb, hw, pdL_app p w0 em hp hd]), ?_, ?_, ?_⟩
  · intro j hj
    rw [if_neg (fun g => hn4 (hb.trans g))]
    by_cases h : kd i = 17 ∨ kd i = 16
    · rw [if_pos h]
      have h12 := (bnd_of (kd i)).2.2.2.2.1 h
      rw [hb] at h12
      have : L ≤ 3 := by rcases hL with rfl | rfl | rfl | rfl <;> first | decide | exact absurd h12 (by decide)
      rw [if_pos this] at hj
      exact if_neg (by omega)
    · rw [if_neg h]
  · intro h3
    have h : kd i = 17 ∨ kd i = 16 := by
      rcases hL with rfl | rfl | rfl | rfl
      · exact Or.inr ((bnd_of (kd i)).2.2.1 hb)
      · exact Or.inl ((bnd_of (kd i)).2.2.2.1 hb)
      · exact absurd h3 (by decide)
      · exact absurd h3 (by decide)
    rw [if_neg (fun g => hn4 (hb.trans g)), if_pos h]
    exact ⟨decide_eq_true h, if_pos rfl⟩
  · intro h3
    refine decide_eq_false (fun h => ?_)
    have h12 := (bnd_of (kd i)).2.2.2.2.1 h
    rw [hb] at h12
    rcases hL with rfl | rfl | rfl | rfl
    · exact absurd h3 (by decide)
    · exact absurd h3 (by decide)
    · exact absurd h12 (by decide)
    · exact absurd h12 (by decide)
theorem Dd.mot {kd nv : Nat → Int32} {nx : Nat → Nat} {L o i c : Nat} {e : List Int32} {r : Dr} (h : Dd kd nv nx L o i c e r) : Mot kd nv nx L o i c e r := by
  refine h (Mot kd nv nx) ⟨?_, ?_, ?_, ?_, ?_, ?_, ?_, ?_, ?_, ?_, ?_, ?_, ?_, ?_, ?_, ?_, ?_, ?_, ?_, ?_, ?_⟩
  · intro i c e h0
    refine ⟨?_, fun m g => absurd g (by omega)⟩
    rintro _ ⟨i2, c2', em, wt, op, cb, due, nt⟩ rfl rfl rfl ho rfl hd ht hnt
    exact Mrun.stop (mst_op8 h0 ho)
  · intro o i c e k j h0 h1 h2
    refine ⟨?_, fun m g => absurd g (by omega)⟩
    rintro _ ⟨i2, c2', em, wt, op, cb, due, nt⟩ rfl rfl rfl rfl rfl hd ht hnt
    have hs := h2.1 (by decide) (nx i2, c2', em, 35 :: wt, op + 1, setB cb (op + 1) false, true, true) rfl rfl rfl rfl rfl (hdB_c (by decide)) (fun _ => ⟨rfl, if_pos rfl⟩) (fun g => absurd g (by decide))
    exact Mrun.go (mst_op h1 (Nat.ne_of_lt h0)) hs
  · intro o i c e j c2 e2 h0 h1 h2 h3
    refine ⟨?_, fun m g => absurd g (by omega)⟩
    rintro _ ⟨i2, c2', em, wt, op, cb, due, nt⟩ rfl rfl rfl rfl rfl hd ht hnt
    have hs := h2.1 (by decide) (nx i2, c2', em, 35 :: wt, op + 1, setB cb (op + 1) false, true, true) rfl rfl rfl rfl rfl (hdB_c (by decide)) (fun _ => ⟨rfl, if_pos rfl⟩) (fun g => absurd g (by decide))
    obtain ⟨t, p, b1, b2, b3, b4, b5, b6, b7, b8, b9, b10⟩ := hs
    refine Mrun.go (mst_op h1 (Nat.ne_of_lt h0)) (b1 _ (Mrun.stop ?_))
    have hk := tok1 b10
    rcases t with ⟨i3, c3', em3, wt3, op3, cb3, due3, nt3⟩
    change i3 = j at b2; change due3 = false at b7; change op3 = op + 1 at b8
    subst b2; subst b7; subst b8
    exact mst_no (fun g => absurd g.1 (by omega)) (fun g => h3 g.1) hk
  · intro o i c e j c2 e2 h0 h1 h2 h3
    refine ⟨?_, fun m g => absurd g (by omega)⟩
    rintro _ ⟨i2, c2', em, wt, op, cb, due, nt⟩ rfl rfl rfl rfl rfl hd ht hnt
    have hs := h2.1 (by decide) (nx i2, c2', em, 35 :: wt, op + 1, setB cb (op + 1) false, true, true) rfl rfl rfl rfl rfl (hdB_c (by decide)) (fun _ => ⟨rfl, if_pos rfl⟩) (fun g => absurd g (by decide))
    obtain ⟨t, p, b1, b2, b3, b4, b5, b6, b7, b8, b9, b10⟩ := hs
    rcases t with ⟨i3, c3', em3, wt3, op3, cb3, due3, nt3⟩
    change i3 = j at b2; change c3' = c2 at b3; change e2 = pdA p em3 at b4; change wt3 = p ++ 35 :: wt at b5; change due3 = false at b7; change op3 = op + 1 at b8
    subst b2; subst b3; subst b4; subst b5; subst b7; subst b8
    have hcl := mst_cl (nv := nv) (nx := nx) (c := c3') (em := em3) (wt := p ++ 35 :: wt) (cb := cb3) (nt := nt3) (op := op + 1) h3 (by omega)
    rw [pdL_app (b := 1) p (35 :: wt) em3 b6 (hdB_c (by decide))] at hcl
    refine ⟨(nx i3, c3', pdA p em3, wt, op, cb3, false, nt3), [], fun r hr => Mrun.go (mst_op h1 (Nat.ne_of_lt h0)) (b1 _ (Mrun.go hcl hr)), rfl, rfl, rfl, rfl, fun x hx => absurd hx (by exact List.not_mem_nil), rfl, rfl, fun j hj => ?_, ⟨fun g => absurd g (by decide), fun g => absurd g (by decide), fun g => absurd g (by decide), fun g => absurd g (by decide), fun g => absurd g (by decide)⟩⟩
    exact (b9 j hj).trans (if_neg (Nat.ne_of_lt hj))
  · intro o i c e h0 h1
    refine ⟨?_, fun m g => absurd g (by omega)⟩
    rintro _ ⟨i2, c2', em, wt, op, cb, due, nt⟩ rfl rfl rfl rfl rfl hd ht hnt
    exact Mrun.stop (mst_on h0 h1 (fun g => Bool.noConfusion ((hnt (by decide) g.1).symm.trans g.2)))
  · intro o i c e h0 h1
    refine ⟨?_, fun m g => absurd g (by omega)⟩
    rintro _ ⟨i2, c2', em, wt, op, cb, due, nt⟩ rfl rfl rfl rfl rfl hd ht hnt
    exact Mrun.stop (mst_ob (Or.inl h0) h1)
  · intro o i c e h0 h1 h2
    refine ⟨?_, fun m g => absurd g (by omega)⟩
    rintro _ ⟨i2, c2', em, wt, op, cb, due, nt⟩ rfl rfl rfl rfl rfl hd ht hnt
    exact ⟨_, [], fun r hr => Mrun.go (mst_lf h0 h1 h2) hr, rfl, rfl, rfl, rfl, fun x hx => absurd hx (by exact List.not_mem_nil), rfl, rfl, fun j hj => rfl, ⟨fun g => absurd g (by decide), fun g => absurd g (by decide), fun g => absurd g (by decide), fun g => absurd g (by decide), fun g => absurd g (by decide)⟩⟩
  · intro L o i c e k j h0 h1
    have hl := nI_lev h0
    refine ⟨?_, fun m g => absurd g (by have := hl.2.2.2.2.2.1; omega)⟩
    intro hl10 s a1 a2 a3 a4 a5 a6 a7 a8
    exact h1.1 hl.2.2.2.2.1 s a1 a2 a3 a4 a5 (hdB_le a6 hl.2.1) (fun g => a7 (hl.2.2.2.2.2.2.1.mp g)) (fun g => a8 (by rcases h0 with rfl | rfl | rfl | rfl <;> first | exact absurd g (by decide) | decide))
  · intro L o i c e j c2 e2 r h0 h1 h2
    have hl := nI_lev h0
    refine ⟨?_, fun m g => absurd g (by have := hl.2.2.2.2.2.1; omega)⟩
    intro hl10 s a1 a2 a3 a4 a5 a6 a7 a8
    obtain ⟨t, p, b1, b2, b3, b4, b5, b6, b7, b8, b9, b10⟩ := h1.1 hl.2.2.2.2.1 s a1 a2 a3 a4 a5 (hdB_le a6 hl.2.1) (fun g => a7 (hl.2.2.2.2.2.2.1.mp g)) (fun g => a8 (by rcases h0 with rfl | rfl | rfl | rfl <;> first | exact absurd g (by decide) | decide))
    refine (h2.2 L rfl t p s.wt b2 b3 b7 (b8.trans a4) b5 (fun x hx => Int32.le_trans hl.1 (b6 x hx)) b4 (by rw [hl.2.2.2.1] at a6; exact a6) b10).pre b1 b8 (fun x hx => b9 x ?_)
    rw [show (if sbL L ≤ 3 then 0 else 1) = (if L ≤ 3 then 0 else 1) by simp only [hl.2.2.2.2.2.2.1]]
    exact hx
  · intro L o i c e h0 h1
    refine ⟨fun g => absurd g (by omega), ?_⟩
    intro m hm
    obtain rfl : L = m := by omega
    rintro ⟨i2, c2', em, wt, op, cb, due, nt⟩ p w0 rfl rfl rfl rfl hw hp he hd ht
    exact ⟨(i2, c2', em, wt, op, cb, false, nt), p, fun r hr => hr, rfl, rfl, he, hw, hp, rfl, rfl, fun _ _ => rfl, tok_sb h0 ht h1⟩
  · intro L o i e h0 h1
    refine ⟨fun g => absurd g (by omega), ?_⟩
    intro m hm
    obtain rfl : L = m := by omega
    rintro ⟨i2, c2', em, wt, op, cb, due, nt⟩ p w0 rfl a2 rfl rfl hw hp he hd ht
    have hn0 : ¬ bnd (kd i2) = 0 := by rw [h1]; rcases h0 with rfl | rfl | rfl | rfl <;> decide
    have hn4 : ¬ bnd (kd i2) = 4 := by rw [h1]; rcases h0 with rfl | rfl | rfl | rfl <;> decide
    have hn18 : ¬ kd i2 = 18 := fun e => by have := (bnd_of (kd i2)).2.2.2.2.2.1 e; rw [h1] at this; rcases h0 with rfl | rfl | rfl | rfl <;> exact absurd this (by decide)
    exact Mrun.stop (mst_64 hn0 hn18 (fun g => hn4 g.1) a2)
  · intro L o i c e k j h0 h1 h2 h3
    refine ⟨fun g => absurd g (by omega), ?_⟩
    intro m hm
    obtain rfl : L = m := by omega
    rintro ⟨i2, c2', em, wt, op, cb, due, nt⟩ p w0 rfl rfl rfl rfl hw hp he hd ht
    obtain ⟨cb2, nt2, g1, g2, g3, g4⟩ := lp_go (nv := nv) (nx := nx) (em := em) (op := op) (cb := cb) (nt := nt) h0 h1 h2 hw hp hd
    have hs := h3.1 (nI_lev h0).2.2.2.2.1 (nx i2, c2' + 1, pdA p em, kd i2 :: w0, op, cb2, true, nt2) rfl rfl he.symm rfl rfl (hdB_c (by rw [h1]; exact (nI_lev h0).2.2.1)) g3 (fun g _ => g4 g)
    exact Mrun.go g1 hs
  · intro L o i c e j c2 e2 r h0 h1 h2 h3 h4
    refine ⟨fun g => absurd g (by omega), ?_⟩
    intro m hm
    obtain rfl : L = m := by omega
    rintro ⟨i2, c2', em, wt, op, cb, due, nt⟩ p w0 rfl rfl rfl rfl hw hp he hd ht
    obtain ⟨cb2, nt2, g1, g2, g3, g4⟩ := lp_go (nv := nv) (nx := nx) (em := em) (op := op) (cb := cb) (nt := nt) h0 h1 h2 hw hp hd
    have hs := h3.1 (nI_lev h0).2.2.2.2.1 (nx i2, c2' + 1, pdA p em, kd i2 :: w0, op, cb2, true, nt2) rfl rfl he.symm rfl rfl (hdB_c (by rw [h1]; exact (nI_lev h0).2.2.1)) g3 (fun g _ => g4 g)
    obtain ⟨t, q, b1, b2, b3, b4, b5, b6, b7, b8, b9, b10⟩ := hs
    refine (h4.2 L rfl t (q ++ [kd i2]) w0 b2 b3 b7 b8 (by rw [b5, List.append_assoc]; rfl) ?_ (by rw [pdA_app, ← b4]; rfl) hd b10).pre (fun r hr => Mrun.go g1 (b1 r hr)) b8 (fun x hx => (b9 x ?_).trans (g2 x hx))
    · intro x hx
      rcases List.mem_append.mp hx with hx | hx
      · exact Int32.le_trans (nI_lev h0).1 (b6 x hx)
      · rw [List.mem_singleton.mp hx, h1]; exact Int32.le_refl _
    · rw [show (if sbL L ≤ 3 then 0 else 1) = (if L ≤ 3 then 0 else 1) by simp only [(nI_lev h0).2.2.2.2.2.2.1]]
      exact hx
  · intro o i e h0
    refine ⟨?_, fun m g => absurd g (by omega)⟩
    rintro _ ⟨i2, c2', em, wt, op, cb, due, nt⟩ rfl a2 rfl rfl rfl hd ht hnt
    exact Mrun.stop (mst_ob (Or.inr ⟨h0, (ht (by decide)).1⟩) (Or.inl a2))
  · intro o i c e k j h0 h1 h2
    refine ⟨?_, fun m g => absurd g (by omega)⟩
    rintro _ ⟨i2, c2', em, wt, op, cb, due, nt⟩ rfl rfl rfl rfl rfl hd ht hnt
    have hs := h2.1 (by decide) (nx i2, c2' + 1, em, 18 :: wt, op, cb, true, nt) rfl rfl rfl rfl rfl (hdB_c (by decide)) ht (fun g => absurd g (by decide))
    exact Mrun.go (mst_nt h0 (ht (by decide)).1 h1) hs
  · intro o i c e j c2 e2 h0 h1 h2
    refine ⟨?_, fun m g => absurd g (by omega)⟩
    rintro _ ⟨i2, c2', em, wt, op, cb, due, nt⟩ rfl rfl rfl rfl rfl hd ht hnt
    have hs := h2.1 (by decide) (nx i2, c2' + 1, em, 18 :: wt, op, cb, true, nt) rfl rfl rfl rfl rfl (hdB_c (by decide)) ht (fun g => absurd g (by decide))
    obtain ⟨t, p, b1, b2, b3, b4, b5, b6, b7, b8, b9, b10⟩ := hs
    refine ⟨t, p ++ [18], fun r hr => Mrun.go (mst_nt h0 (ht (by decide)).1 h1) (b1 r hr), b2, b3, by rw [pdA_app, ← b4]; rfl, by rw [b5, List.append_assoc]; rfl, ?_, b7, b8, b9, b10⟩
    intro x hx
    rcases List.mem_append.mp hx with hx | hx
    · exact b6 x hx
    · rw [List.mem_singleton.mp hx]; decide
  · intro o i c e k j h0 h1
    refine ⟨?_, fun m g => absurd g (by omega)⟩
    rintro _ ⟨i2, c2', em, wt, op, cb, due, nt⟩ rfl rfl rfl rfl rfl hd ht hnt
    exact h1.1 (by decide) (i2, c2', em, wt, op, cb, true, nt) rfl rfl rfl rfl rfl (hdB_le hd (by decide)) (fun g => absurd g (by decide)) (fun _ g => absurd g h0)
  · intro o i c e j c2 e2 h0 h1 h2
    refine ⟨?_, fun m g => absurd g (by omega)⟩
    rintro _ ⟨i2, c2', em, wt, op, cb, due, nt⟩ rfl rfl rfl rfl rfl hd ht hnt
    have hs := h1.1 (by decide) (i2, c2', em, wt, op, cb, true, nt) rfl rfl rfl rfl rfl (hdB_le hd (by decide)) (fun g => absurd g (by decide)) (fun _ g => absurd g h0)
    obtain ⟨t, p, b1, b2, b3, b4, b5, b6, b7, b8, b9, b10⟩ := hs
    rcases t with ⟨i3, c3', em3, wt3, op3, cb3, due3, nt3⟩
    change i3 = j at b2; change c3' = c2 at b3; change e2 = pdA p em3 at b4; change wt3 = p ++ wt at b5; change due3 = false at b7; change op3 = op at b8
    subst b2; subst b3; subst b4; subst b5; subst b7; subst b8
    have hcb : cb3 op3 = false := (b9 op3 (Nat.lt_succ_self _)).trans (ht (by decide)).2
    obtain ⟨k6, k5, k4, k2, k1⟩ := b10
    exact ⟨_, p, b1, rfl, rfl, rfl, rfl, fun x hx => Int32.le_trans (show nI 3 ≤ nI 5 by decide) (b6 x hx), rfl, rfl, fun j hj => b9 j (by show j < op3 + 1; have : j < op3 + 0 := hj; omega), ⟨fun _ => k6 (by decide), fun _ => k5 (by decide), fun _ g => absurd g h2, fun g => absurd g (by decide), fun g => absurd g (by decide)⟩⟩
  · intro o i c e j e2 h0 h1 h2
    refine ⟨?_, fun m g => absurd g (by omega)⟩
    rintro _ ⟨i2, c2', em, wt, op, cb, due, nt⟩ rfl rfl rfl rfl rfl hd ht hnt
    have hs := h1.1 (by decide) (i2, c2', em, wt, op, cb, true, nt) rfl rfl rfl rfl rfl (hdB_le hd (by decide)) (fun g => absurd g (by decide)) (fun _ g => absurd g h0)
    obtain ⟨t, p, b1, b2, b3, b4, b5, b6, b7, b8, b9, b10⟩ := hs
    rcases t with ⟨i3, c3', em3, wt3, op3, cb3, due3, nt3⟩
    change i3 = j at b2; change c3' = 64 at b3; change e2 = pdA p em3 at b4; change wt3 = p ++ wt at b5; change due3 = false at b7; change op3 = op at b8
    subst b2; subst b4; subst b5; subst b7; subst b8
    have hcb : cb3 op3 = false := (b9 op3 (Nat.lt_succ_self _)).trans (ht (by decide)).2
    have h4n : ¬ bnd (kd i3) = 0 := by rw [h2]; decide
    have h4m : ¬ kd i3 = 18 := fun e => by have := (bnd_of (kd i3)).2.2.2.2.2.1 e; rw [h2] at this; exact absurd this (by decide)
    have h4k : ¬ (bnd (kd i3) = 4 ∧ cb3 op3 = true) := fun g => by rw [hcb] at g; exact absurd g.2 (by decide)
    exact b1 _ (Mrun.stop (mst_64 h4n h4m h4k b3))
  · intro o i c e j c2 e2 k m h0 h1 h2 h3 h4
    refine ⟨?_, fun m g => absurd g (by omega)⟩
    rintro _ ⟨i2, c2', em, wt, op, cb, due, nt⟩ rfl rfl rfl rfl rfl hd ht hnt
    have hs := h1.1 (by decide) (i2, c2', em, wt, op, cb, true, nt) rfl rfl rfl rfl rfl (hdB_le hd (by decide)) (fun g => absurd g (by decide)) (fun _ g => absurd g h0)
    obtain ⟨t, p, b1, b2, b3, b4, b5, b6, b7, b8, b9, b10⟩ := hs
    rcases t with ⟨i3, c3', em3, wt3, op3, cb3, due3, nt3⟩
    change i3 = j at b2; change c3' = c2 at b3; change e2 = pdA p em3 at b4; change wt3 = p ++ wt at b5; change due3 = false at b7; change op3 = op at b8
    subst b2; subst b3; subst b4; subst b5; subst b7; subst b8
    have hcb : cb3 op3 = false := (b9 op3 (Nat.lt_succ_self _)).trans (ht (by decide)).2
    have h4n : ¬ bnd (kd i3) = 0 := by rw [h2]; decide
    have h4m : ¬ kd i3 = 18 := fun e => by have := (bnd_of (kd i3)).2.2.2.2.2.1 e; rw [h2] at this; exact absurd this (by decide)
    have h4k : ¬ (bnd (kd i3) = 4 ∧ cb3 op3 = true) := fun g => by rw [hcb] at g; exact absurd g.2 (by decide)
    have hn17 : ¬ (kd i3 = 17 ∨ kd i3 = 16) := fun g => by rcases (bnd_of (kd i3)).2.2.2.2.1 g with g | g <;> (rw [h2] at g; exact absurd g (by decide))
    have hgo := mst_sg (nv := nv) (nx := nx) (c := c3') (em := em3) (wt := p ++ wt) (nt := nt3) h4n h4m h4k h3
    rw [h2, pdL_app p wt em3 (fun x hx => Int32.le_trans (show (4 : Int32) ≤ nI 5 by decide) (b6 x hx)) hd, if_pos rfl, decide_eq_false hn17] at hgo
    have hs2 := h4.1 (by decide) (nx i3, c3' + 1, pdA p em3, kd i3 :: wt, op3, setB cb3 op3 true, true, false) rfl rfl rfl rfl rfl (hdB_c (by rw [h2]; decide)) (fun g => absurd g (by decide)) (fun _ _ => rfl)
    exact b1 _ (Mrun.go hgo hs2)
  · intro o i c e j c2 e2 m c3 e3 h0 h1 h2 h3 h4
    refine ⟨?_, fun m g => absurd g (by omega)⟩
    rintro _ ⟨i2, c2', em, wt, op, cb, due, nt⟩ rfl rfl rfl rfl rfl hd ht hnt
    have hs := h1.1 (by decide) (i2, c2', em, wt, op, cb, true, nt) rfl rfl rfl rfl rfl (hdB_le hd (by decide)) (fun g => absurd g (by decide)) (fun _ g => absurd g h0)
    obtain ⟨t, p, b1, b2, b3, b4, b5, b6, b7, b8, b9, b10⟩ := hs
    rcases t with ⟨i3, c3', em3, wt3, op3, cb3, due3, nt3⟩
    change i3 = j at b2; change c3' = c2 at b3; change e2 = pdA p em3 at b4; change wt3 = p ++ wt at b5; change due3 = false at b7; change op3 = op at b8
    subst b2; subst b3; subst b4; subst b5; subst b7; subst b8
    have hcb : cb3 op3 = false := (b9 op3 (Nat.lt_succ_self _)).trans (ht (by decide)).2
    have h4n : ¬ bnd (kd i3) = 0 := by rw [h2]; decide
    have h4m : ¬ kd i3 = 18 := fun e => by have := (bnd_of (kd i3)).2.2.2.2.2.1 e; rw [h2] at this; exact absurd this (by decide)
    have h4k : ¬ (bnd (kd i3) = 4 ∧ cb3 op3 = true) := fun g => by rw [hcb] at g; exact absurd g.2 (by decide)
    have hn17 : ¬ (kd i3 = 17 ∨ kd i3 = 16) := fun g => by rcases (bnd_of (kd i3)).2.2.2.2.1 g with g | g <;> (rw [h2] at g; exact absurd g (by decide))
    have hgo := mst_sg (nv := nv) (nx := nx) (c := c3') (em := em3) (wt := p ++ wt) (nt := nt3) h4n h4m h4k h3
    rw [h2, pdL_app p wt em3 (fun x hx => Int32.le_trans (show (4 : Int32) ≤ nI 5 by decide) (b6 x hx)) hd, if_pos rfl, decide_eq_false hn17] at hgo
    have hs2 := h4.1 (by decide) (nx i3, c3' + 1, pdA p em3, kd i3 :: wt, op3, setB cb3 op3 true, true, false) rfl rfl rfl rfl rfl (hdB_c (by rw [h2]; decide)) (fun g => absurd g (by decide)) (fun _ _ => rfl)
    obtain ⟨u, q, d1, d2, d3, d4, d5, d6, d7, d8, d9, d10⟩ := hs2
    obtain ⟨k6, k5, k4, k2, k1⟩ := d10
    refine ⟨u, q ++ [kd i3], fun r hr => b1 _ (Mrun.go hgo (d1 r hr)), d2, d3, by rw [pdA_app, ← d4]; rfl, by rw [d5, List.append_assoc]; rfl, ?_, d7, d8, fun j hj => ?_, ⟨fun _ => k6 (by decide), fun _ => k5 (by decide), fun _ _ => ?_, fun g => absurd g (by decide), fun g => absurd g (by decide)⟩⟩
    · intro x hx
      rcases List.mem_append.mp hx with hx | hx
      · exact Int32.le_trans (show nI 3 ≤ nI 5 by decide) (d6 x hx)
      · rw [List.mem_singleton.mp hx, h2]; decide
    · have hj2 : j < op3 + 0 := hj
      exact (d9 j (by show j < op3 + 1; omega)).trans ((if_neg (by omega)).trans (b9 j (by show j < op3 + 1; omega)))
    · rw [d8]; exact (d9 op3 (Nat.lt_succ_self _)).trans (if_pos rfl)
abbrev ms0 (i c : Nat) : Ms := (i, c, [], [], 0, fun _ => false, true, true)
def drM (kd : Nat → Int32) : Dr → Mres
  | .inl (j, c2, e2) => if kd j = 37 then mFin j c2 e2 else mNo 1 j
  | .inr (k, j) => mNo k j
theorem Dd.top {kd nv : Nat → Int32} {nx : Nat → Nat} {i c : Nat} {r : Dr} (h : Dd kd nv nx 1 0 i c [] r) : Mrun kd nv nx (ms0 i c) (drM kd r) := by
  have hs := h.mot.1 (by decide) (ms0 i c) rfl rfl rfl rfl rfl (fun x t e => by cases e) (fun _ => ⟨rfl, rfl⟩) (fun g => absurd g (by decide))
  rcases r with ⟨j, c2, e2⟩ | ⟨k, j⟩
  · obtain ⟨t, p, b1, b2, b3, b4, b5, b6, b7, b8, b9, b10⟩ := hs
    have hk := tok1 b10
    rcases t with ⟨i3, c3', em3, wt3, op3, cb3, due3, nt3⟩
    change i3 = j at b2; change c3' = c2 at b3; change e2 = pdA p em3 at b4; change wt3 = p ++ [] at b5; change due3 = false at b7; change op3 = 0 at b8
    subst b2; subst b3; subst b4; subst b5; subst b7; subst b8
    refine b1 _ (Mrun.stop ?_)
    show mst kd nv nx (i3, c3', em3, p ++ [], 0, cb3, false, nt3) = Sum.inl (if kd i3 = 37 then mFin i3 c3' (pdA p em3) else mNo 1 i3)
    by_cases h37 : kd i3 = 37
    · rw [if_pos h37, mst_fin rfl h37, pdL_app (b := 1) p [] em3 b6 (fun x t e => by cases e)]
    · rw [if_neg h37]
      exact mst_no (fun g => h37 g.2) (fun g => absurd g.2 (by decide)) hk
  · exact hs
