/-- a scene of both sides: the sway and the walkers, whether it blows, the time, how many are fat, where, their calms -/
abbrev Sn : Type := Sc × Int32 × Nat × Nat × (Nat → Int32) × (Nat → Int32)
def Sn.s (X : Sn) : Sc := X.1
def Sn.bl (X : Sn) : Int32 := X.2.1
def Sn.t (X : Sn) : Nat := X.2.2.1
def Sn.nf (X : Sn) : Nat := X.2.2.2.1
def Sn.fc (X : Sn) : Nat → Int32 := X.2.2.2.2.1
def Sn.fk (X : Sn) : Nat → Int32 := X.2.2.2.2.2
/-- what a deed may change: stages, speeds up, whether it blows, how many are fat -/
abbrev D4 : Type := (Nat → Int32) × (Nat → Int32) × Int32 × Nat
/-- a deed undone -/
def unD (kd wh bf : Int32) (D : D4) : D4 := if kd = 0 then (D.1, D.2.1, D.2.2.1, D.2.2.2 - 1) else if kd = 1 then (upd D.1 wh.toNatClampNeg bf, D.2.1, D.2.2.1, D.2.2.2) else if kd = 2 then (D.1, D.2.1, (if D.2.2.1 = 0 then 1 else 0), D.2.2.2) else (D.1, upd D.2.1 wh.toNatClampNeg bf, D.2.2.1, D.2.2.2)
def okDd (kd wh : Int32) : Prop := kd = 0 ∨ (kd = 1 ∧ ∃ w : Nat, w < 6 ∧ wh = nI w) ∨ kd = 2 ∨ (kd = 3 ∧ ∃ c : Nat, c < 12 ∧ wh = nI c)
def mkS (s : Sc) (D : D4) : Sc := (s.1, D.2.1, s.2.2.1, s.2.2.2.1, (s.2.2.2.2.1.1, s.2.2.2.2.1.2.1, D.1, s.2.2.2.2.1.2.2.2.1, s.2.2.2.2.1.2.2.2.2), s.2.2.2.2.2.1, s.2.2.2.2.2.2.1, s.2.2.2.2.2.2.2)
def dOf (X : Sn) : D4 := (X.s.2.2.2.2.1.2.2.1, X.s.2.1, X.bl, X.nf)
/-- groans: how many, known, times, cells, how much, at least or not, strikes -/
abbrev Gs : Type := Nat × Int32 × (Nat → Int32) × (Nat → Int32) × (Nat → Int32) × (Nat → Int32) × (Nat → Int32)
/-- all that calls can show -/
abbrev Ab : Type := (Nat × (Nat → Int32) × Int32 × Int32) × Pl × Sn × (Nat → Int32) × Gs × (Nat × (Nat → D4)) × (Int32 × Sn × (Nat → Int32))
def Ab.tp (A : Ab) : Nat := A.1.1
def Ab.f (A : Ab) : Nat → Int32 := A.1.2.1
def Ab.q1 (A : Ab) : Int32 := A.1.2.2.1
def Ab.q2 (A : Ab) : Int32 := A.1.2.2.2
def Ab.p (A : Ab) : Pl := A.2.1
def Ab.X (A : Ab) : Sn := A.2.2.1
def Ab.h (A : Ab) : Nat → Int32 := A.2.2.2.1
def Ab.g (A : Ab) : Gs := A.2.2.2.2.1
def Ab.nd (A : Ab) : Nat := A.2.2.2.2.2.1.1
def Ab.Ds (A : Ab) : Nat → D4 := A.2.2.2.2.2.1.2
def Ab.im (A : Ab) : Int32 := A.2.2.2.2.2.2.1
def Ab.Y (A : Ab) : Sn := A.2.2.2.2.2.2.2.1
def Ab.h2 (A : Ab) : Nat → Int32 := A.2.2.2.2.2.2.2.2
def nsP (n : Nat) (X : Sn) : Prop := X.t ≤ 9999 ∧ X.nf ≤ 8 ∧ (∀ i, i < X.nf → (∃ c : Nat, c < n ∧ X.fc i = nI c) ∧ ∃ k : Nat, 1 ≤ k ∧ k ≤ 99 ∧ X.fk i = nI k) ∧ (X.bl = 0 ∨ X.bl = 1) ∧ ∃ x : Nat, x < 4096 ∧ X.s.2.2.2.2.2.1 = nI x
def nsC (M : Mm) (a pl : Nat) (p : Pl) (X : Sn) : Prop := (M.2.2 a 0 = some pl ∧ M.2.2 a 1 = some (pl + 7) ∧ M.2.2 a 2 = some (pl + 18) ∧ M.2.2 a 3 = some (pl + 21)) ∧ X.s = vS M.1 a ∧ X.bl = M.1 a 16 ∧ M.1 a 17 = 0 ∧ M.1 a 4 = p.D 0 4 ∧ M.1 (a + 12) 0 = nI X.nf ∧ X.fc = M.1 (a + 13) ∧ X.fk = M.1 (a + 14) ∧ ∀ c, c < 12 → M.1 (a + 15) c = rfC (p.D 0 3) X.fc X.fk (fun _ => 0) X.nf c
def nsR (I : Nat → Nat → Int32) (b nw : Nat) (X : Sn) : Prop := rAl I b nw X.t X.s ∧ ftR I b X.nf X.fc X.fk ∧ I 171 b = X.bl
def grC (I : Nat → Nat → Int32) (g : Gs) : Prop := I 128 0 = nI g.1 ∧ I 128 1 = g.2.1 ∧ I 129 = g.2.2.1 ∧ I 130 = g.2.2.2.1 ∧ I 131 = g.2.2.2.2.1 ∧ I 132 = g.2.2.2.2.2.1 ∧ I 133 = g.2.2.2.2.2.2
def grR (I : Nat → Nat → Int32) (g : Gs) : Prop := I 149 70 = nI g.1 ∧ I 149 71 = g.2.1 ∧ ∀ i, i < g.1 → I 194 i = g.2.2.2.2.2.2 i ∧ (g.2.2.2.2.2.2 i = -1 → I 190 i = g.2.2.1 i ∧ I 191 i = g.2.2.2.1 i ∧ I 192 i = g.2.2.2.2.1 i ∧ I 193 i = g.2.2.2.2.2.1 i)
def grP (g : Gs) : Prop := g.1 ≤ 24 ∧ (g.2.1 = -1 ∨ ∃ m : Nat, m ≤ g.1 ∧ g.2.1 = nI m) ∧ ∀ i, i < g.1 → (g.2.2.2.2.2.2 i = -1 ∧ (∃ t : Nat, t < 64 ∧ g.2.2.1 i = nI t) ∧ ∃ c : Nat, c < 12 ∧ g.2.2.2.1 i = nI c) ∨ ∃ t : Nat, t < i ∧ g.2.2.2.2.2.2 i = nI t
def dsC (I : Nat → Nat → Int32) (X : Sn) (nd : Nat) (Ds : Nat → D4) : Prop := I 134 0 = nI nd ∧ Ds nd = dOf X ∧ ∀ k, k < nd → Ds k = unD (I 135 k) (I 136 k) (I 137 k) (Ds (k + 1)) ∧ okDd (I 135 k) (I 136 k)
def dsR (I : Nat → Nat → Int32) (nw : Nat) (X : Sn) (nd : Nat) (Ds : Nat → D4) : Prop := I 149 51 = nI nd ∧ ∀ k, k < nd → rAl I (4 + k) nw X.t (mkS X.s (Ds k)) ∧ ftR I (4 + k) (Ds k).2.2.2 X.fc X.fk ∧ I 171 (4 + k) = (Ds k).2.2.1
/-- the class's side -/
def CA (ly : Ly) (M : Mm) (pl ps : Nat) (A : Ab) : Prop := XW ly M.2.2 ∧ (((pl = 7 ∧ ps = 41) ∨ (pl = 41 ∧ ps = 7)) ∧ M.2.2 0 3 = some pl ∧ M.2.2 0 4 = some ps) ∧ (M.1 0 1 = nI A.tp ∧ tpR (M.1 1) A.f A.tp ∧ ∀ w, w < 25 → M.1 4 w = wdP w) ∧ (M.1 2 0 = A.q1 ∧ M.1 2 1 = A.q2) ∧ CPl M pl A.p ∧ nsC M 75 pl A.p A.X ∧ M.1 126 = A.h ∧ grC M.1 A.g ∧ dsC M.1 A.X A.nd A.Ds ∧ (M.1 0 8 = A.im ∧ (¬ A.im = 0 → nsC M 109 pl A.p A.Y ∧ M.1 127 = A.h2)) ∧ M.1 144 0 = nI 0
/-- the reference's side -/
def RA (ly : Ly) (M : Mm) (A : Ab) : Prop := RW ly M.2.2 ∧ (M.1 149 2 = nI A.tp ∧ M.1 150 = A.f) ∧ (M.1 149 31 = A.q1 ∧ M.1 149 32 = A.q2) ∧ RLo M.1 A.p ∧ nsR M.1 0 (A.p.ct 0) A.X ∧ eqN 60 (M.1 183) A.h ∧ grR M.1 A.g ∧ dsR M.1 (A.p.ct 0) A.X A.nd A.Ds ∧ (M.1 149 50 = A.im ∧ (¬ A.im = 0 → nsR M.1 2 (A.p.ct 0) A.Y ∧ eqN 60 (sh 60 (M.1 183)) A.h2)) ∧ ∀ b, b < 24 → gdB M.1 b
/-- what is true of what calls can show -/
def PA (n : Nat) (A : Ab) : Prop := (A.tp ≤ 700 ∧ byA A.f A.tp) ∧ (ctOk A.p ∧ plOk A.p ∧ A.p.D 0 0 = nI n ∧ 2 ≤ n ∧ n ≤ 12) ∧ nsP n A.X ∧ grP A.g ∧ A.nd ≤ 20 ∧ (A.im = 0 ∨ A.im = 1) ∧ (¬ A.im = 0 → nsP n A.Y)
def INV (ly : Ly) (M : Mm) : Prop := ∃ (pl ps n : Nat) (A : Ab), CA ly M pl ps A ∧ RA ly M A ∧ PA n A
/-- a cell that the class's side speaks of -/
def relC (pl a : Nat) : Prop := a = 1 ∨ a = 2 ∨ a = 4 ∨ (pl ≤ a ∧ a ≤ pl + 33) ∨ (75 ≤ a ∧ a ≤ 90) ∨ (109 ≤ a ∧ a ≤ 137) ∨ a = 144
theorem vS_mv {I J : Nat → Nat → Int32} {a : Nat} (e : ∀ k, a ≤ k → k ≤ a + 15 → J k = I k) : vS J a = vS I a := by
  unfold vS vW
  rw [e a (by omega) (by omega), e (a + 2) (by omega) (by omega), e (a + 3) (by omega) (by omega), e (a + 4) (by omega) (by omega), e (a + 6) (by omega) (by omega), e (a + 7) (by omega) (by omega), e (a + 8) (by omega) (by omega), e (a + 9) (by omega) (by omega), e (a + 10) (by omega) (by omega), e (a + 11) (by omega) (by omega)]
theorem nsC.mv {M K : Mm} {a pl : Nat} {p : Pl} {X : Sn} (h : nsC M a pl p X) (e : ∀ k, a ≤ k → k ≤ a + 15 → K.1 k = M.1 k) (r : ∀ j, j < 4 → K.2.2 a j = M.2.2 a j) : nsC K a pl p X := by
  obtain ⟨⟨h1, h2, h3, h4⟩, h5, h6, h7, h8, h9, h10, h11, h12⟩ := h
  refine ⟨⟨(r 0 (by omega)).trans h1, (r 1 (by omega)).trans h2, (r 2 (by omega)).trans h3, (r 3 (by omega)).trans h4⟩, ?_, ?_, ?_, ?_, ?_, ?_, ?_, ?_⟩
  · rw [vS_mv e]; exact h5
  · rw [e a (by omega) (by omega)]; exact h6
  · rw [e a (by omega) (by omega)]; exact h7
  · rw [e a (by omega) (by omega)]; exact h8
  · rw [e (a + 12) (by omega) (by omega)]; exact h9
  · rw [e (a + 13) (by omega) (by omega)]; exact h10
  · rw [e (a + 14) (by omega) (by omega)]; exact h11
  · rw [e (a + 15) (by omega) (by omega)]; exact h12
theorem CPl.mv {M K : Mm} {pl : Nat} {p : Pl} (h : CPl M pl p) (e : ∀ k, pl ≤ k → k ≤ pl + 33 → K.1 k = M.1 k) : CPl K pl p := by
  obtain ⟨h1, h2, h3, h4, h5⟩ := h
  refine ⟨?_, ?_, ?_, ?_, ?_⟩
  · rw [e pl (by omega) (by omega)]; exact h1
  · rw [e (pl + 1) (by omega) (by omega)]; exact h2
  · rw [e (pl + 7) (by omega) (by omega), e (pl + 13) (by omega) (by omega)]; exact h3
  · intro r r1 r2 j hj
    rw [e (pl + cOf r) (by omega) (by unfold cOf; split <;> (try split) <;> omega)]
    exact h4 r r1 r2 j hj
  · intro k hk
    have hl : laO k ≤ 31 := by unfold laO; split <;> (try split) <;> omega
    rw [e (pl + laO k) (by omega) (by omega), e (pl + laO k + 1) (by omega) (by omega)]
    exact h5 k hk
theorem CA.p7 {ly : Ly} {M : Mm} {pl ps : Nat} {A : Ab} (h : CA ly M pl ps A) : pl = 7 ∨ pl = 41 := h.2.1.1.elim (fun q => Or.inl q.1) (fun q => Or.inr q.1)
theorem CA.mv {ly : Ly} {M K : Mm} {pl ps : Nat} {A : Ab} (h : CA ly M pl ps A) (e : ∀ a, relC pl a → K.1 a = M.1 a) (e0 : K.1 0 1 = M.1 0 1 ∧ K.1 0 8 = M.1 0 8) (rX : XW ly K.2.2) (r0 : K.2.2 0 3 = M.2.2 0 3 ∧ K.2.2 0 4 = M.2.2 0 4) (r75 : ∀ j, j < 4 → K.2.2 75 j = M.2.2 75 j) (r109 : ∀ j, j < 4 → K.2.2 109 j = M.2.2 109 j) : CA ly K pl ps A := by
  have hp := h.p7
  obtain ⟨h1, ⟨h2, h3, h4⟩, ⟨h5, h6, h7⟩, h8, h9, h10, h11, h12, h13, ⟨h14, h15⟩, h16⟩ := h
  have eg : ∀ a, 75 ≤ a → a ≤ 90 → K.1 a = M.1 a := fun a a1 a2 => e a (by unfold relC; omega)
  have ei : ∀ a, 109 ≤ a → a ≤ 137 → K.1 a = M.1 a := fun a a1 a2 => e a (by unfold relC; omega)
  refine ⟨rX, ⟨h2, r0.1.trans h3, r0.2.trans h4⟩, ⟨e0.1.trans h5, ?_, ?_⟩, ?_, h9.mv (fun k k1 k2 => e k (by unfold relC; omega)), h10.mv (fun k k1 k2 => eg k k1 k2) r75, ?_, ?_, ?_, ⟨e0.2.trans h14, fun q => ⟨(h15 q).1.mv (fun k k1 k2 => ei k k1 (by omega)) r109, ?_⟩⟩, ?_⟩
  · rw [e 1 (by unfold relC; omega)]; exact h6
  · rw [e 4 (by unfold relC; omega)]; exact h7
  · rw [e 2 (by unfold relC; omega)]; exact h8
  · rw [ei 126 (by omega) (by omega)]; exact h11
  · unfold grC; rw [ei 128 (by omega) (by omega), ei 129 (by omega) (by omega), ei 130 (by omega) (by omega), ei 131 (by omega) (by omega), ei 132 (by omega) (by omega), ei 133 (by omega) (by omega)]; exact h12
  · unfold dsC; rw [ei 134 (by omega) (by omega), ei 135 (by omega) (by omega), ei 136 (by omega) (by omega), ei 137 (by omega) (by omega)]; exact h13
  · rw [ei 127 (by omega) (by omega)]; exact (h15 q).2
  · rw [e 144 (by unfold relC; omega)]; exact h16
/-- the reference has gone on: the class's side is as it was -/
theorem CA.r {ly : Ly} {M K : Mm} {pl ps : Nat} {A : Ab} (h : CA ly M pl ps A) (e : ∀ a, a < 149 → K.1 a = M.1 a) (r : K.2.2 = M.2.2) : CA ly K pl ps A := by
  have hp := h.p7
  exact h.mv (fun a ha => e a (by unfold relC at ha; omega)) (by rw [e 0 (by omega)]; exact ⟨rfl, rfl⟩) (by rw [r]; exact h.1) (by rw [r]; exact ⟨rfl, rfl⟩) (fun _ _ => by rw [r]) (fun _ _ => by rw [r])
/-- a question of the class's -/
theorem CA.q {ly : Ly} {M K : Mm} {pl ps : Nat} {A : Ab} (h : CA ly M pl ps A) (q : quX M K) : CA ly K pl ps A := by
  have hp := h.p7
  exact h.mv (fun a ha => q.at (by unfold relC at ha; omega)) ⟨q.2.1 1 (by omega), q.2.1 8 (by omega)⟩ (q.xw h.1) ⟨q.2.2 0 3 (by omega), q.2.2 0 4 (by omega)⟩ (fun j _ => q.2.2 75 j (by omega)) (fun j _ => q.2.2 109 j (by omega))
theorem RW.mv {ly : Ly} {R R2 : Nat → Nat → Option Nat} (h : RW ly R) (e : ∀ j, R2 149 j = R 149 j) : RW ly R2 := ⟨h.1, fun q hq => (e q.1).trans (h.2 q hq)⟩
theorem cpB.ns {I J : Nat → Nat → Int32} {b c nw : Nat} {X : Sn} (h : cpB I b J c) (hw : nw ≤ 6) (g : nsR J c nw X) : nsR I b nw X := ⟨h.al hw g.1, h.ft g.2.1, (h.1 171 (by omega)).trans g.2.2⟩
theorem RLo.mv {I J : Nat → Nat → Int32} {p : Pl} (h : RLo I p) (e : ∀ a, 151 ≤ a → a ≤ 168 → J a = I a) : RLo J p := by
  obtain ⟨h1, h2, h3, h4, h5, h6⟩ := h
  refine ⟨?_, ?_, ?_, ?_, h5, ?_⟩
  · rw [e 151 (by omega) (by omega)]; exact h1
  · rw [e 151 (by omega) (by omega)]; exact h2
  · intro r r1 r2 j hj h9
    have hr : 151 ≤ rCl r ∧ rCl r ≤ 168 := by unfold rCl; repeat' (first | omega | split)
    rw [e (rCl r) hr.1 hr.2]; exact h3 r r1 r2 j hj h9
  · rw [e 165 (by omega) (by omega), e 166 (by omega) (by omega), e 167 (by omega) (by omega), e 168 (by omega) (by omega)]; exact h4
  · rw [e 151 (by omega) (by omega)]; exact h6
/-- the class has gone on: the reference's side is as it was -/
theorem RA.mv {ly : Ly} {M K : Mm} {A : Ab} (h : RA ly M A) (e : ∀ a, 149 ≤ a → K.1 a = M.1 a) (r : RW ly K.2.2) : RA ly K A := by
  obtain ⟨h1, h2, h3, h4, h5, h6, h7, h8, h9, h10⟩ := h
  refine ⟨r, ?_, ?_, h4.mv (fun a a1 a2 => e a (by omega)), ?_, ?_, ?_, ?_, ?_, ?_⟩
  · rw [e 149 (by omega), e 150 (by omega)]; exact h2
  · rw [e 149 (by omega)]; exact h3
  · unfold nsR rAl ftR; rw [e 169 (by omega), e 170 (by omega), e 171 (by omega), e 172 (by omega), e 173 (by omega), e 174 (by omega), e 175 (by omega), e 176 (by omega), e 177 (by omega), e 178 (by omega), e 179 (by omega), e 180 (by omega), e 181 (by omega), e 182 (by omega)]; exact h5
  · rw [e 183 (by omega)]; exact h6
  · unfold grR; rw [e 149 (by omega), e 190 (by omega), e 191 (by omega), e 192 (by omega), e 193 (by omega), e 194 (by omega)]; exact h7
  · unfold dsR rAl ftR; rw [e 149 (by omega), e 169 (by omega), e 170 (by omega), e 171 (by omega), e 172 (by omega), e 173 (by omega), e 174 (by omega), e 175 (by omega), e 176 (by omega), e 177 (by omega), e 178 (by omega), e 179 (by omega), e 180 (by omega), e 181 (by omega), e 182 (by omega)]; exact h8
  · unfold nsR rAl ftR; rw [e 149 (by omega), e 169 (by omega), e 170 (by omega), e 171 (by omega), e 172 (by omega), e 173 (by omega), e 174 (by omega), e 175 (by omega), e 176 (by omega), e 177 (by omega), e 178 (by omega), e 179 (by omega), e 180 (by omega), e 181 (by omega), e 182 (by omega), e 183 (by omega)]; exact h9
  · intro b hb; unfold gdB; rw [e 171 (by omega), e 180 (by omega)]; exact h10 b hb
theorem RA.qx {ly : Ly} {M K : Mm} {A : Ab} (h : RA ly M A) (q : quX M K) : RA ly K A := h.mv (fun a ha => q.at (by omega)) (h.1.mv (fun j => q.2.2 149 j (by omega)))
theorem qR.cp {M K : Mm} {b : Nat} (h : qR M K) (h1 : b ≠ 1) (h3 : b ≠ 3) : cpB K.1 b M.1 b := ⟨fun a ha => h.2.2.2.1 a (by omega) b h1 h3, fun a ha j hj => h.2.2.2.2.1 a (by omega) _ (by omega), fun a ha j hj => h.2.2.2.2.2 a ha _ (by omega), h.2.2.2.1 180 (by omega) b h1 h3, fun nf hf _ a ha j hj => h.2.2.2.2.1 a (by omega) _ (by omega)⟩
theorem PA.w6 {n : Nat} {A : Ab} (h : PA n A) : A.p.ct 0 ≤ 6 := h.2.1.1.1
/-- bridges but the tried ones are as they were, and all else that calls can show -/
theorem RA.cp {ly : Ly} {M K : Mm} {A : Ab} (h : RA ly M A) (hw : A.p.ct 0 ≤ 6) (r : K.2.2 = M.2.2) (c : ∀ b, b ≠ 1 → b ≠ 3 → cpB K.1 b M.1 b) (e : ∀ a, (150 ≤ a ∧ a ≤ 168) ∨ a = 183 ∨ (190 ≤ a ∧ a ≤ 194) → K.1 a = M.1 a) (e9 : ∀ j, (j = 2 ∨ j = 31 ∨ j = 32 ∨ j = 50 ∨ j = 51 ∨ j = 70 ∨ j = 71) → K.1 149 j = M.1 149 j) : RA ly K A := by
  obtain ⟨h1, h2, h3, h4, h5, h6, h7, h8, h9, h10⟩ := h
  refine ⟨by rw [r]; exact h1, ?_, ?_, h4.mv (fun a a1 a2 => e a (by omega)), (c 0 (by omega) (by omega)).ns hw h5, ?_, ?_, ?_, ?_, ?_⟩
  · rw [e9 2 (by omega), e 150 (by omega)]; exact h2
  · rw [e9 31 (by omega), e9 32 (by omega)]; exact h3
  · rw [e 183 (by omega)]; exact h6
  · unfold grR; rw [e9 70 (by omega), e9 71 (by omega), e 190 (by omega), e 191 (by omega), e 192 (by omega), e 193 (by omega), e 194 (by omega)]; exact h7
  · refine ⟨(e9 51 (by omega)).trans h8.1, fun k hk => ?_⟩
    obtain ⟨g1, g2, g3⟩ := h8.2 k hk
    have cc := c (4 + k) (by omega) (by omega)
    exact ⟨cc.al hw g1, cc.ft g2, (cc.1 171 (by omega)).trans g3⟩
  · refine ⟨(e9 50 (by omega)).trans h9.1, fun q => ?_⟩
    rw [e 183 (by omega)]
    exact ⟨(c 2 (by omega) (by omega)).ns hw (h9.2 q).1, (h9.2 q).2⟩
  · intro b hb
    by_cases q : b = 1 ∨ b = 3
    · exact fun q2 => absurd q q2
    · exact (c b (by omega) (by omega)).gd (h10 b hb)
/-- a question of the reference's -/
theorem RA.q {ly : Ly} {M K : Mm} {A : Ab} (h : RA ly M A) (hw : A.p.ct 0 ≤ 6) (q : qR M K) : RA ly K A := h.cp hw q.1 (fun b h1 h3 => q.cp h1 h3) (fun a ha => q.at a (by omega)) (fun j hj => q.2.2.1 j (by omega) (by omega) (by omega) (by omega) (by omega))
theorem CA.qr {ly : Ly} {M K : Mm} {pl ps : Nat} {A : Ab} (h : CA ly M pl ps A) (q : qR M K) : CA ly K pl ps A := h.r (fun a ha => q.at a (by omega)) q.1
/-- both have answered, nothing that calls can show has changed -/
theorem INV.qq {ly : Ly} {M N K : Mm} {pl ps n : Nat} {A : Ab} (hC : CA ly M pl ps A) (hR : RA ly M A) (hP : PA n A) (q : quX M N) (q2 : qR N K) : INV ly K := ⟨pl, ps, n, A, (hC.q q).qr q2, (hR.qx q).q hP.w6 q2, hP⟩
theorem RS.mv {M K : Mm} {n nw t nf : Nat} {p : P4} {h0 c0 : Int32} {W : Wx} {lw : Nat → (Nat → Int32) × Nat} {s : Sc} {fc fk : Nat → Int32} (h : RS M n nw t nf p h0 c0 W lw s fc fk) (e : ∀ a, 149 ≤ a → K.1 a = M.1 a) : RS K n nw t nf p h0 c0 W lw s fc fk := by
  obtain ⟨h1, h2, h3, h4, h5⟩ := h
  refine ⟨h1.mv (fun a ha => e a (by omega)), ?_, ?_, ?_, h5⟩
  · unfold rAl; rw [e 169 (by omega), e 170 (by omega), e 172 (by omega), e 173 (by omega), e 174 (by omega), e 175 (by omega), e 176 (by omega), e 177 (by omega), e 178 (by omega), e 179 (by omega)]; exact h2
  · unfold ftR; rw [e 180 (by omega), e 181 (by omega), e 182 (by omega)]; exact h3
  · rw [e 171 (by omega)]; exact h4
theorem RS.qx {M K : Mm} {n nw t nf : Nat} {p : P4} {h0 c0 : Int32} {W : Wx} {lw : Nat → (Nat → Int32) × Nat} {s : Sc} {fc fk : Nat → Int32} (h : RS M n nw t nf p h0 c0 W lw s fc fk) (q : quX M K) : RS K n nw t nf p h0 c0 W lw s fc fk := h.mv (fun a ha => q.at (by omega))
/-- the class's facts of its state -/
theorem inv_xs {ly : Ly} {M : Mm} {pl ps n : Nat} {A : Ab} (hC : CA ly M pl ps A) (hR : RA ly M A) (hP : PA n A) : XS ly M pl n (A.p.ct 0) (A.p.lw 0).length (A.p.lw 1).length :=
  XS_of hC.1 hC.2.1.2.1 hC.p7 hC.2.2.2.2.1 hP.2.1.1 hP.2.1.2.1 hP.2.1.2.2.1 hP.2.1.2.2.2 hC.2.2.2.2.2.1.1 ⟨by rw [← hC.2.2.2.2.2.1.2.2.1]; exact hP.2.2.1.2.2.2.1, Or.inl hC.2.2.2.2.2.1.2.2.2.1⟩ ⟨hR.2.2.2.1.len hP.2.1.1 (by decide), hR.2.2.2.1.len hP.2.1.1 (by decide)⟩
theorem inv_hF {ly : Ly} {M : Mm} {pl ps n : Nat} {A : Ab} (hC : CA ly M pl ps A) (hP : PA n A) : M.1 87 0 = nI A.X.nf ∧ A.X.nf ≤ 8 ∧ ∀ i, i < A.X.nf → vp_in (M.1 88 i) 12 := by
  refine ⟨hC.2.2.2.2.2.1.2.2.2.2.2.1, hP.2.2.1.2.1, fun i hi => ?_⟩
  have e : M.1 88 = A.X.fc := hC.2.2.2.2.2.1.2.2.2.2.2.2.1.symm
  obtain ⟨⟨c, hc, q⟩, _⟩ := hP.2.2.1.2.2.1 i hi
  rw [e, q]
  exact vp_in_nI (n := c) (by have := hP.2.1.2.2.2.2; omega) (by decide)
/-- the reference's, in the class's words -/
theorem inv_rs {ly : Ly} {M : Mm} {pl ps n : Nat} {A : Ab} (hC : CA ly M pl ps A) (hR : RA ly M A) (hP : PA n A) : RS M n (A.p.ct 0) A.X.t A.X.nf (M.1 pl 1, M.1 pl 2, M.1 pl 5, M.1 pl 6) (M.1 75 4) (M.1 pl 3) (clW M.1 pl) (clL M.1 pl A.p) (vS M.1 75) (M.1 88) (M.1 89) := by
  have h1 := plE_of hC.2.2.2.2.1 hR.2.2.2.1 hP.2.1.1 hP.2.1.2.1 hP.2.1.2.2.1 hP.2.1.2.2.2.2
  obtain ⟨c0, c1, c2, c3, c4, c5, c6, c7, c8⟩ := hC.2.2.2.2.1.1
  have n1 := hC.2.2.2.2.2.1
  obtain ⟨m1, m2, m3⟩ := hR.2.2.2.2.1
  rw [← c1, ← c2, ← c3, ← c5, ← c6, ← n1.2.2.2.2.1] at h1
  refine ⟨h1, by rw [← n1.2.1]; exact m1, by rw [← show A.X.fc = M.1 88 from n1.2.2.2.2.2.2.1, ← show A.X.fk = M.1 89 from n1.2.2.2.2.2.2.2.1]; exact m2, by rw [m3]; exact hP.2.2.1.2.2.2.1, hP.2.2.1.1⟩
