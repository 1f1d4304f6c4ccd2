/-- how a nonterminal ends: at the token j, c knots counted, the knots e put (the newest first); or a fault -/
abbrev Dr := (Nat × Nat × List Int32) ⊕ (Int32 × Nat)
abbrev dOk (j c : Nat) (e : List Int32) : Dr := .inl (j, c, e)
abbrev dNo (k : Int32) (j : Nat) : Dr := .inr (k, j)
def sbL (L : Nat) : Nat := if L = 1 then 2 else if L = 2 then 3 else if L = 5 then 6 else 7
def biL (L : Nat) : Prop := L = 1 ∨ L = 2 ∨ L = 5 ∨ L = 6
abbrev lfK (x : Int32) : Prop := x = 38 ∨ (19 ≤ x ∧ x ≤ 24)
def leafV (k v : Int32) : Int32 := if k = 38 then v else -1 - k
abbrev bigN (k v : Int32) : Prop := k = 38 ∧ 9999 < v
abbrev Dp := Nat → Nat → Nat → Nat → List Int32 → Dr → Prop
/-- the rules of the descent: levels 1 expression 2 conjunction 3 negation 5 sum 6 product 7 primary, 10 + L the loop of L -/
def DdC (kd nv : Nat → Int32) (nx : Nat → Nat) (P : Dp) : Prop :=
  (∀ (i c : Nat) (e : List Int32), kd i = 35 → P 7 8 i c e (dNo 2 i)) ∧
  (∀ (o i c : Nat) (e : List Int32) (k : Int32) (j : Nat), o < 8 → kd i = 35 → P 1 (o + 1) (nx i) c e (dNo k j) → P 7 o i c e (dNo k j)) ∧
  (∀ (o i c : Nat) (e : List Int32) (j c2 : Nat) (e2 : List Int32), o < 8 → kd i = 35 → P 1 (o + 1) (nx i) c e (dOk j c2 e2) → ¬ kd j = 36 → P 7 o i c e (dNo 1 j)) ∧
  (∀ (o i c : Nat) (e : List Int32) (j c2 : Nat) (e2 : List Int32), o < 8 → kd i = 35 → P 1 (o + 1) (nx i) c e (dOk j c2 e2) → kd j = 36 → P 7 o i c e (dOk (nx j) c2 e2)) ∧
  (∀ (o i c : Nat) (e : List Int32), ¬ kd i = 35 → ¬ lfK (kd i) → P 7 o i c e (dNo 1 i)) ∧
  (∀ (o i c : Nat) (e : List Int32), lfK (kd i) → (c = 64 ∨ bigN (kd i) (nv i)) → P 7 o i c e (dNo 2 i)) ∧
  (∀ (o i c : Nat) (e : List Int32), lfK (kd i) → c < 64 → ¬ bigN (kd i) (nv i) → P 7 o i c e (dOk (nx i) (c + 1) (leafV (kd i) (nv i) :: e))) ∧
  (∀ (L o i c : Nat) (e : List Int32) (k : Int32) (j : Nat), biL L → P (sbL L) o i c e (dNo k j) → P L o i c e (dNo k j)) ∧
  (∀ (L o i c : Nat) (e : List Int32) (j c2 : Nat) (e2 : List Int32) (r : Dr), biL L → P (sbL L) o i c e (dOk j c2 e2) → P (10 + L) o j c2 e2 r → P L o i c e r) ∧
  (∀ (L o i c : Nat) (e : List Int32), biL L → ¬ bnd (kd i) = nI L → P (10 + L) o i c e (dOk i c e)) ∧
  (∀ (L o i : Nat) (e : List Int32), biL L → bnd (kd i) = nI L → P (10 + L) o i 64 e (dNo 2 i)) ∧
  (∀ (L o i c : Nat) (e : List Int32) (k : Int32) (j : Nat), biL L → bnd (kd i) = nI L → c < 64 → P (sbL L) o (nx i) (c + 1) e (dNo k j) → P (10 + L) o i c e (dNo k j)) ∧
  (∀ (L o i c : Nat) (e : List Int32) (j c2 : Nat) (e2 : List Int32) (r : Dr), biL L → bnd (kd i) = nI L → c < 64 → P (sbL L) o (nx i) (c + 1) e (dOk j c2 e2) → P (10 + L) o j c2 ((-1 - kd i) :: e2) r → P (10 + L) o i c e r) ∧
  (∀ (o i : Nat) (e : List Int32), kd i = 18 → P 3 o i 64 e (dNo 2 i)) ∧
  (∀ (o i c : Nat) (e : List Int32) (k : Int32) (j : Nat), kd i = 18 → c < 64 → P 3 o (nx i) (c + 1) e (dNo k j) → P 3 o i c e (dNo k j)) ∧
  (∀ (o i c : Nat) (e : List Int32) (j c2 : Nat) (e2 : List Int32), kd i = 18 → c < 64 → P 3 o (nx i) (c + 1) e (dOk j c2 e2) → P 3 o i c e (dOk j c2 ((-19) :: e2))) ∧
  (∀ (o i c : Nat) (e : List Int32) (k : Int32) (j : Nat), ¬ kd i = 18 → P 5 o i c e (dNo k j) → P 3 o i c e (dNo k j)) ∧
  (∀ (o i c : Nat) (e : List Int32) (j c2 : Nat) (e2 : List Int32), ¬ kd i = 18 → P 5 o i c e (dOk j c2 e2) → ¬ bnd (kd j) = 4 → P 3 o i c e (dOk j c2 e2)) ∧
  (∀ (o i c : Nat) (e : List Int32) (j : Nat) (e2 : List Int32), ¬ kd i = 18 → P 5 o i c e (dOk j 64 e2) → bnd (kd j) = 4 → P 3 o i c e (dNo 2 j)) ∧
  (∀ (o i c : Nat) (e : List Int32) (j c2 : Nat) (e2 : List Int32) (k : Int32) (m : Nat), ¬ kd i = 18 → P 5 o i c e (dOk j c2 e2) → bnd (kd j) = 4 → c2 < 64 → P 5 o (nx j) (c2 + 1) e2 (dNo k m) → P 3 o i c e (dNo k m)) ∧
  (∀ (o i c : Nat) (e : List Int32) (j c2 : Nat) (e2 : List Int32) (m c3 : Nat) (e3 : List Int32), ¬ kd i = 18 → P 5 o i c e (dOk j c2 e2) → bnd (kd j) = 4 → c2 < 64 → P 5 o (nx j) (c2 + 1) e2 (dOk m c3 e3) → P 3 o i c e (dOk m c3 ((-1 - kd j) :: e3)))
def Dd (kd nv : Nat → Int32) (nx : Nat → Nat) (L o i c : Nat) (e : List Int32) (r : Dr) : Prop := ∀ P : Dp, DdC kd nv nx P → P L o i c e r
theorem Dd.op8 {kd nv : Nat → Int32} {nx : Nat → Nat} {i c : Nat} {e : List Int32} (h0 : kd i = 35) : Dd kd nv nx 7 8 i c e (dNo 2 i) := fun P hC => hC.1 i c e h0
theorem Dd.opN {kd nv : Nat → Int32} {nx : Nat → Nat} {o i c : Nat} {e : List Int32} {k : Int32} {j : Nat} (h0 : o < 8) (h1 : kd i = 35) (h2 : Dd kd nv nx 1 (o + 1) (nx i) c e (dNo k j)) : Dd kd nv nx 7 o i c e (dNo k j) := fun P hC => hC.2.1 o i c e k j h0 h1 (h2 P hC)
theorem Dd.opU {kd nv : Nat → Int32} {nx : Nat → Nat} {o i c : Nat} {e : List Int32} {j c2 : Nat} {e2 : List Int32} (h0 : o < 8) (h1 : kd i = 35) (h2 : Dd kd nv nx 1 (o + 1) (nx i) c e (dOk j c2 e2)) (h3 : ¬ kd j = 36) : Dd kd nv nx 7 o i c e (dNo 1 j) := fun P hC => hC.2.2.1 o i c e j c2 e2 h0 h1 (h2 P hC) h3
theorem Dd.opY {kd nv : Nat → Int32} {nx : Nat → Nat} {o i c : Nat} {e : List Int32} {j c2 : Nat} {e2 : List Int32} (h0 : o < 8) (h1 : kd i = 35) (h2 : Dd kd nv nx 1 (o + 1) (nx i) c e (dOk j c2 e2)) (h3 : kd j = 36) : Dd kd nv nx 7 o i c e (dOk (nx j) c2 e2) := fun P hC => hC.2.2.2.1 o i c e j c2 e2 h0 h1 (h2 P hC) h3
theorem Dd.lfN {kd nv : Nat → Int32} {nx : Nat → Nat} {o i c : Nat} {e : List Int32} (h0 : ¬ kd i = 35) (h1 : ¬ lfK (kd i)) : Dd kd nv nx 7 o i c e (dNo 1 i) := fun P hC => hC.2.2.2.2.1 o i c e h0 h1
theorem Dd.lfB {kd nv : Nat → Int32} {nx : Nat → Nat} {o i c : Nat} {e : List Int32} (h0 : lfK (kd i)) (h1 : (c = 64 ∨ bigN (kd i) (nv i))) : Dd kd nv nx 7 o i c e (dNo 2 i) := fun P hC => hC.2.2.2.2.2.1 o i c e h0 h1
theorem Dd.lfY {kd nv : Nat → Int32} {nx : Nat → Nat} {o i c : Nat} {e : List Int32} (h0 : lfK (kd i)) (h1 : c < 64) (h2 : ¬ bigN (kd i) (nv i)) : Dd kd nv nx 7 o i c e (dOk (nx i) (c + 1) (leafV (kd i) (nv i) :: e)) := fun P hC => hC.2.2.2.2.2.2.1 o i c e h0 h1 h2
theorem Dd.lvN {kd nv : Nat → Int32} {nx : Nat → Nat} {L o i c : Nat} {e : List Int32} {k : Int32} {j : Nat} (h0 : biL L) (h1 : Dd kd nv nx (sbL L) o i c e (dNo k j)) : Dd kd nv nx L o i c e (dNo k j) := fun P hC => hC.2.2.2.2.2.2.2.1 L o i c e k j h0 (h1 P hC)
theorem Dd.lvY {kd nv : Nat → Int32} {nx : Nat → Nat} {L o i c : Nat} {e : List Int32} {j c2 : Nat} {e2 : List Int32} {r : Dr} (h0 : biL L) (h1 : Dd kd nv nx (sbL L) o i c e (dOk j c2 e2)) (h2 : Dd kd nv nx (10 + L) o j c2 e2 r) : Dd kd nv nx L o i c e r := fun P hC => hC.2.2.2.2.2.2.2.2.1 L o i c e j c2 e2 r h0 (h1 P hC) (h2 P hC)
theorem Dd.lpE {kd nv : Nat → Int32} {nx : Nat → Nat} {L o i c : Nat} {e : List Int32} (h0 : biL L) (h1 : ¬ bnd (kd i) = nI L) : Dd kd nv nx (10 + L) o i c e (dOk i c e) := fun P hC => hC.2.2.2.2.2.2.2.2.2.1 L o i c e h0 h1
theorem Dd.lpB {kd nv : Nat → Int32} {nx : Nat → Nat} {L o i : Nat} {e : List Int32} (h0 : biL L) (h1 : bnd (kd i) = nI L) : Dd kd nv nx (10 + L) o i 64 e (dNo 2 i) := fun P hC => hC.2.2.2.2.2.2.2.2.2.2.1 L o i e h0 h1
theorem Dd.lpN {kd nv : Nat → Int32} {nx : Nat → Nat} {L o i c : Nat} {e : List Int32} {k : Int32} {j : Nat} (h0 : biL L) (h1 : bnd (kd i) = nI L) (h2 : c < 64) (h3 : Dd kd nv nx (sbL L) o (nx i) (c + 1) e (dNo k j)) : Dd kd nv nx (10 + L) o i c e (dNo k j) := fun P hC => hC.2.2.2.2.2.2.2.2.2.2.2.1 L o i c e k j h0 h1 h2 (h3 P hC)
theorem Dd.lpY {kd nv : Nat → Int32} {nx : Nat → Nat} {L o i c : Nat} {e : List Int32} {j c2 : Nat} {e2 : List Int32} {r : Dr} (h0 : biL L) (h1 : bnd (kd i) = nI L) (h2 : c < 64) (h3 : Dd kd nv nx (sbL L) o (nx i) (c + 1) e (dOk j c2 e2)) (h4 : Dd kd nv nx (10 + L) o j c2 ((-1 - kd i) :: e2) r) : Dd kd nv nx (10 + L) o i c e r := fun P hC => hC.2.2.2.2.2.2.2.2.2.2.2.2.1 L o i c e j c2 e2 r h0 h1 h2 (h3 P hC) (h4 P hC)
theorem Dd.ntB {kd nv : Nat → Int32} {nx : Nat → Nat} {o i : Nat} {e : List Int32} (h0 : kd i = 18) : Dd kd nv nx 3 o i 64 e (dNo 2 i) := fun P hC => hC.2.2.2.2.2.2.2.2.2.2.2.2.2.1 o i e h0
theorem Dd.ntN {kd nv : Nat → Int32} {nx : Nat → Nat} {o i c : Nat} {e : List Int32} {k : Int32} {j : Nat} (h0 : kd i = 18) (h1 : c < 64) (h2 : Dd kd nv nx 3 o (nx i) (c + 1) e (dNo k j)) : Dd kd nv nx 3 o i c e (dNo k j) := fun P hC => hC.2.2.2.2.2.2.2.2.2.2.2.2.2.2.1 o i c e k j h0 h1 (h2 P hC)
theorem Dd.ntY {kd nv : Nat → Int32} {nx : Nat → Nat} {o i c : Nat} {e : List Int32} {j c2 : Nat} {e2 : List Int32} (h0 : kd i = 18) (h1 : c < 64) (h2 : Dd kd nv nx 3 o (nx i) (c + 1) e (dOk j c2 e2)) : Dd kd nv nx 3 o i c e (dOk j c2 ((-19) :: e2)) := fun P hC => hC.2.2.2.2.2.2.2.2.2.2.2.2.2.2.2.1 o i c e j c2 e2 h0 h1 (h2 P hC)
theorem Dd.cmN {kd nv : Nat → Int32} {nx : Nat → Nat} {o i c : Nat} {e : List Int32} {k : Int32} {j : Nat} (h0 : ¬ kd i = 18) (h1 : Dd kd nv nx 5 o i c e (dNo k j)) : Dd kd nv nx 3 o i c e (dNo k j) := fun P hC => hC.2.2.2.2.2.2.2.2.2.2.2.2.2.2.2.2.1 o i c e k j h0 (h1 P hC)
theorem Dd.cmE {kd nv : Nat → Int32} {nx : Nat → Nat} {o i c : Nat} {e : List Int32} {j c2 : Nat} {e2 : List Int32} (h0 : ¬ kd i = 18) (h1 : Dd kd nv nx 5 o i c e (dOk j c2 e2)) (h2 : ¬ bnd (kd j) = 4) : Dd kd nv nx 3 o i c e (dOk j c2 e2) := fun P hC => hC.2.2.2.2.2.2.2.2.2.2.2.2.2.2.2.2.2.1 o i c e j c2 e2 h0 (h1 P hC) h2
theorem Dd.cmB {kd nv : Nat → Int32} {nx : Nat → Nat} {o i c : Nat} {e : List Int32} {j : Nat} {e2 : List Int32} (h0 : ¬ kd i = 18) (h1 : Dd kd nv nx 5 o i c e (dOk j 64 e2)) (h2 : bnd (kd j) = 4) : Dd kd nv nx 3 o i c e (dNo 2 j) := fun P hC => hC.2.2.2.2.2.2.2.2.2.2.2.2.2.2.2.2.2.2.1 o i c e j e2 h0 (h1 P hC) h2
theorem Dd.cmM {kd nv : Nat → Int32} {nx : Nat → Nat} {o i c : Nat} {e : List Int32} {j c2 : Nat} {e2 : List Int32} {k : Int32} {m : Nat} (h0 : ¬ kd i = 18) (h1 : Dd kd nv nx 5 o i c e (dOk j c2 e2)) (h2 : bnd (kd j) = 4) (h3 : c2 < 64) (h4 : Dd kd nv nx 5 o (nx j) (c2 + 1) e2 (dNo k m)) : Dd kd nv nx 3 o i c e (dNo k m) := fun P hC => hC.2.2.2.2.2.2.2.2.2.2.2.2.2.2.2.2.2.2.2.1 o i c e j c2 e2 k m h0 (h1 P hC) h2 h3 (h4 P hC)
theorem Dd.cmY {kd nv : Nat → Int32} {nx : Nat → Nat} {o i c : Nat} {e : List Int32} {j c2 : Nat} {e2 : List Int32} {m c3 : Nat} {e3 : List Int32} (h0 : ¬ kd i = 18) (h1 : Dd kd nv nx 5 o i c e (dOk j c2 e2)) (h2 : bnd (kd j) = 4) (h3 : c2 < 64) (h4 : Dd kd nv nx 5 o (nx j) (c2 + 1) e2 (dOk m c3 e3)) : Dd kd nv nx 3 o i c e (dOk m c3 ((-1 - kd j) :: e3)) := fun P hC => hC.2.2.2.2.2.2.2.2.2.2.2.2.2.2.2.2.2.2.2.2 o i c e j c2 e2 m c3 e3 h0 (h1 P hC) h2 h3 (h4 P hC)
/-- what a nonterminal keeps -/
def DrB (nx : Nat → Nat) (i c : Nat) (e : List Int32) : Dr → Prop
  | .inl (j, c2, e2) => e2.length + c = e.length + c2 ∧ c ≤ c2 ∧ (c ≤ 64 → c2 ≤ 64) ∧ ((∀ x, x ≤ nx x) → i ≤ j)
  | .inr (k, _) => k = 1 ∨ k = 2
theorem Dd.b {kd nv : Nat → Int32} {nx : Nat → Nat} {L o i c : Nat} {e : List Int32} {r : Dr} (h : Dd kd nv nx L o i c e r) : DrB nx i c e r := by
  refine h (fun _ _ i c e r => DrB nx i c e r) ⟨?_, ?_, ?_, ?_, ?_, ?_, ?_, ?_, ?_, ?_, ?_, ?_, ?_, ?_, ?_, ?_, ?_, ?_, ?_, ?_, ?_⟩
  · intro i c e h0
    exact Or.inr rfl
  · intro o i c e k j h0 h1 h2
    exact h2
  · intro o i c e j c2 e2 h0 h1 h2 h3
    exact Or.inl rfl
  · intro o i c e j c2 e2 h0 h1 h2 h3
    exact ⟨h2.1, h2.2.1, h2.2.2.1, fun m => by have := h2.2.2.2 m; have := m i; have := m j; omega⟩
  · intro o i c e h0 h1
    exact Or.inl rfl
  · intro o i c e h0 h1
    exact Or.inr rfl
  · intro o i c e h0 h1 h2
    exact ⟨by rw [List.length_cons]; omega, by omega, fun _ => by omega, fun m => m i⟩
  · intro L o i c e k j h0 h1
    exact h1
  · intro L o i c e j c2 e2 r h0 h1 h2
    rcases r with ⟨j3, c3, e3⟩ | ⟨k, j3⟩
    · exact ⟨by have := h1.1; have := h2.1; omega, by have := h1.2.1; have := h2.2.1; omega, fun h => h2.2.2.1 (h1.2.2.1 h), fun m => Nat.le_trans (h1.2.2.2 m) (h2.2.2.2 m)⟩
    · exact h2
  · intro L o i c e h0 h1
    exact ⟨rfl, Nat.le_refl _, fun h => h, fun _ => Nat.le_refl _⟩
  · intro L o i e h0 h1
    exact Or.inr rfl
  · intro L o i c e k j h0 h1 h2 h3
    exact h3
  · intro L o i c e j c2 e2 r h0 h1 h2 h3 h4
    rcases r with ⟨j3, c3, e3⟩ | ⟨k, j3⟩
    · exact ⟨by have := h3.1; have := h4.1; rw [List.length_cons] at this; omega, by have := h3.2.1; have := h4.2.1; omega, fun h => h4.2.2.1 (h3.2.2.1 (by omega)), fun m => Nat.le_trans (m i) (Nat.le_trans (h3.2.2.2 m) (h4.2.2.2 m))⟩
    · exact h4
  · intro o i e h0
    exact Or.inr rfl
  · intro o i c e k j h0 h1 h2
    exact h2
  · intro o i c e j c2 e2 h0 h1 h2
    exact ⟨by have := h2.1; rw [List.length_cons]; omega, by have := h2.2.1; omega, fun h => h2.2.2.1 (by omega), fun m => Nat.le_trans (m i) (h2.2.2.2 m)⟩
  · intro o i c e k j h0 h1
    exact h1
  · intro o i c e j c2 e2 h0 h1 h2
    exact h1
  · intro o i c e j e2 h0 h1 h2
    exact Or.inr rfl
  · intro o i c e j c2 e2 k m h0 h1 h2 h3 h4
    exact h4
  · intro o i c e j c2 e2 m c3 e3 h0 h1 h2 h3 h4
    exact ⟨by have := h1.1; have := h4.1; rw [List.length_cons]; omega, by have := h1.2.1; have := h4.2.1; omega, fun h => h4.2.2.1 (by omega), fun q => Nat.le_trans (h1.2.2.2 q) (Nat.le_trans (q j) (h4.2.2.2 q))⟩
/-- the machine with signs that wait: place, knots counted, knots put, signs that wait, open, compared, an operand is due, NOT may come -/
abbrev Ms := Nat × Nat × List Int32 × List Int32 × Nat × (Nat → Bool) × Bool × Bool
abbrev Ms.i (s : Ms) : Nat := s.1
abbrev Ms.c (s : Ms) : Nat := s.2.1
abbrev Ms.em (s : Ms) : List Int32 := s.2.2.1
abbrev Ms.wt (s : Ms) : List Int32 := s.2.2.2.1
abbrev Ms.op (s : Ms) : Nat := s.2.2.2.2.1
abbrev Ms.cb (s : Ms) : Nat → Bool := s.2.2.2.2.2.1
abbrev Ms.due (s : Ms) : Bool := s.2.2.2.2.2.2.1
abbrev Ms.nt (s : Ms) : Bool := s.2.2.2.2.2.2.2
abbrev Mres := (Nat × Nat × List Int32) ⊕ (Int32 × Nat)
abbrev mFin (i c : Nat) (em : List Int32) : Mres := .inl (i, c, em)
abbrev mNo (k : Int32) (i : Nat) : Mres := .inr (k, i)
def pdL (b : Int32) : List Int32 → List Int32 → List Int32 × List Int32
  | [], e => ([], e)
  | x :: w, e => if bnd x < b then (x :: w, e) else pdL b w ((-1 - x) :: e)
def setB (g : Nat → Bool) (k : Nat) (v : Bool) : Nat → Bool := fun j => if j = k then v else g j
def mst (kd nv : Nat → Int32) (nx : Nat → Nat) (s : Ms) : Mres ⊕ Ms :=
  if s.due = true then
    if kd s.i = 35 then
      if s.op = 8 then .inl (mNo 2 s.i) else .inr (nx s.i, s.c, s.em, 35 :: s.wt, s.op + 1, setB s.cb (s.op + 1) false, true, true)
    else if lfK (kd s.i) ∨ (kd s.i = 18 ∧ s.nt = true) then
      if s.c = 64 ∨ bigN (kd s.i) (nv s.i) then .inl (mNo 2 s.i)
      else if kd s.i = 18 then .inr (nx s.i, s.c + 1, s.em, 18 :: s.wt, s.op, s.cb, true, s.nt)
      else .inr (nx s.i, s.c + 1, leafV (kd s.i) (nv s.i) :: s.em, s.wt, s.op, s.cb, false, s.nt)
    else .inl (mNo 1 s.i)
  else if s.op = 0 ∧ kd s.i = 37 then .inl (mFin s.i s.c (pdL 1 s.wt s.em).2)
  else if kd s.i = 36 ∧ 0 < s.op then .inr (nx s.i, s.c, (pdL 1 s.wt s.em).2, (pdL 1 s.wt s.em).1.tail, s.op - 1, s.cb, false, s.nt)
  else if bnd (kd s.i) = 0 ∨ kd s.i = 18 ∨ (bnd (kd s.i) = 4 ∧ s.cb s.op = true) then .inl (mNo 1 s.i)
  else if s.c = 64 then .inl (mNo 2 s.i)
  else .inr (nx s.i, s.c + 1, (pdL (bnd (kd s.i)) s.wt s.em).2, kd s.i :: (pdL (bnd (kd s.i)) s.wt s.em).1, s.op, (if bnd (kd s.i) = 4 then setB s.cb s.op true else if kd s.i = 17 ∨ kd s.i = 16 then setB s.cb s.op false else s.cb), true, decide (kd s.i = 17 ∨ kd s.i = 16))
def mrn (f : Ms → Mres ⊕ Ms) : Nat → Ms → Option Mres
  | 0, _ => none
  | k + 1, s => Sum.elim some (mrn f k) (f s)
def Mrun (kd nv : Nat → Int32) (nx : Nat → Nat) (s : Ms) (r : Mres) : Prop := ∃ k, mrn (mst kd nv nx) k s = some r
theorem Mrun.stop {kd nv : Nat → Int32} {nx : Nat → Nat} {s : Ms} {r : Mres} (h : mst kd nv nx s = .inl r) : Mrun kd nv nx s r := ⟨1, by show Sum.elim _ _ (mst kd nv nx s) = _; rw [h]; rfl⟩
theorem Mrun.go {kd nv : Nat → Int32} {nx : Nat → Nat} {s t : Ms} {r : Mres} (h : mst kd nv nx s = .inr t) (d : Mrun kd nv nx t r) : Mrun kd nv nx s r := d.elim (fun k hk => ⟨k + 1, by show Sum.elim _ _ (mst kd nv nx s) = _; rw [h]; exact hk⟩)
theorem mrn_det {f : Ms → Mres ⊕ Ms} {r r2 : Mres} : ∀ (k m : Nat) (s : Ms), mrn f k s = some r → mrn f m s = some r2 → r = r2
  | 0, _, _, h, _ => by cases h
  | _ + 1, 0, _, _, h => by cases h
  | k + 1, m + 1, s, h, g => by
    unfold mrn at h g
    cases e : f s with
    | inl a => rw [e] at h g; cases h; cases g; rfl
    | inr t => rw [e] at h g; exact mrn_det k m t h g
theorem Mrun.det {kd nv : Nat → Int32} {nx : Nat → Nat} {s : Ms} {r r2 : Mres} (h : Mrun kd nv nx s r) (g : Mrun kd nv nx s r2) : r = r2 := h.elim (fun k hk => g.elim (fun m hm => mrn_det k m s hk hm))
def pdA : List Int32 → List Int32 → List Int32
  | [], e => e
  | x :: p, e => pdA p ((-1 - x) :: e)
theorem pdA_app : ∀ (p q e : List Int32), pdA (p ++ q) e = pdA q (pdA p e)
  | [], _, _ => rfl
  | _ :: p, q, _ => pdA_app p q _
def hdB (w : List Int32) (b : Int32) : Prop := ∀ x t, w = x :: t → bnd x < b
theorem pdL_app {b : Int32} : ∀ (p w e : List Int32), (∀ x ∈ p, b ≤ bnd x) → hdB w b → pdL b (p ++ w) e = (w, pdA p e)
  | [], [], e, _, _ => rfl
  | [], y :: w, e, _, h => by
    show (if bnd y < b then (y :: w, e) else _) = _
    rw [if_pos (h y w rfl)]; rfl
  | x :: p, w, e, h, h2 => by
    show (if bnd x < b then _ else pdL b (p ++ w) ((-1 - x) :: e)) = _
    rw [if_neg (Int32.not_lt.mpr (h x (List.mem_cons_self ..))), pdL_app p w _ (fun y hy => h y (List.mem_cons_of_mem _ hy)) h2]; rfl
theorem bnd_of (x : Int32) : (bnd x = 0 ∨ bnd x = 1 ∨ bnd x = 2 ∨ bnd x = 3 ∨ bnd x = 4 ∨ bnd x = 5 ∨ bnd x = 6) ∧ (bnd x = 3 → x = 18) ∧ (bnd x = 1 → x = 16) ∧ (bnd x = 2 → x = 17) ∧ ((x = 17 ∨ x = 16) → bnd x = 1 ∨ bnd x = 2) ∧ (x = 18 → bnd x = 3) ∧ (x = 36 → bnd x = 0) ∧ (x = 37 → bnd x = 0) := by
  refine ⟨?_, ?_, ?_, ?_, ?_, ?_, ?_, ?_⟩
  · unfold bnd; repeat' split
    all_goals decide
  · unfold bnd; intro h; repeat' split at h
    all_goals first | assumption | exact absurd h (by decide)
  · unfold bnd; intro h; repeat' split at h
    all_goals first | assumption | exact absurd h (by decide)
  · unfold bnd; intro h; repeat' split at h
    all_goals first | assumption | exact absurd h (by decide)
  · rintro (rfl | rfl) <;> decide
  · rintro rfl; decide
  · rintro rfl; decide
  · rintro rfl; decide
