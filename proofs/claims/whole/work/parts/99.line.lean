/-- a plan that is being read: its rows (0 the numbers, 1-4 names, 5-9 walkers, 10-11 fat ones, 12-13 sleepers), how many of each kind, laws, knots counted, words told, a cell was told -/
abbrev Pl := (Nat → Nat → Int32) × (Nat → Nat) × (Nat → List Int32) × Nat × (Nat → Bool) × Bool
abbrev Pl.D (p : Pl) : Nat → Nat → Int32 := p.1
abbrev Pl.ct (p : Pl) : Nat → Nat := p.2.1
abbrev Pl.lw (p : Pl) : Nat → List Int32 := p.2.2.1
abbrev Pl.c (p : Pl) : Nat := p.2.2.2.1
abbrev Pl.tb (p : Pl) : Nat → Bool := p.2.2.2.2.1
abbrev Pl.hc (p : Pl) : Bool := p.2.2.2.2.2
abbrev Rs := (Pl × Nat) ⊕ (Int32 × Nat)
def set2 (D : Nat → Nat → Int32) (r j : Nat) (x : Int32) : Nat → Nat → Int32 := fun a => if a = r then upd (D a) j x else D a
def setN (ct : Nat → Nat) (k v : Nat) : Nat → Nat := fun a => if a = k then v else ct a
def setL (lw : Nat → List Int32) (k : Nat) (e : List Int32) : Nat → List Int32 := fun a => if a = k then e else lw a
theorem set2_s {D : Nat → Nat → Int32} {r j : Nat} {x : Int32} : set2 D r j x r j = x := by unfold set2; rw [if_pos rfl]; exact pk_us
theorem set2_n {D : Nat → Nat → Int32} {r j a b : Nat} {x : Int32} (h : a ≠ r ∨ b ≠ j) : set2 D r j x a b = D a b := by
  unfold set2
  by_cases e : a = r
  · rw [if_pos e]; exact pk_un (h.elim (fun g => absurd e g) id)
  · rw [if_neg e]
theorem set2_r {D : Nat → Nat → Int32} {r j : Nat} {x : Int32} : set2 D r j x r = upd (D r) j x := if_pos rfl
theorem set2_o {D : Nat → Nat → Int32} {r j a : Nat} {x : Int32} (h : a ≠ r) : set2 D r j x a = D a := if_neg h
theorem setN_s {ct : Nat → Nat} {k v : Nat} : setN ct k v k = v := if_pos rfl
theorem setN_n {ct : Nat → Nat} {k v a : Nat} (h : a ≠ k) : setN ct k v a = ct a := if_neg h
theorem setL_s {lw : Nat → List Int32} {k : Nat} {e : List Int32} : setL lw k e k = e := if_pos rfl
theorem setL_n {lw : Nat → List Int32} {k a : Nat} {e : List Int32} (h : a ≠ k) : setL lw k e a = lw a := if_neg h
/-- a number is taken: 0, or the fault -/
def nmQ (kd nv : Nat → Int32) (lo hi : Int32) (i : Nat) : Int32 := if kd i = 38 then (if nv i < lo ∨ hi < nv i then 2 else 0) else 1
/-- a name is taken -/
def naQ (kd nv : Nat → Int32) (N : Nat → Int32) (m i : Nat) : Int32 := if kd i = 39 then (if wdF (fun j => decide (N j = nv i)) m 0 = -1 then 0 else 3) else 1
def qK (q : Int32) (i : Nat) (r : Rs) : Rs := if q = 0 then r else .inr (q, i)
theorem qK_0 {q : Int32} {i : Nat} {r : Rs} (h : q = 0) : qK q i r = r := if_pos h
theorem qK_n {q : Int32} {i : Nat} {r : Rs} (h : ¬ q = 0) : qK q i r = .inr (q, i) := if_neg h
noncomputable def mRes (kd nv : Nat → Int32) (nx : Nat → Nat) (i c : Nat) : Mres := Classical.epsilon (fun r => Mrun kd nv nx (ms0 i c) r)
theorem mRes_eq {kd nv : Nat → Int32} {nx : Nat → Nat} {i c : Nat} {r : Mres} (h : Mrun kd nv nx (ms0 i c) r) : mRes kd nv nx i c = r := (Classical.epsilon_spec (p := fun r => Mrun kd nv nx (ms0 i c) r) ⟨r, h⟩).det h
/-- the lines, up to their ';' -/
def lnB (kd nv : Nat → Int32) (nx : Nat → Nat) (p : Pl) (i : Nat) : Rs :=
  if p.tb 0 = true then .inr (3, i) else if p.hc = true then .inr (4, i) else
  qK (nmQ kd nv 2 12 (nx i)) (nx i) (qK (nmQ kd nv 0 9 (nx (nx i))) (nx (nx i)) (qK (nmQ kd nv 0 9 (nx (nx (nx i)))) (nx (nx (nx i)))
   (.inl ((set2 (set2 (set2 p.D 0 0 (nv (nx i))) 0 1 (nv (nx (nx i)))) 0 2 (nv (nx (nx (nx i)))), p.ct, p.lw, p.c, setB p.tb 0 true, p.hc), nx (nx (nx (nx i)))))))
def lnS (kd nv : Nat → Int32) (nx : Nat → Nat) (w ix : Nat) (hi : Int32) (p : Pl) (i : Nat) : Rs :=
  if p.tb w = true then .inr (3, i) else qK (nmQ kd nv 0 hi (nx i)) (nx i) (.inl ((set2 p.D 0 ix (nv (nx i)), p.ct, p.lw, p.c, setB p.tb w true, p.hc), nx (nx i)))
def addW (p : Pl) (na wt bt fr wy sy : Int32) (hc : Bool) : Pl := (set2 (set2 (set2 (set2 (set2 (set2 p.D 1 (p.ct 0) na) 5 (p.ct 0) wt) 6 (p.ct 0) bt) 7 (p.ct 0) fr) 8 (p.ct 0) wy) 9 (p.ct 0) sy, setN p.ct 0 (p.ct 0 + 1), p.lw, p.c, p.tb, hc)
def lnW (kd nv : Nat → Int32) (nx : Nat → Nat) (p : Pl) (i : Nat) : Rs :=
  if p.ct 0 = 6 then .inr (2, i) else
  qK (naQ kd nv (p.D 1) (p.ct 0) (nx i)) (nx i) (qK (nmQ kd nv 1 30 (nx (nx i))) (nx (nx i)) (qK (nmQ kd nv 1 9 (nx (nx (nx i)))) (nx (nx (nx i))) (qK (nmQ kd nv 0 60 (nx (nx (nx (nx i))))) (nx (nx (nx (nx i))))
   (if kd (nx (nx (nx (nx (nx i))))) = 13 then
      qK (nmQ kd nv 0 (p.D 0 0 - 1) (nx (nx (nx (nx (nx (nx i))))))) (nx (nx (nx (nx (nx (nx i))))))
       (.inl (addW p (nv (nx i)) (nv (nx (nx i))) (nv (nx (nx (nx i)))) (nv (nx (nx (nx (nx i))))) 0 (nv (nx (nx (nx (nx (nx (nx i))))))) true, nx (nx (nx (nx (nx (nx (nx i))))))))
    else if kd (nx (nx (nx (nx (nx i))))) = 11 ∨ kd (nx (nx (nx (nx (nx i))))) = 12 then
      .inl (addW p (nv (nx i)) (nv (nx (nx i))) (nv (nx (nx (nx i)))) (nv (nx (nx (nx (nx i))))) (if kd (nx (nx (nx (nx (nx i))))) = 12 then -1 else 1) 0 p.hc, nx (nx (nx (nx (nx (nx i))))))
    else .inr (1, nx (nx (nx (nx (nx i)))))))))
def addF (p : Pl) (na ce ca : Int32) : Pl := (set2 (set2 (set2 p.D 2 (p.ct 1) na) 10 (p.ct 1) ce) 11 (p.ct 1) ca, setN p.ct 1 (p.ct 1 + 1), p.lw, p.c, p.tb, true)
def lnT (kd nv : Nat → Int32) (nx : Nat → Nat) (p : Pl) (i : Nat) : Rs :=
  if p.ct 1 = 4 then .inr (2, i) else
  qK (naQ kd nv (p.D 2) (p.ct 1) (nx i)) (nx i) (qK (nmQ kd nv 0 (p.D 0 0 - 1) (nx (nx i))) (nx (nx i))
   (if wdF (fun j => decide (p.D 10 j = nv (nx (nx i)))) (p.ct 1) 0 = -1 then
      qK (nmQ kd nv 1 99 (nx (nx (nx i)))) (nx (nx (nx i))) (.inl (addF p (nv (nx i)) (nv (nx (nx i))) (nv (nx (nx (nx i)))), nx (nx (nx (nx i)))))
    else .inr (5, nx (nx i))))
def addZ (p : Pl) (na ce wa : Int32) : Pl := (set2 (set2 (set2 p.D 3 (p.ct 2) na) 12 (p.ct 2) ce) 13 (p.ct 2) wa, setN p.ct 2 (p.ct 2 + 1), p.lw, p.c, p.tb, true)
def lnZ (kd nv : Nat → Int32) (nx : Nat → Nat) (p : Pl) (i : Nat) : Rs :=
  if p.ct 2 = 4 then .inr (2, i) else
  qK (naQ kd nv (p.D 3) (p.ct 2) (nx i)) (nx i) (qK (nmQ kd nv 0 (p.D 0 0 - 1) (nx (nx i))) (nx (nx i)) (qK (nmQ kd nv 1 9999 (nx (nx (nx i)))) (nx (nx (nx i)))
   (.inl (addZ p (nv (nx i)) (nv (nx (nx i))) (nv (nx (nx (nx i)))), nx (nx (nx (nx i)))))))
noncomputable def lnM (kd nv : Nat → Int32) (nx : Nat → Nat) (p : Pl) (i : Nat) : Rs :=
  if p.ct 3 = 3 then .inr (2, i) else
  qK (naQ kd nv (p.D 4) (p.ct 3) (nx i)) (nx i) (Sum.elim (fun x => .inl ((set2 p.D 4 (p.ct 3) (nv (nx i)), setN p.ct 3 (p.ct 3 + 1), setL p.lw (2 + p.ct 3) x.2.2, x.2.1, p.tb, p.hc), x.1)) .inr (mRes kd nv nx (nx (nx i)) p.c))
noncomputable def lnL (kd nv : Nat → Int32) (nx : Nat → Nat) (p : Pl) (i : Nat) : Rs :=
  if kd (nx i) = 14 then (if p.tb 14 = true then .inr (3, nx i) else Sum.elim (fun x => .inl ((p.D, p.ct, setL p.lw 0 x.2.2, x.2.1, setB p.tb 14 true, p.hc), x.1)) .inr (mRes kd nv nx (nx (nx i)) p.c))
  else if kd (nx i) = 15 then (if p.tb 15 = true then .inr (3, nx i) else Sum.elim (fun x => .inl ((p.D, p.ct, setL p.lw 1 x.2.2, x.2.1, setB p.tb 15 true, p.hc), x.1)) .inr (mRes kd nv nx (nx (nx i)) p.c))
  else .inr (1, nx i)
noncomputable def lnC (kd nv : Nat → Int32) (nx : Nat → Nat) (p : Pl) (i : Nat) : Rs :=
  if kd i = 0 then lnB kd nv nx p i else if kd i = 1 then lnS kd nv nx 1 3 99 p i else if kd i = 2 then lnS kd nv nx 2 4 9 p i else if kd i = 3 then lnS kd nv nx 3 5 9999 p i
  else if kd i = 4 then lnW kd nv nx p i else if kd i = 5 then lnT kd nv nx p i else if kd i = 6 then lnZ kd nv nx p i else if kd i = 7 then lnS kd nv nx 7 10 99 p i
  else if kd i = 8 then lnS kd nv nx 8 11 99999 p i else if kd i = 9 then lnM kd nv nx p i else if kd i = 10 then lnL kd nv nx p i else .inr (1, i)
noncomputable def lnF (kd nv : Nat → Int32) (nx : Nat → Nat) (p : Pl) (i : Nat) : Rs := Sum.elim (fun x => if kd x.2 = 37 then .inl (x.1, nx x.2) else .inr (1, x.2)) .inr (lnC kd nv nx p i)
/-- the lines of a text -/
noncomputable def txF (kd nv : Nat → Int32) (nx : Nat → Nat) : Nat → Pl → Nat → Nat → Rs
  | 0, _, i, _ => .inr (1, i)
  | k + 1, p, i, m => if kd i = 40 then .inl (p, m) else Sum.elim (fun x => txF kd nv nx k x.1 x.2 (m + 1)) .inr (lnF kd nv nx p i)
/-- the class's places of the rows; the kinds of the rows; the places of the laws -/
def cOf (r : Nat) : Nat := if r ≤ 4 then r + 2 else if r ≤ 9 then r + 3 else r + 4
def knD (r : Nat) : Nat := if r = 1 ∨ (5 ≤ r ∧ r ≤ 9) then 0 else if r = 2 ∨ r = 10 ∨ r = 11 then 1 else if r = 3 ∨ r = 12 ∨ r = 13 then 2 else 3
def laO (k : Nat) : Nat := if k = 0 then 18 else if k = 1 then 21 else 19 + 3 * k
/-- the class's plan at pl is p -/
def CPl (M : Mm) (pl : Nat) (p : Pl) : Prop := (M.1 pl 0 = p.D 0 0 ∧ M.1 pl 1 = p.D 0 1 ∧ M.1 pl 2 = p.D 0 2 ∧ M.1 pl 3 = p.D 0 3 ∧ M.1 pl 4 = p.D 0 4 ∧ M.1 pl 5 = p.D 0 5 ∧ M.1 pl 6 = p.D 0 10 ∧ M.1 pl 7 = p.D 0 11 ∧ M.1 pl 8 = nI p.c) ∧ (∀ k, k < 4 → M.1 (pl + 1) k = nI (p.ct k)) ∧ (M.1 (pl + 7) 0 = nI (p.ct 0) ∧ M.1 (pl + 13) 0 = nI (p.ct 1)) ∧ (∀ r, 1 ≤ r → r ≤ 13 → ∀ j, j < p.ct (knD r) → M.1 (pl + cOf r) j = p.D r j) ∧ (∀ k, k < 5 → M.1 (pl + laO k) 0 = nI (p.lw k).length ∧ lsR (M.1 (pl + laO k + 1)) (p.lw k))
/-- the reference's rows -/
def rCl (r : Nat) : Nat := if r = 1 then 152 else if r = 2 then 158 else if r = 3 then 161 else if r = 4 then 164 else if r ≤ 9 then 148 + r else if r ≤ 11 then 149 + r else 150 + r
def rOf (k : Nat) : Nat := if k = 0 then 6 else if k = 3 then 3 else 4
def arL : List Int32 → Option Nat
  | [] => some 0
  | x :: e => (arL e).bind (arS x)
def RPl (M : Mm) (p : Pl) : Prop := (∀ k, k < 6 ∨ k = 10 ∨ k = 11 → M.1 151 (13 + k) = p.D 0 k) ∧ (∀ k, k < 4 → M.1 151 (19 + k) = nI (p.ct k)) ∧ M.1 151 25 = nI p.c ∧ (∀ r, 1 ≤ r → r ≤ 13 → ∀ j, j < p.ct (knD r) → (r = 9 → p.D 8 j = 0) → M.1 (rCl r) (rOf (knD r) + j) = p.D r j) ∧ (∀ k, k < 5 → ∃ f0, M.1 165 (5 + k) = nI f0 ∧ M.1 166 (5 + k) = nI (f0 + (p.lw k).length) ∧ f0 + (p.lw k).length ≤ p.c ∧ knE (M.1 167) (M.1 168) f0 (p.lw k) ∧ (p.lw k = [] ∨ arL (p.lw k) = some 1))
theorem rows_i : ∀ r, r < 14 → ∀ s, s < 14 → r = 0 ∨ s = 0 ∨ r = s ∨ (¬ cOf r = cOf s ∧ ¬ rCl r = rCl s) := by decide
theorem rows_c : ∀ r, r ≤ 13 → 1 ≤ r → 3 ≤ cOf r ∧ cOf r ≤ 17 ∧ ¬ cOf r = 7 ∧ ¬ cOf r = 13 ∧ 152 ≤ rCl r ∧ rCl r ≤ 164 ∧ knD r < 4 := by decide
theorem laws_c : ∀ k, k < 5 → 18 ≤ laO k ∧ laO k ≤ 31 := by decide
theorem laws_i : ∀ k, k < 5 → ∀ m, m < 5 → k ≠ m → laO k ≠ laO m ∧ laO k ≠ laO m + 1 := by decide
