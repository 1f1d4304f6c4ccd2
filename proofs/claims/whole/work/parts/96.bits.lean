def bitR (x : Int32) (b : Nat → Bool) : Prop := ∀ j, j ≤ 8 → ((x >>> (nI j &&& 31)) &&& 1 = 1 ↔ b j = true)
theorem bv1 (z : BitVec 32) : z &&& 1#32 = 1#32 ↔ z.getLsbD 0 = true := by
  rw [BitVec.and_one_eq_setWidth_ofBool_getLsbD]
  cases z.getLsbD 0 <;> decide
theorem bt_sh (x : Int32) : ∀ j, j ≤ 8 → (x >>> (nI j &&& 31)).toBitVec = x.toBitVec.sshiftRight j := by
  intro j hj
  match j, hj with
  | 0, _ => rfl
  | 1, _ => rfl
  | 2, _ => rfl
  | 3, _ => rfl
  | 4, _ => rfl
  | 5, _ => rfl
  | 6, _ => rfl
  | 7, _ => rfl
  | 8, _ => rfl
theorem bt (x : Int32) {j : Nat} (hj : j ≤ 8) : ((x >>> (nI j &&& 31)) &&& 1 = 1) ↔ x.toBitVec.getLsbD j = true := by
  rw [← Int32.toBitVec_inj, Int32.toBitVec_and, bt_sh x j hj]
  show x.toBitVec.sshiftRight j &&& 1#32 = 1#32 ↔ _
  rw [bv1, BitVec.getLsbD_sshiftRight]
  have : j + 0 < 32 := by omega
  rw [if_pos this, Nat.add_zero, show decide (32 ≤ 0) = false from rfl]; simp
theorem sh1 : ∀ k, k ≤ 8 → ∀ j, j ≤ 8 → ((1 : Int32) <<< (nI k &&& 31)).toBitVec.getLsbD j = decide (j = k) := by decide
theorem bit_set {x : Int32} {b : Nat → Bool} {k : Nat} (h : bitR x b) (hk : k ≤ 8) : bitR (x ||| ((1 : Int32) <<< (nI k &&& 31))) (setB b k true) := by
  intro j hj
  have hh := (bt x hj).symm.trans (h j hj)
  rw [bt _ hj, Int32.toBitVec_or, BitVec.getLsbD_or, sh1 k hk j hj]
  unfold setB
  by_cases e : j = k
  · rw [if_pos e, decide_eq_true e, Bool.or_true]
  · rw [if_neg e, decide_eq_false e, Bool.or_false]; exact hh
theorem bit_clr {x : Int32} {b : Nat → Bool} {k : Nat} (h : bitR x b) (hk : k ≤ 8) : bitR (x &&& (((1 : Int32) <<< (nI k &&& 31)) ^^^ (-1))) (setB b k false) := by
  intro j hj
  have hh := (bt x hj).symm.trans (h j hj)
  rw [bt _ hj, Int32.toBitVec_and, BitVec.getLsbD_and, Int32.toBitVec_xor, BitVec.getLsbD_xor, sh1 k hk j hj, show ((-1 : Int32)).toBitVec.getLsbD j = true from (show ∀ j, j ≤ 8 → ((-1 : Int32)).toBitVec.getLsbD j = true by decide) j hj]
  unfold setB
  by_cases e : j = k
  · rw [if_pos e, decide_eq_true e]; simp
  · rw [if_neg e, decide_eq_false e]; simp; simpa using hh
theorem bitR_0 : bitR 0 (fun _ => false) := by
  intro j hj
  rw [bt _ hj]
  exact ⟨fun g => by rw [show ((0 : Int32)).toBitVec = 0#32 from rfl, BitVec.getLsbD_zero] at g; exact g, fun g => Bool.noConfusion g⟩
/-- a row bears the list, its first the last -/
def lsR (E : Nat → Int32) : List Int32 → Prop
  | [] => True
  | x :: t => E t.length = x ∧ lsR E t
theorem lsR.up {E E2 : Nat → Int32} : ∀ w : List Int32, (∀ j, j < w.length → E2 j = E j) → lsR E w → lsR E2 w
  | [], _, _ => trivial
  | x :: t, h, g => ⟨(h t.length (by rw [List.length_cons]; omega)).trans g.1, lsR.up t (fun j hj => h j (by rw [List.length_cons]; omega)) g.2⟩
theorem lsR.c {E : Nat → Int32} {w : List Int32} {x : Int32} (h : lsR E w) : lsR (upd E w.length x) (x :: w) := ⟨pk_us, lsR.up w (fun j hj => pk_un (by omega)) h⟩
theorem pdF_L {W : Nat → Int32} {b : Int32} : ∀ (w e : List Int32) (E : Nat → Int32), lsR W w → lsR E e → ∃ E2, pdF W b w.length e.length E = ((pdL b w e).1.length, (pdL b w e).2.length, E2) ∧ lsR E2 (pdL b w e).2 ∧ lsR W (pdL b w e).1
  | [], e, E, _, he => ⟨E, rfl, he, trivial⟩
  | x :: w, e, E, hw, he => by
    show ∃ E2, (if bnd (W w.length) < b then (w.length + 1, e.length, E) else pdF W b w.length (e.length + 1) (upd E e.length (-1 - W w.length))) = _ ∧ _
    unfold pdL
    rw [hw.1]
    by_cases h : bnd x < b
    · rw [if_pos h, if_pos h]; exact ⟨E, rfl, he, hw⟩
    · rw [if_neg h, if_neg h]
      exact pdF_L w ((-1 - x) :: e) _ hw.2 he.c
/-- how many that wait are no '(' -/
def nO : List Int32 → Nat
  | [] => 0
  | x :: t => (if x = 35 then 0 else 1) + nO t
def wtO (w : List Int32) : Prop := ∀ x ∈ w, x = 35 ∨ ¬ bnd x < 1
theorem nO_le : ∀ w, nO w ≤ w.length
  | [] => Nat.le_refl 0
  | x :: t => by
    have := nO_le t
    unfold nO
    rw [List.length_cons]
    split <;> omega
theorem b35 {b x : Int32} (hb : 1 ≤ b) (h : ¬ bnd x < b) : ¬ x = 35 := by
  rintro rfl
  exact h (Int32.lt_of_lt_of_le (show bnd 35 < 1 by decide) hb)
theorem pdL_n {b : Int32} (hb : 1 ≤ b) : ∀ (w e : List Int32), (pdL b w e).2.length + nO (pdL b w e).1 = e.length + nO w ∧ (pdL b w e).1.length + nO w = w.length + nO (pdL b w e).1 ∧ (wtO w → wtO (pdL b w e).1) ∧ (∀ x t, (pdL b w e).1 = x :: t → bnd x < b)
  | [], e => ⟨rfl, rfl, fun h => h, fun x t g => by cases g⟩
  | x :: w, e => by
    unfold pdL
    by_cases h : bnd x < b
    · rw [if_pos h]; exact ⟨rfl, rfl, fun h => h, fun y t g => by cases g; exact h⟩
    · rw [if_neg h]
      have ih := pdL_n hb w ((-1 - x) :: e)
      have e1 : nO (x :: w) = 1 + nO w := by show (if x = 35 then 0 else 1) + nO w = _; rw [if_neg (b35 hb h)]
      rw [e1]
      refine ⟨by have := ih.1; rw [List.length_cons] at this; omega, by have := ih.2.1; rw [List.length_cons]; omega, fun g => ih.2.2.1 (fun y hy => g y (List.mem_cons_of_mem _ hy)), ih.2.2.2⟩
/-- the machine keeps its bounds -/
def mI (s : Ms) : Prop := s.em.length + nO s.wt ≤ s.c ∧ s.c ≤ 64 ∧ s.wt.length ≤ nO s.wt + s.op ∧ s.op ≤ 8 ∧ wtO s.wt
theorem wtO_c {x : Int32} {w : List Int32} (h : wtO w) (hx : x = 35 ∨ ¬ bnd x < 1) : wtO (x :: w) := fun y hy => by
  rcases List.mem_cons.mp hy with rfl | hy
  · exact hx
  · exact h y hy
theorem mI_op {i i2 c op : Nat} {em wt : List Int32} {cb cb2 : Nat → Bool} {d d2 t t2 : Bool} (h : mI (i, c, em, wt, op, cb, d, t)) (ho : op < 8) : mI (i2, c, em, 35 :: wt, op + 1, cb2, d2, t2) := by
  obtain ⟨h1, h2, h3, h4, h5⟩ := h
  refine ⟨?_, h2, ?_, ho, wtO_c h5 (Or.inl rfl)⟩
  · show em.length + ((if (35 : Int32) = 35 then 0 else 1) + nO wt) ≤ c
    rw [if_pos rfl]; have : em.length + nO wt ≤ c := h1; omega
  · show wt.length + 1 ≤ ((if (35 : Int32) = 35 then 0 else 1) + nO wt) + (op + 1)
    rw [if_pos rfl]; have : wt.length ≤ nO wt + op := h3; omega
theorem mI_nt {i i2 c op : Nat} {em wt : List Int32} {x : Int32} {cb cb2 : Nat → Bool} {d d2 t t2 : Bool} (h : mI (i, c, em, wt, op, cb, d, t)) (hc : c < 64) (hx : ¬ x = 35) (hb : ¬ bnd x < 1) : mI (i2, c + 1, em, x :: wt, op, cb2, d2, t2) := by
  obtain ⟨h1, h2, h3, h4, h5⟩ := h
  refine ⟨?_, hc, ?_, h4, wtO_c h5 (Or.inr hb)⟩
  · show em.length + ((if x = 35 then 0 else 1) + nO wt) ≤ c + 1
    rw [if_neg hx]; have : em.length + nO wt ≤ c := h1; omega
  · show wt.length + 1 ≤ ((if x = 35 then 0 else 1) + nO wt) + op
    rw [if_neg hx]; have : wt.length ≤ nO wt + op := h3; omega
theorem mI_lf {i i2 c op : Nat} {em wt : List Int32} {x : Int32} {cb cb2 : Nat → Bool} {d d2 t t2 : Bool} (h : mI (i, c, em, wt, op, cb, d, t)) (hc : c < 64) : mI (i2, c + 1, x :: em, wt, op, cb2, d2, t2) := by
  obtain ⟨h1, h2, h3, h4, h5⟩ := h
  exact ⟨by show em.length + 1 + nO wt ≤ c + 1; have : em.length + nO wt ≤ c := h1; omega, hc, h3, h4, h5⟩
theorem mI_pd {i i2 c op : Nat} {em wt : List Int32} {b : Int32} {cb cb2 : Nat → Bool} {d d2 t t2 : Bool} (hb : 1 ≤ b) (h : mI (i, c, em, wt, op, cb, d, t)) : mI (i2, c, (pdL b wt em).2, (pdL b wt em).1, op, cb2, d2, t2) := by
  obtain ⟨h1, h2, h3, h4, h5⟩ := h
  obtain ⟨g1, g2, g3, _⟩ := pdL_n hb wt em
  have a1 : em.length + nO wt ≤ c := h1
  have a3 : wt.length ≤ nO wt + op := h3
  exact ⟨by show (pdL b wt em).2.length + nO (pdL b wt em).1 ≤ c; omega, h2, by show (pdL b wt em).1.length ≤ nO (pdL b wt em).1 + op; omega, h4, g3 h5⟩
theorem mI_cl {i i2 c op : Nat} {em wt : List Int32} {cb cb2 : Nat → Bool} {d d2 t t2 : Bool} (h : mI (i, c, em, wt, op, cb, d, t)) (ho : 0 < op) : mI (i2, c, (pdL 1 wt em).2, (pdL 1 wt em).1.tail, op - 1, cb2, d2, t2) := by
  have hd := (pdL_n (b := 1) (by decide) wt em).2.2.2
  obtain ⟨h1, h2, h3, h4, h5⟩ := mI_pd (b := 1) (i2 := i2) (cb2 := cb2) (d2 := d2) (t2 := t2) (by decide) h
  have a1 : (pdL 1 wt em).2.length + nO (pdL 1 wt em).1 ≤ c := h1
  have a3 : (pdL 1 wt em).1.length ≤ nO (pdL 1 wt em).1 + op := h3
  have a5 : wtO (pdL 1 wt em).1 := h5
  have a4 : op ≤ 8 := h4
  clear h1 h3 h4 h5
  show (pdL 1 wt em).2.length + nO (pdL 1 wt em).1.tail ≤ c ∧ c ≤ 64 ∧ (pdL 1 wt em).1.tail.length ≤ nO (pdL 1 wt em).1.tail + (op - 1) ∧ op - 1 ≤ 8 ∧ wtO (pdL 1 wt em).1.tail
  generalize (pdL 1 wt em).1 = w at hd a1 a3 a5
  cases w with
  | nil => exact ⟨a1, h2, Nat.zero_le _, by omega, a5⟩
  | cons x u =>
    have hx : x = 35 := (a5 x (List.mem_cons_self ..)).elim (fun e => e) (fun e => absurd (hd x u rfl) e)
    subst hx
    have e1 : nO (35 :: u) = nO u := by show (if (35 : Int32) = 35 then 0 else 1) + nO u = _; rw [if_pos rfl, Nat.zero_add]
    rw [e1] at a1 a3
    rw [List.length_cons] at a3
    exact ⟨a1, h2, by show u.length ≤ nO u + (op - 1); omega, by omega, fun y hy => a5 y (List.mem_cons_of_mem _ hy)⟩
theorem XW.of {ly : Ly} {R R2 : Nat → Nat → Option Nat} (h : XW ly R) (g : ∀ q ∈ xFin, R2 q.1 q.2.1 = R q.1 q.2.1) : XW ly R2 := ⟨h.1, fun q hq => (g q hq).trans (h.2 q hq)⟩
/-- the class reads a law: the state of its machine -/
def CMs (ly : Ly) (M : Mm) (q pq : Nat) (s : Ms) : Prop := mI s ∧ (M.2.2 5 1 = some pq ∧ 7 ≤ pq ∧ ly[pq]? = some (.inr 7) ∧ M.1 pq 8 = nI s.c) ∧ (lwP ly M.2.2 q ∧ q ≠ pq ∧ q + 1 ≠ pq ∧ M.1 q 0 = nI s.em.length ∧ lsR (M.1 (q + 1)) s.em) ∧ (M.1 5 4 = nI s.wt.length ∧ lsR (M.1 6) s.wt) ∧ M.1 5 5 = nI s.op ∧ bitR (M.1 5 6) s.cb ∧ M.1 5 7 = (if s.due = true then 1 else 0) ∧ M.1 5 8 = (if s.nt = true then 1 else 0)
def cmF (M K : Mm) (q pq : Nat) : Prop := K.2.2 = M.2.2 ∧ (∀ a, a ≠ 5 → a ≠ 6 → a ≠ q → a ≠ q + 1 → a ≠ pq → K.1 a = M.1 a) ∧ (∀ j, j ≠ 8 → K.1 pq j = M.1 pq j)
theorem cmF.rf {M : Mm} {q pq : Nat} : cmF M M q pq := ⟨rfl, fun _ _ _ _ _ _ => rfl, fun _ _ => rfl⟩
theorem cmF.tr {M N K : Mm} {q pq : Nat} (h : cmF M N q pq) (g : cmF N K q pq) : cmF M K q pq := ⟨g.1.trans h.1, fun a a1 a2 a3 a4 a5 => (g.2.1 a a1 a2 a3 a4 a5).trans (h.2.1 a a1 a2 a3 a4 a5), fun j a1 => (g.2.2 j a1).trans (h.2.2 j a1)⟩
theorem cmF.f5 {M : Mm} {q pq : Nat} {g : Nat → Int32} (hp : 7 ≤ pq) : cmF M (sI M 5 g) q pq := ⟨rfl, fun a a1 _ _ _ _ => sI_ne a1, fun j _ => congrFun (sI_ne (by omega)) j⟩
theorem CMs.f5 {ly : Ly} {M : Mm} {q pq i i2 c op : Nat} {em wt : List Int32} {cb cb2 : Nat → Bool} {d d2 t t2 : Bool} {g : Nat → Int32} (h : CMs ly M q pq (i, c, em, wt, op, cb, d, t)) (g4 : g 4 = M.1 5 4) (g5 : g 5 = M.1 5 5) (g6 : bitR (g 6) cb2) (g7 : g 7 = (if d2 = true then 1 else 0)) (g8 : g 8 = (if t2 = true then 1 else 0)) : CMs ly (sI M 5 g) q pq (i2, c, em, wt, op, cb2, d2, t2) := by
  obtain ⟨h1, ⟨h2, h3, h4, h5⟩, ⟨h6, h7, h8, h9, h10⟩, ⟨h11, h12⟩, h13, _⟩ := h
  have hq7 := h6.1
  exact ⟨h1, ⟨h2, h3, h4, (congrFun (sI_ne (by omega)) 8).trans h5⟩, ⟨h6, h7, h8, (congrFun (sI_ne (by omega)) 0).trans h9, by rw [sI_ne (show q + 1 ≠ 5 by omega)]; exact h10⟩, ⟨g4.trans h11, h12⟩, g5.trans h13, g6, g7, g8⟩
theorem CMs.kn {ly : Ly} {M : Mm} {q pq i i2 c op : Nat} {em wt : List Int32} {cb : Nat → Bool} {d t : Bool} (h : CMs ly M q pq (i, c, em, wt, op, cb, d, t)) (hc : c < 64) : CMs ly (sI M pq (upd (M.1 pq) 8 (nI (c + 1)))) q pq (i2, c + 1, em, wt, op, cb, d, t) := by
  obtain ⟨⟨a1, a2, a3, a4, a5⟩, ⟨h2, h3, h4, h5⟩, ⟨h6, h7, h8, h9, h10⟩, ⟨h11, h12⟩, h13, h14, h15, h16⟩ := h
  have a1' : em.length + nO wt ≤ c := a1
  refine ⟨⟨by show em.length + nO wt ≤ c + 1; omega, hc, a3, a4, a5⟩, ⟨h2, h3, h4, (congrFun (sI_at _ _ _) 8).trans pk_us⟩, ⟨h6, h7, h8, (congrFun (sI_ne h7) 0).trans h9, by rw [sI_ne h8]; exact h10⟩, ⟨?_, ?_⟩, ?_, ?_, ?_, ?_⟩
  · rw [sI_ne (show 5 ≠ pq by omega)]; exact h11
  · rw [sI_ne (show 6 ≠ pq by omega)]; exact h12
  · rw [sI_ne (show 5 ≠ pq by omega)]; exact h13
  · rw [sI_ne (show 5 ≠ pq by omega)]; exact h14
  · rw [sI_ne (show 5 ≠ pq by omega)]; exact h15
  · rw [sI_ne (show 5 ≠ pq by omega)]; exact h16
theorem cmF.kn {M : Mm} {q pq : Nat} {x : Int32} : cmF M (sI M pq (upd (M.1 pq) 8 x)) q pq := ⟨rfl, fun a _ _ _ _ a5 => sI_ne a5, fun j hj => (congrFun (sI_at _ _ _) j).trans (pk_un hj)⟩
/-- what binds at least so close is put down -/
theorem pdC {G : Gx} {l : Launch} {ly : Ly} {M : Mm} {q pq i i2 c op : Nat} {em wt : List Int32} {cb : Nat → Bool} {d t : Bool} {b : Int32} (hb : 1 ≤ b) (h : CMs ly M q pq (i, c, em, wt, op, cb, d, t)) (hX : XW ly M.2.2) : Mt G l mX3_putDown (1, 0, 0, false) [.ref 5, .int b] ly M (fun v ly2 K => v = none ∧ ly2 = ly ∧ cmF M K q pq ∧ CMs ly K q pq (i2, c, (pdL b wt em).2, (pdL b wt em).1, op, cb, d, t)) := by
  obtain ⟨h1, ⟨h2, h3, h4, h5⟩, ⟨h6, h7, h8, h9, h10⟩, ⟨h11, h12⟩, h13, h14, h15, h16⟩ := h
  have hn := mI_pd (i2 := i2) (cb2 := cb) (d2 := d) (t2 := t) hb h1
  obtain ⟨E2, e1, e2, e3⟩ := pdF_L (W := M.1 6) (b := b) wt em (M.1 (q + 1)) h12 h10
  have hq7 := h6.1
  have b1 : wt.length ≤ nO wt + op := h1.2.2.1
  have b2 : em.length + nO wt ≤ c := h1.1
  have b3 : c ≤ 64 := h1.2.1
  have b4 : op ≤ 8 := h1.2.2.2.1
  have b5 : (pdL b wt em).2.length + nO (pdL b wt em).1 ≤ c := hn.1
  refine tX3_putDown (wv := wt.length) (k := em.length) h6 ⟨h11, by omega⟩ h9 (by rw [e1]; show (pdL b wt em).2.length ≤ 64; omega) hX (fun K a1 a2 a3 a4 => ?_)
  rw [e1] at a2 a3 a4
  obtain ⟨c1, c2, c3, c4⟩ := a1
  refine ⟨rfl, rfl, ⟨c1, fun a x1 x2 x3 x4 x5 => c2 a x1 x3 x4, fun j _ => by rw [c2 pq (by omega) h7.symm h8.symm]⟩, hn, ⟨by rw [c1]; exact h2, h3, h4, by rw [c2 pq (by omega) h7.symm h8.symm]; exact h5⟩, ⟨by rw [c1]; exact h6, h7, h8, a3, by rw [a4]; exact e2⟩, ⟨a2, ?_⟩, ?_, ?_, ?_, ?_⟩
  · rw [c2 6 (by decide) (by omega) (by omega)]; exact e3
  · rw [c3 5 (by decide)]; exact h13
  · rw [c3 6 (by decide)]; exact h14
  · rw [c3 7 (by decide)]; exact h15
  · rw [c3 8 (by decide)]; exact h16
/-- a sign waits -/
theorem awC {G : Gx} {l : Launch} {ly : Ly} {M : Mm} {q pq i i2 c op : Nat} {em wt : List Int32} {cb : Nat → Bool} {d t : Bool} {x : Int32} (h : CMs ly M q pq (i, c, em, wt, op, cb, d, t)) (hn : mI (i2, c, em, x :: wt, op, cb, d, t)) (hl : wt.length < 72) (hX : XW ly M.2.2) : Mt G l mX3_await (0, 0, 0, false) [.ref 5, .int x] ly M (fun v ly2 K => v = none ∧ ly2 = ly ∧ cmF M K q pq ∧ CMs ly K q pq (i2, c, em, x :: wt, op, cb, d, t)) := by
  obtain ⟨h1, ⟨h2, h3, h4, h5⟩, ⟨h6, h7, h8, h9, h10⟩, ⟨h11, h12⟩, h13, h14, h15, h16⟩ := h
  have hq7 := h6.1
  refine tX3_await (k := wt.length) ⟨h11, hl⟩ hX ⟨rfl, rfl, ⟨rfl, fun a a1 a2 _ _ _ => by rw [sI_ne a1, sI_ne a2], fun j _ => by rw [sI_ne (show pq ≠ 5 by omega), sI_ne (show pq ≠ 6 by omega)]⟩, hn, ⟨h2, h3, h4, ?_⟩, ⟨h6, h7, h8, ?_, ?_⟩, ⟨rfl, ?_⟩, h13, h14, h15, h16⟩
  · rw [sI_ne (show pq ≠ 5 by omega), sI_ne (show pq ≠ 6 by omega)]; exact h5
  · rw [sI_ne (show q ≠ 5 by omega), sI_ne (show q ≠ 6 by omega)]; exact h9
  · rw [sI_ne (show q + 1 ≠ 5 by omega), sI_ne (show q + 1 ≠ 6 by omega)]; exact h10
  · exact lsR.c h12
/-- the class's token at hand -/
def CRd (M : Mm) (f : Nat → Int32) (n i : Nat) : Prop := (n ≤ 700 ∧ i ≤ n ∧ byA f n ∧ tpR (M.1 1) f n) ∧ M.1 3 5 = nI n ∧ M.1 3 0 = kdF f n i ∧ M.1 3 1 = nI (tkP f n i) ∧ M.1 3 6 = nI (nx f n i) ∧ (kdF f n i = 38 → nuR (M.1 3 2) (nvF f n i)) ∧ (kdF f n i = 39 → M.1 3 3 = nvF f n i) ∧ ∀ w, w < 25 → M.1 4 w = wdP w
theorem CRd.of {M K : Mm} {f : Nat → Int32} {n i : Nat} (h : CRd M f n i) (h1 : K.1 1 = M.1 1) (h3 : K.1 3 = M.1 3) (h4 : K.1 4 = M.1 4) : CRd K f n i := by unfold CRd; rw [h1, h3, h4]; exact h
theorem kdA.crd {M K : Mm} {f : Nat → Int32} {n i : Nat} (h : kdA M K f n (tkP f n i)) (hw : ∀ w, w < 25 → M.1 4 w = wdP w) (hb : byA f n) : K.1 3 0 = kdF f n i ∧ (kdF f n i = 38 → nuR (K.1 3 2) (nvF f n i)) ∧ (kdF f n i = 39 → K.1 3 3 = nvF f n i) := by
  have hr := h.rel (v0 := 0) hw hb
  have ht := tkT_c (f := f) (n := n) (p := tkP f n i) (v0 := 0)
  exact ⟨hr.1, fun g => hr.2.2 (ht.n.1.mpr g), fun g => hr.2.1 (ht.n.2.1.mpr g)⟩
theorem advC {G : Gx} {l : Launch} {ly : Ly} {M : Mm} {f : Nat → Int32} {n i : Nat} (h : CRd M f n i) (hX : XW ly M.2.2) : Mt G l mX8_advance (2, 0, 0, false) [.ref 3] ly M (fun v ly2 K => v = none ∧ ly2 = ly ∧ xrF M K ∧ CRd K f n (nx f n i)) := by
  obtain ⟨⟨h1, h2, h3, h4⟩, h5, h6, h7, h8, h9, h10, h11⟩ := h
  have hn := (nx_le h3 h2).1
  refine tX8_advance (i := nx f n i) ⟨h5, h1⟩ ⟨h8, hn⟩ h4 h3 hX (fun K a1 a2 a3 a4 => ?_)
  obtain ⟨b1, b2, b3⟩ := a4.crd h11 h3
  exact ⟨rfl, rfl, a1, ⟨h1, hn, h3, by rw [a1.2.1 1 (by decide)]; exact h4⟩, (a1.2.2 5 (by omega)).trans h5, b1, a2, a3, b2, b3, fun w hw => by rw [a1.2.1 4 (by decide)]; exact h11 w hw⟩
theorem startC {G : Gx} {l : Launch} {ly : Ly} {M : Mm} {f : Nat → Int32} {n : Nat} (h1 : n ≤ 700) (h3 : byA f n) (h4 : tpR (M.1 1) f n) (h11 : ∀ w, w < 25 → M.1 4 w = wdP w) (hX : XW ly M.2.2) : Mt G l mX8_start (3, 0, 0, false) [.ref 3, .int (nI n)] ly M (fun v ly2 K => v = none ∧ ly2 = ly ∧ (K.2.2 = M.2.2 ∧ ∀ a, a ≠ 3 → K.1 a = M.1 a) ∧ CRd K f n 0) := by
  refine tX8_start h1 h4 h3 hX (fun K a1 a2 a3 a4 a5 a6 => ?_)
  obtain ⟨b1, b2, b3⟩ := a6.crd h11 h3
  exact ⟨rfl, rfl, ⟨a1, a2⟩, ⟨h1, Nat.zero_le n, h3, by rw [a2 1 (by decide)]; exact h4⟩, a3, b1, a4, a5, b2, b3, fun w hw => by rw [a2 4 (by decide)]; exact h11 w hw⟩
