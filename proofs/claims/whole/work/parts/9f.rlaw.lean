def rhN (a : Nat) : Nat := if a = 151 then 13 else if a ≤ 157 then 6 else if a ≤ 163 then 4 else if a = 164 then 3 else if a ≤ 166 then 5 else 64
/-- what reading a text may change in the reference -/
def rlF (M K : Mm) : Prop := K.2.2 = M.2.2 ∧ (∀ a j, a ≠ 149 → (a < 151 ∨ 168 < a ∨ j < rhN a) → K.1 a j = M.1 a j) ∧ (∀ j, (j < 21 ∨ j = 23 ∨ j = 24 ∨ j = 31 ∨ j = 32 ∨ 34 < j) → K.1 149 j = M.1 149 j)
theorem rlF.rf {M : Mm} : rlF M M := ⟨rfl, fun _ _ _ _ => rfl, fun _ _ => rfl⟩
theorem rlF.tr {M N K : Mm} (h : rlF M N) (g : rlF N K) : rlF M K := ⟨g.1.trans h.1, fun a j x y => (g.2.1 a j x y).trans (h.2.1 a j x y), fun j x => (g.2.2 j x).trans (h.2.2 j x)⟩
theorem rlF.tok {M K : Mm} (h : tkF M K) : rlF M K := ⟨h.1, fun a j x _ => by rw [h.2.1 a x], fun j x => h.2.2 j (by omega)⟩
theorem rlF.f {M : Mm} {g : Nat → Int32} (hg : ∀ j, (j < 21 ∨ j = 23 ∨ j = 24 ∨ j = 31 ∨ j = 32 ∨ 34 < j) → g j = M.1 149 j) : rlF M (sI M 149 g) := ⟨rfl, fun a j x _ => congrFun (sI_ne x) j, hg⟩
theorem rlF.wr {M : Mm} {k : Int32} : rlF M (wrM M k) := rlF.f (fun j hj => by rw [pk_un (by omega), pk_un (by omega)])
theorem rlF.r {M : Mm} {a j0 : Nat} {x : Int32} (ha : a ≠ 149) (h : 151 ≤ a ∧ a ≤ 168 ∧ rhN a ≤ j0) : rlF M (sI M a (upd (M.1 a) j0 x)) := by
  refine ⟨rfl, fun b j hb hj => ?_, fun j _ => congrFun (sI_ne (Ne.symm ha)) j⟩
  by_cases e : b = a
  · subst e
    exact (congrFun (sI_at _ _ _) j).trans (pk_un (by omega))
  · exact congrFun (sI_ne e) j
theorem rlF.ex {M K : Mm} {k0 : Nat} (h : exF M K k0) : rlF M K := by
  obtain ⟨h1, h2, h3, h4, h5⟩ := h
  refine ⟨h1, fun a j ha hj => ?_, fun j hj => h3 j (by omega)⟩
  by_cases e1 : a = 151
  · subst e1; exact h4 j (by have : j < 13 := hj.elim (fun g => absurd g (by decide)) (fun g => g.elim (fun g => absurd g (by decide)) id); omega)
  · by_cases e2 : a = 167
    · subst e2; exact (h5 j (by have : j < 64 := hj.elim (fun g => absurd g (by decide)) (fun g => g.elim (fun g => absurd g (by decide)) id); omega)).1
    · by_cases e3 : a = 168
      · subst e3; exact (h5 j (by have : j < 64 := hj.elim (fun g => absurd g (by decide)) (fun g => g.elim (fun g => absurd g (by decide)) id); omega)).2
      · rw [h2 a ha e1 e2 e3]
/-- the words told, as the reference keeps them -/
def bitW (x : Int32) (tb : Nat → Bool) : Prop := (∀ j, j ≤ 3 ∨ j = 7 ∨ j = 8 → x.toBitVec.getLsbD j = tb j) ∧ x.toBitVec.getLsbD 16 = tb 14 ∧ x.toBitVec.getLsbD 17 = tb 15
/-- the reference reads a text: the plan p, the token at i -/
def RPs (M : Mm) (f : Nat → Int32) (n : Nat) (p : Pl) (i : Nat) : Prop := RD M n i ∧ M.1 150 = f ∧ M.1 149 29 = 0 ∧ (M.1 149 33 = 0 ∧ M.1 149 30 = -1) ∧ M.1 149 34 = nI p.c ∧ bitW (M.1 149 21) p.tb ∧ M.1 149 22 = (if p.hc = true then 1 else 0) ∧ RPl M p ∧ ctOk p
def faR (f : Nat → Int32) (n : Nat) (K : Mm) (q : Int32) (j : Nat) : Prop := K.1 149 29 = q ∧ ¬ q = 0 ∧ K.1 149 30 = nI (tkP f n j)
def rsP (ly : Ly) (M : Mm) (f : Nat → Int32) (n : Nat) (r : Rs) : Qt := fun v ly2 K => v = none ∧ ly2 = ly ∧ rlF M K ∧ ((∃ p2 j, r = .inl (p2, j) ∧ RPs K f n p2 j) ∨ (∃ q j, r = .inr (q, j) ∧ faR f n K q j))
/-- at a token -/
def RDz (M : Mm) (f : Nat → Int32) (n i : Nat) : Prop := RD M n i ∧ M.1 150 = f ∧ M.1 149 29 = 0
theorem RDz.tk {M K : Mm} {f : Nat → Int32} {n i j : Nat} (h : RDz M f n i) (t : tkF M K) (r : RD K n j) : RDz K f n j := ⟨r, (t.2.1 150 (by decide)).trans h.2.1, (t.2.2 29 (by omega)).trans h.2.2⟩
theorem RDz.tc {M : Mm} {f : Nat → Int32} {n i : Nat} (h : RDz M f n i) : TC (M.1 149 27) (M.1 149 28) ∧ kdT (M.1 149 27) (M.1 149 28) = kdF f n i ∧ (¬ kdF f n i = 40 → M.1 149 28 = nvF f n i) := by have := h.1.tc; rw [h.2.1] at this; exact this
theorem RDz.pl {M : Mm} {f : Nat → Int32} {n i : Nat} (h : RDz M f n i) : M.1 149 26 = nI (tkP f n i) := by have := h.1.2.2.2.1; rw [h.2.1] at this; exact this
theorem RDz.wr {M : Mm} {f : Nat → Int32} {n i : Nat} {k : Int32} (h : RDz M f n i) (hk : ¬ k = 0) : faR f n (wrM M k) k i := ⟨rfl, hk, h.pl⟩
theorem RDz.of {M K : Mm} {f : Nat → Int32} {n i : Nat} (h : RDz M f n i) (h1 : K.1 149 24 = M.1 149 24 ∧ K.1 149 25 = M.1 149 25 ∧ K.1 149 26 = M.1 149 26 ∧ K.1 149 27 = M.1 149 27 ∧ K.1 149 28 = M.1 149 28 ∧ K.1 149 29 = M.1 149 29) (h2 : K.1 150 = M.1 150) : RDz K f n i := by
  obtain ⟨a1, a2, a3⟩ := h
  refine ⟨?_, h2.trans a2, h1.2.2.2.2.2.trans a3⟩
  unfold RD
  rw [h2, h1.1, h1.2.1, h1.2.2.1, h1.2.2.2.1, h1.2.2.2.2.1]
  exact a1
theorem RDz.nm {M : Mm} {f : Nat → Int32} {n i : Nat} (h : RDz M f n i) (lo hi : Int32) : (¬ M.1 149 27 = 2 → nmQ (kdF f n) (nvF f n) lo hi i = 1) ∧ (M.1 149 27 = 2 → (M.1 149 28 < lo ∨ hi < M.1 149 28) → nmQ (kdF f n) (nvF f n) lo hi i = 2) ∧ (M.1 149 27 = 2 → lo ≤ M.1 149 28 → M.1 149 28 ≤ hi → nmQ (kdF f n) (nvF f n) lo hi i = 0 ∧ M.1 149 28 = nvF f n i) := by
  obtain ⟨t1, t2, t3⟩ := h.tc
  have hn := t1.n.1
  rw [t2] at hn
  refine ⟨fun g => if_neg (fun e => g (hn.mpr e)), fun g g2 => ?_, fun g g2 g3 => ?_⟩
  · have e := hn.mp g
    have ev := t3 (fun x => by rw [e] at x; exact absurd x (by decide))
    rw [ev] at g2
    exact (if_pos e).trans (if_pos g2)
  · have e := hn.mp g
    have ev := t3 (fun x => by rw [e] at x; exact absurd x (by decide))
    rw [ev] at g2 g3
    exact ⟨(if_pos e).trans (if_neg (fun x => x.elim (fun x => absurd g2 (Int32.not_le.mpr x)) (fun x => absurd g3 (Int32.not_le.mpr x)))), ev⟩
theorem rnum {G : Gx} {l : Launch} {ly : Ly} {M : Mm} {f : Nat → Int32} {n i : Nat} {lo hi : Int32} (h : RDz M f n i) (hR : RW ly M.2.2) : Mt G l mX12_numeral (8, 0, 0, false) [.ref 149, .int lo, .int hi] ly M (fun v ly2 K => ly2 = ly ∧ ((nmQ (kdF f n) (nvF f n) lo hi i = 0 ∧ v = some (.int (nvF f n i)) ∧ (lo ≤ nvF f n i ∧ nvF f n i ≤ hi) ∧ tkF M K ∧ RDz K f n (nx f n i)) ∨ (¬ nmQ (kdF f n) (nvF f n) lo hi i = 0 ∧ v = some (.int lo) ∧ rlF M K ∧ faR f n K (nmQ (kdF f n) (nvF f n) lo hi i) i))) := by
  have hq := h.nm lo hi
  refine tX12_numeral h.1 hR ⟨fun g => absurd h.2.2 g, fun _ g => ⟨rfl, Or.inr ?_⟩, fun _ g g2 => ⟨rfl, Or.inr ?_⟩, fun _ g g2 g3 K t r => ⟨rfl, Or.inl ?_⟩⟩
  · rw [hq.1 g]; exact ⟨by decide, rfl, rlF.wr, h.wr (by decide)⟩
  · rw [hq.2.1 g g2]; exact ⟨by decide, rfl, rlF.wr, h.wr (by decide)⟩
  · have e := hq.2.2 g g2 g3
    rw [e.2] at g2 g3 ⊢
    exact ⟨e.1, rfl, ⟨g2, g3⟩, t, h.tk t (by have := h.2.1; subst this; exact r)⟩
theorem rnah {G : Gx} {l : Launch} {ly : Ly} {M : Mm} {f : Nat → Int32} {n i : Nat} {lo hi : Int32} (h : RDz M f n i) (hR : RW ly M.2.2) : Mt G l mX12_numeralAtHand (1, 0, 0, false) [.ref 149, .int lo, .int hi] ly M (fun v ly2 K => ly2 = ly ∧ ((nmQ (kdF f n) (nvF f n) lo hi i = 0 ∧ v = some (.int (nvF f n i)) ∧ (lo ≤ nvF f n i ∧ nvF f n i ≤ hi) ∧ K = M) ∨ (¬ nmQ (kdF f n) (nvF f n) lo hi i = 0 ∧ v = some (.int lo) ∧ rlF M K ∧ faR f n K (nmQ (kdF f n) (nvF f n) lo hi i) i))) := by
  have hq := h.nm lo hi
  refine tX12_numeralAtHand hR ⟨fun g => absurd h.2.2 g, fun _ g => ⟨rfl, Or.inr ?_⟩, fun _ g g2 => ⟨rfl, Or.inr ?_⟩, fun _ g g2 g3 => ⟨rfl, Or.inl ?_⟩⟩
  · rw [hq.1 g]; exact ⟨by decide, rfl, rlF.wr, h.wr (by decide)⟩
  · rw [hq.2.1 g g2]; exact ⟨by decide, rfl, rlF.wr, h.wr (by decide)⟩
  · have e := hq.2.2 g g2 g3
    rw [e.2] at g2 g3 ⊢
    exact ⟨e.1, rfl, ⟨g2, g3⟩, rfl⟩
theorem rnah0 {G : Gx} {l : Launch} {ly : Ly} {M : Mm} {lo hi : Int32} (hf : ¬ M.1 149 29 = 0) (hR : RW ly M.2.2) : Mt G l mX12_numeralAtHand (1, 0, 0, false) [.ref 149, .int lo, .int hi] ly M (Is (some (.int lo)) ly M) := tX12_numeralAtHand hR ⟨fun _ => ⟨rfl, rfl, rfl⟩, fun g => absurd g hf, fun g => absurd g hf, fun g => absurd g hf⟩
theorem rfresh {G : Gx} {l : Launch} {ly : Ly} {M : Mm} {f : Nat → Int32} {n i a fo m len : Nat} {N : Nat → Int32} (h : RDz M f n i) (ha : ly[a]? = some (.inl (0, len))) (hm : fo + m ≤ len) (hl : len ≤ 100) (hN : ∀ j, j < m → M.1 a (fo + j) = N j) (hR : RW ly M.2.2) : Mt G l mX12_fresh (7, 0, 0, false) [.ref 149, .ref a, .int (nI fo), .int (nI m)] ly M (fun v ly2 K => ly2 = ly ∧ ((naQ (kdF f n) (nvF f n) N m i = 0 ∧ v = some (.int (nvF f n i)) ∧ tkF M K ∧ RDz K f n (nx f n i)) ∨ (¬ naQ (kdF f n) (nvF f n) N m i = 0 ∧ v = some (.int 0) ∧ rlF M K ∧ faR f n K (naQ (kdF f n) (nvF f n) N m i) i))) := by
  obtain ⟨t1, t2, t3⟩ := h.tc
  have hn := t1.n.2.1
  rw [t2] at hn
  have hE : ∀ v, wdF (fun j => decide (M.1 a (fo + j) = v)) m 0 = wdF (fun j => decide (N j = v)) m 0 := fun v => wdF_E m 0 (fun j _ hj => by rw [hN j (by omega)])
  refine tX12_fresh h.1 ha hm hl hR ⟨fun g => absurd h.2.2 g, fun _ g => ⟨rfl, Or.inr ?_⟩, fun _ g g2 => ⟨rfl, Or.inr ?_⟩, fun _ g g2 K t r => ⟨rfl, Or.inl ?_⟩⟩
  · rw [show naQ (kdF f n) (nvF f n) N m i = 1 from if_neg (fun e => g (hn.mpr e))]; exact ⟨by decide, rfl, rlF.wr, h.wr (by decide)⟩
  · have e := hn.mp g
    rw [t3 (fun x => by rw [e] at x; exact absurd x (by decide)), hE] at g2
    rw [show naQ (kdF f n) (nvF f n) N m i = 3 from (if_pos e).trans (if_neg g2)]; exact ⟨by decide, rfl, rlF.wr, h.wr (by decide)⟩
  · have e := hn.mp g
    have ev := t3 (fun x => by rw [e] at x; exact absurd x (by decide))
    rw [ev, hE] at g2
    rw [ev]
    exact ⟨(if_pos e).trans (if_pos g2), rfl, t, h.tk t (by have := h.2.1; subst this; exact r)⟩
theorem rtok {G : Gx} {l : Launch} {ly : Ly} {M : Mm} {f : Nat → Int32} {n i : Nat} (h : RDz M f n i) (hR : RW ly M.2.2) : Mt G l mX12_token (6, 0, 0, false) [.ref 149] ly M (fun v ly2 K => v = none ∧ ly2 = ly ∧ tkF M K ∧ RDz K f n (nx f n i)) := rdTok h.1 hR (fun K t r => ⟨rfl, rfl, t, h.tk t (by have := h.2.1; subst this; exact r)⟩)
theorem rows_h : ∀ r, r < 14 → r = 0 ∨ (rhN (rCl r) = rOf (knD r)) := by decide
theorem RPl.add {M K : Mm} {k : Nat} {p : Pl} {D2 : Nat → Nat → Int32} {tb : Nat → Bool} {hc : Bool} (h : RPl M p) (hk : k < 4) (hD0 : D2 0 = p.D 0) (h1 : K.1 151 = upd (M.1 151) (19 + k) (nI (p.ct k + 1))) (hr : ∀ r, 1 ≤ r → r ≤ 13 → knD r = k → (∀ j, j ≠ rOf k + p.ct k → K.1 (rCl r) j = M.1 (rCl r) j) ∧ ((r = 9 → D2 8 (p.ct k) = 0) → K.1 (rCl r) (rOf k + p.ct k) = D2 r (p.ct k))) (hr2 : ∀ r, 1 ≤ r → r ≤ 13 → knD r ≠ k → K.1 (rCl r) = M.1 (rCl r)) (hD : ∀ r j, 1 ≤ r → r ≤ 13 → (knD r ≠ k ∨ j < p.ct k) → D2 r j = p.D r j) (hl : K.1 165 = M.1 165 ∧ K.1 166 = M.1 166 ∧ K.1 167 = M.1 167 ∧ K.1 168 = M.1 168) : RPl K (D2, setN p.ct k (p.ct k + 1), p.lw, p.c, tb, hc) := by
  obtain ⟨g1, g2, g3, g4, g5⟩ := h
  refine ⟨fun j hj => ?_, fun j hj => ?_, ?_, fun r r1 r2 j hj h9 => ?_, ?_⟩
  · show K.1 151 (13 + j) = D2 0 j
    rw [h1, pk_un (by omega), hD0]; exact g1 j hj
  · show K.1 151 (19 + j) = nI (setN p.ct k (p.ct k + 1) j)
    rw [h1]
    by_cases e : j = k
    · subst e; rw [pk_us, setN_s]
    · rw [pk_un (by omega), setN_n e]; exact g2 j hj
  · show K.1 151 25 = nI p.c
    rw [h1, pk_un (by omega)]; exact g3
  · show K.1 (rCl r) (rOf (knD r) + j) = D2 r j
    have hj2 : j < setN p.ct k (p.ct k + 1) (knD r) := hj
    by_cases e : knD r = k
    · rw [e, setN_s] at hj2
      obtain ⟨a1, a2⟩ := hr r r1 r2 e
      rw [e]
      by_cases e2 : j = p.ct k
      · subst e2; exact a2 h9
      · rw [a1 _ (by omega), hD r j r1 r2 (Or.inr (by omega)), ← e]
        refine g4 r r1 r2 j (by rw [e]; omega) (fun g => ?_)
        have h9b := h9 g
        subst g
        have e8 : knD 8 = k := e
        rw [← hD 8 j (by decide) (by decide) (Or.inr (by omega))]; exact h9b
    · rw [setN_n e] at hj2
      rw [hr2 r r1 r2 e, hD r j r1 r2 (Or.inl e)]
      refine g4 r r1 r2 j hj2 (fun g => ?_)
      have h9b := h9 g
      subst g
      rw [← hD 8 j (by decide) (by decide) (Or.inl e)]; exact h9b
  · rw [hl.1, hl.2.1, hl.2.2.1, hl.2.2.2]; exact g5
theorem RPl.num {M : Mm} {p : Pl} {ix : Nat} {x : Int32} {tb : Nat → Bool} {hc : Bool} (h : RPl M p) (hi : ix < 6 ∨ ix = 10 ∨ ix = 11) : RPl (sI M 151 (upd (M.1 151) (13 + ix) x)) (set2 p.D 0 ix x, p.ct, p.lw, p.c, tb, hc) := by
  obtain ⟨g1, g2, g3, g4, g5⟩ := h
  refine ⟨fun j hj => ?_, fun j hj => ?_, ?_, fun r r1 r2 j hj h9 => ?_, g5⟩
  · show upd (M.1 151) (13 + ix) x (13 + j) = set2 p.D 0 ix x 0 j
    by_cases e : j = ix
    · subst e; rw [pk_us, set2_s]
    · rw [pk_un (by omega), set2_n (Or.inr e)]; exact g1 j hj
  · show upd (M.1 151) (13 + ix) x (19 + j) = _
    rw [pk_un (by omega)]; exact g2 j hj
  · show upd (M.1 151) (13 + ix) x 25 = _
    rw [pk_un (by omega)]; exact g3
  · have := rows_c r r2 r1
    show (sI M 151 (upd (M.1 151) (13 + ix) x)).1 (rCl r) (rOf (knD r) + j) = set2 p.D 0 ix x r j
    rw [sI_ne (show rCl r ≠ 151 by omega), set2_o (by omega)]
    exact g4 r r1 r2 j hj (fun g => h9 g)
theorem RPl.of {M K : Mm} {p : Pl} {tb : Nat → Bool} {hc : Bool} (h : RPl M p) (g : ∀ a, 151 ≤ a → a ≤ 168 → K.1 a = M.1 a) : RPl K (p.D, p.ct, p.lw, p.c, tb, hc) := by
  obtain ⟨g1, g2, g3, g4, g5⟩ := h
  refine ⟨?_, ?_, ?_, fun r r1 r2 j hj h9 => ?_, ?_⟩
  · rw [g 151 (by decide) (by decide)]; exact g1
  · rw [g 151 (by decide) (by decide)]; exact g2
  · rw [g 151 (by decide) (by decide)]; exact g3
  · have := rows_c r r2 r1; rw [g (rCl r) (by omega) (by omega)]; exact g4 r r1 r2 j hj h9
  · rw [g 165 (by decide) (by decide), g 166 (by decide) (by decide), g 167 (by decide) (by decide), g 168 (by decide) (by decide)]; exact g5
theorem RPl.law {M K : Mm} {p : Pl} {k c2 : Nat} {e : List Int32} {tb : Nat → Bool} {hc : Bool} (h : RPl M p) (hk : k < 5) (hc2 : p.c + e.length = c2) (h1 : ∀ j, j ≠ 25 → K.1 151 j = M.1 151 j) (h25 : K.1 151 25 = nI c2) (h165 : K.1 165 = upd (M.1 165) (5 + k) (nI p.c)) (h166 : K.1 166 = upd (M.1 166) (5 + k) (nI c2)) (h67 : ∀ j, j < 64 + p.c → K.1 167 j = M.1 167 j ∧ K.1 168 j = M.1 168 j) (hkn : knE (K.1 167) (K.1 168) p.c e) (har : e = [] ∨ arL e = some 1) (ho : ∀ a, 152 ≤ a → a ≤ 164 → K.1 a = M.1 a) : RPl K (p.D, p.ct, setL p.lw k e, c2, tb, hc) := by
  obtain ⟨g1, g2, g3, g4, g5⟩ := h
  refine ⟨fun j hj => (h1 (13 + j) (by omega)).trans (g1 j hj), fun j hj => (h1 (19 + j) (by omega)).trans (g2 j hj), h25, fun r r1 r2 j hj h9 => ?_, fun m hm => ?_⟩
  · have := rows_c r r2 r1; rw [ho (rCl r) (by omega) (by omega)]; exact g4 r r1 r2 j hj h9
  · show ∃ f0, K.1 165 (5 + m) = nI f0 ∧ K.1 166 (5 + m) = nI (f0 + (setL p.lw k e m).length) ∧ f0 + (setL p.lw k e m).length ≤ c2 ∧ knE (K.1 167) (K.1 168) f0 (setL p.lw k e m) ∧ (setL p.lw k e m = [] ∨ arL (setL p.lw k e m) = some 1)
    by_cases ek : m = k
    · subst ek
      rw [setL_s, h165, h166, pk_us, pk_us]
      exact ⟨p.c, rfl, by rw [hc2], by omega, hkn, har⟩
    · obtain ⟨f0, a1, a2, a3, a4, a5⟩ := g5 m hm
      rw [setL_n ek, h165, h166, pk_un (by omega), pk_un (by omega)]
      exact ⟨f0, a1, a2, by omega, knE.up _ (fun j hj => h67 j (by omega)) a4, a5⟩
theorem rnum0 {G : Gx} {l : Launch} {ly : Ly} {M : Mm} {lo hi : Int32} (hf : ¬ M.1 149 29 = 0) (hR : RW ly M.2.2) : Mt G l mX12_numeral (8, 0, 0, false) [.ref 149, .int lo, .int hi] ly M (Is (some (.int lo)) ly M) := by
  refine Mt.is (fun Q hQ => ?_)
  refine Mt.of (lv := [some (.ref 149), some (.int lo), some (.int hi), none]) rfl ?_
  refine Rn.aload_n dX12_numeral_0 rfl ?_
  refine Rn.iload_n dX12_numeral_1 rfl ?_
  refine Rn.iload_n dX12_numeral_2 rfl ?_
  refine Rn.callV2 dX12_numeral_3 vX12_234 (rc149 hR) (by decide) rfl (rnah0 (M := M) hf hR) (by decide) ⟨(Nat.le_of_ble_eq_true rfl), (Nat.le_of_ble_eq_true rfl), (Nat.le_of_ble_eq_true rfl)⟩ (fun h => by cases h) (fun v1 ly1 M1 ⟨q1, q2, q3⟩ => ?_)
  rw [q1, q2, q3]
  refine Rn.istore_n (lv' := [some (.ref 149), some (.int lo), some (.int hi), some (.int lo)]) dX12_numeral_6 (by decide) rfl ?_
  refine Rn.aload_n dX12_numeral_7 rfl ?_
  refine Rn.callV0 dX12_numeral_8 vX12_238 (rc149 hR) (by decide) rfl (rdGo0 (M := M) hf hR) (by decide) ⟨(Nat.le_of_ble_eq_true rfl), (Nat.le_of_ble_eq_true rfl), (Nat.le_of_ble_eq_true rfl)⟩ (fun h => by cases h) (fun v1 ly1 M1 ⟨q1, q2, q3⟩ => ?_)
  rw [q1, q2, q3]
  refine Rn.iload_n dX12_numeral_11 rfl ?_
  exact Rn.iret (ty := .int) dX12_numeral_12 rfl rfl hQ
theorem law0 {G : Gx} {l : Launch} {ly : Ly} {M : Mm} {x : Int32} (hf : ¬ M.1 149 29 = 0) (hR : RW ly M.2.2) : Mt G l mX12_lawLine (127, 0, 0, false) [.ref 149, .int x] ly M (Is none ly M) := by
  refine Mt.is (fun Q hQ => ?_)
  refine Mt.of (lv := [some (.ref 149), some (.int x)]) rfl ?_
  refine Rn.aload_n dX12_lawLine_0 rfl ?_
  refine Rn.getI dX12_lawLine_1 fX12_222 rfl (rc149 hR) ?_
  refine Rn.if_eq dX12_lawLine_4 (fun h9 => absurd h9 hf) (fun h9 => ?_)
  exact Rn.vret dX12_lawLine_7 rfl hQ
theorem rlawLine {G : Gx} {l : Launch} {ly : Ly} {M : Mm} {f : Nat → Int32} {n i k : Nat} {p : Pl} (hS : RPs M f n p i) (hk : k < 5) (hR : RW ly M.2.2) : Mt G l mX12_lawLine (127, 0, 0, false) [.ref 149, .int (nI k)] ly M (fun v ly2 K => v = none ∧ ly2 = ly ∧ rlF M K ∧ ((∃ j c2 e, Dd (kdF f n) (nvF f n) (nx f n) 1 0 i p.c [] (dOk j c2 e) ∧ RPs K f n (p.D, p.ct, setL p.lw k e, c2, p.tb, p.hc) j ∧ ∀ a, 152 ≤ a → a ≤ 164 → K.1 a = M.1 a) ∨ (∃ q j, Dd (kdF f n) (nvF f n) (nx f n) 1 0 i p.c [] (dNo q j) ∧ faR f n K q j))) := by
  refine Mt.of (lv := [some (.ref 149), some (.int (nI k))]) rfl ?_
  obtain ⟨hrd, h150, h29, h33, h34, hbw, h22, hP, hct⟩ := hS
  have hz : RDz M f n (i) := ⟨hrd, h150, h29⟩
  have hc64 : p.c ≤ 64 := hct.2.2.2.2.1
  refine Rn.aload_n dX12_lawLine_0 rfl ?_
  refine Rn.getI dX12_lawLine_1 fX12_222 rfl (rc149 hR) ?_
  refine Rn.if_eq dX12_lawLine_4 (fun h9 => ?_) (fun h9 => absurd h29 h9)
  refine Rn.aload_n dX12_lawLine_8 rfl ?_
  refine Rn.getR dX12_lawLine_9 fX12_57 rfl (rc149 hR) (show M.2.2 149 17 = some 165 from (rpt17 hR)) ?_
  refine Rn.iconstv (v := 5) dX12_lawLine_12 ic_5 ?_
  refine Rn.iload_n dX12_lawLine_13 rfl ?_
  refine Rn.iadd dX12_lawLine_14 ?_
  refine Rn.topI (y := nI (5 + k)) (nI_add 5 k) ?_
  refine Rn.aload_n dX12_lawLine_15 rfl ?_
  refine Rn.bipushv (v := 12) dX12_lawLine_16 bp_12 ?_
  refine Rn.callV1 dX12_lawLine_18 vX12_245 (rc149 hR) (by decide) rfl (tX12_fresher (M := M) (k := 12) (by decide) hR) (by omega) ⟨(Nat.le_of_ble_eq_true rfl), (Nat.le_of_ble_eq_true rfl), (Nat.le_of_ble_eq_true rfl)⟩ (fun h => by cases h) (fun v1 ly1 M1 ⟨q1, q2, q3⟩ => ?_)
  rw [q1, q2, q3]
  refine Rn.topI (y := nI p.c) (show M.1 151 (13 + 12) = nI p.c from hP.2.2.1) ?_
  refine Rn.iastN (k0 := (5 + k)) dX12_lawLine_21 (rc165 hR) (by omega) (by decide) ?_
  refine Rn.aload_n dX12_lawLine_22 rfl ?_
  obtain ⟨N1, e1⟩ : ∃ N9, N9 = sI M 165 (upd (M.1 165) (5 + k) (nI p.c)) := ⟨_, rfl⟩
  rw [← e1]
  have r1 : rlF M N1 := by rw [e1]; exact rlF.r (by decide) ⟨by decide, by decide, by show 5 ≤ _; omega⟩
  have a1 : ∀ a, a ≠ 165 → N1.1 a = M.1 a := fun a ha => by rw [e1]; exact sI_ne ha
  have a165 : N1.1 165 = upd (M.1 165) (5 + k) (nI p.c) := by rw [e1]; exact sI_at _ _ _
  clear e1
  have hE : EX N1 f n i 0 p.c p.c [] := ⟨(hz.of (by rw [a1 149 (by decide)]; exact ⟨rfl, rfl, rfl, rfl, rfl, rfl⟩) (a1 150 (by decide))).1, (a1 150 (by decide)).trans h150, by rw [a1 149 (by decide)]; exact h29, by rw [a1 149 (by decide)]; exact h33.1, by rw [a1 149 (by decide)]; exact h34, by rw [a1 151 (by decide)]; exact hP.2.2.1, trivial, by rw [a1 149 (by decide)]; exact h33.2⟩
  have hRN1 : RW ly N1.2.2 := by rw [r1.1]; exact hR
  refine Rn.callV0 dX12_lawLine_23 vX12_291 (rc149 hRN1) (by decide) rfl (tX12_expression (M := N1) hE (Nat.le_refl _) hc64 hRN1) (by decide) ⟨(Nat.le_of_ble_eq_true rfl), (Nat.le_of_ble_eq_true rfl), (Nat.le_of_ble_eq_true rfl)⟩ (fun h => by cases h) (fun v1 ly1 N2 ⟨q1, q2, f2, hh⟩ => ?_)
  rw [q1, q2]
  have r2 : rlF M N2 := r1.tr (rlF.ex f2)
  have hRN2 : RW ly N2.2.2 := by rw [r2.1]; exact hR
  rcases hh with ⟨j, c2, e, hD, hE2⟩ | ⟨q, j, hD, hq, hpl⟩
  · skip
    refine Rn.aload_n dX12_lawLine_26 rfl ?_
    refine Rn.getR dX12_lawLine_27 fX12_60 rfl (rc149 hRN2) (show N2.2.2 149 18 = some 166 from (rpt18 hRN2)) ?_
    refine Rn.iconstv (v := 5) dX12_lawLine_30 ic_5 ?_
    refine Rn.iload_n dX12_lawLine_31 rfl ?_
    refine Rn.iadd dX12_lawLine_32 ?_
    refine Rn.topI (y := nI (5 + k)) (nI_add 5 k) ?_
    refine Rn.aload_n dX12_lawLine_33 rfl ?_
    refine Rn.bipushv (v := 12) dX12_lawLine_34 bp_12 ?_
    refine Rn.callV1 dX12_lawLine_36 vX12_245 (rc149 hRN2) (by decide) rfl (tX12_fresher (M := N2) (k := 12) (by decide) hRN2) (by decide) ⟨(Nat.le_of_ble_eq_true rfl), (Nat.le_of_ble_eq_true rfl), (Nat.le_of_ble_eq_true rfl)⟩ (fun h => by cases h) (fun v1 ly1 M1 ⟨q1, q2, q3⟩ => ?_)
    rw [q1, q2, q3]
    have hb := hD.b
    obtain ⟨hb1, hb2, hb3, hb4⟩ := hb
    have hb5 := hb3 hc64
    have hcl : p.c + e.length = c2 := by have h : e.length + p.c = 0 + c2 := hb1; omega
    refine Rn.topI (y := nI c2) (show N2.1 151 (13 + 12) = nI c2 from hE2.2.2.2.2.2.1.trans (by rw [hcl])) ?_
    refine Rn.iastN (k0 := (5 + k)) dX12_lawLine_39 (rc166 hRN2) (by omega) (by decide) ?_
    obtain ⟨N3, e3⟩ : ∃ N9, N9 = sI N2 166 (upd (N2.1 166) (5 + k) (nI c2)) := ⟨_, rfl⟩
    rw [← e3]
    have r3 : rlF M N3 := by rw [e3]; exact r2.tr (rlF.r (by decide) ⟨by decide, by decide, by show 5 ≤ _; omega⟩)
    have a3 : ∀ a, a ≠ 166 → N3.1 a = N2.1 a := fun a ha => by rw [e3]; exact sI_ne ha
    have a166 : N3.1 166 = upd (M.1 166) (5 + k) (nI c2) := by rw [e3, sI_at, f2.2.1 166 (by decide) (by decide) (by decide) (by decide), a1 166 (by decide)]
    clear e3
    have hz3 : RDz N3 f n j := (show RDz N2 f n j from ⟨hE2.1, hE2.2.1, hE2.2.2.1⟩).of (by rw [a3 149 (by decide)]; exact ⟨rfl, rfl, rfl, rfl, rfl, rfl⟩) (a3 150 (by decide))
    exact Rn.vret dX12_lawLine_40 rfl ⟨rfl, rfl, r3, Or.inl ⟨j, c2, e, hD, ⟨hz3.1, hz3.2.1, hz3.2.2, ⟨by rw [a3 149 (by decide)]; exact hE2.2.2.2.1, by rw [a3 149 (by decide)]; exact hE2.2.2.2.2.2.2.2⟩, by rw [a3 149 (by decide)]; exact hE2.2.2.2.2.1, by rw [a3 149 (by decide), f2.2.2.1 21 (by omega), a1 149 (by decide)]; exact hbw, by rw [a3 149 (by decide), f2.2.2.1 22 (by omega), a1 149 (by decide)]; exact h22, hP.law hk hcl (fun j hj => by rw [a3 151 (by decide), f2.2.2.2.1 j hj, a1 151 (by decide)]) (by rw [a3 151 (by decide)]; exact hE2.2.2.2.2.2.1.trans (by rw [hcl])) (by rw [a3 165 (by decide), f2.2.1 165 (by decide) (by decide) (by decide) (by decide)]; exact a165) a166 (fun j hj => by rw [a3 167 (by decide), a3 168 (by decide), (f2.2.2.2.2 j hj).1, (f2.2.2.2.2 j hj).2, a1 167 (by decide), a1 168 (by decide)]; exact ⟨rfl, rfl⟩) (by rw [a3 167 (by decide), a3 168 (by decide)]; exact hE2.2.2.2.2.2.2.1) (Or.inr hD.ar1) (fun a ha hb => by rw [a3 a (by omega), f2.2.1 a (by omega) (by omega) (by omega) (by omega), a1 a (by omega)]), hct.1, hct.2.1, hct.2.2.1, hct.2.2.2.1, hb5, hct.2.2.2.2.2⟩, fun a ha hb => by rw [a3 a (by omega), f2.2.1 a (by omega) (by omega) (by omega) (by omega), a1 a (by omega)]⟩⟩
  · skip
    have hf := drf hD hq
    refine Rn.aload_n dX12_lawLine_26 rfl ?_
    refine Rn.getR dX12_lawLine_27 fX12_60 rfl (rc149 hRN2) (show N2.2.2 149 18 = some 166 from (rpt18 hRN2)) ?_
    refine Rn.iconstv (v := 5) dX12_lawLine_30 ic_5 ?_
    refine Rn.iload_n dX12_lawLine_31 rfl ?_
    refine Rn.iadd dX12_lawLine_32 ?_
    refine Rn.topI (y := nI (5 + k)) (nI_add 5 k) ?_
    refine Rn.aload_n dX12_lawLine_33 rfl ?_
    refine Rn.bipushv (v := 12) dX12_lawLine_34 bp_12 ?_
    refine Rn.callV1 dX12_lawLine_36 vX12_245 (rc149 hRN2) (by decide) rfl (tX12_fresher (M := N2) (k := 12) (by decide) hRN2) (by decide) ⟨(Nat.le_of_ble_eq_true rfl), (Nat.le_of_ble_eq_true rfl), (Nat.le_of_ble_eq_true rfl)⟩ (fun h => by cases h) (fun v1 ly1 M1 ⟨q1, q2, q3⟩ => ?_)
    rw [q1, q2, q3]
    refine Rn.iastN (k0 := (5 + k)) dX12_lawLine_39 (rc166 hRN2) (by omega) (by decide) ?_
    exact Rn.vret dX12_lawLine_40 rfl ⟨rfl, rfl, r2.tr (rlF.r (by decide) ⟨by decide, by decide, by show 5 ≤ _; omega⟩), Or.inr ⟨q, j, hD, hq, by rw [hq] at hf; exact hf, hpl⟩⟩
