theorem cg2 {α β γ : Type} (f : α → β → γ) {a a2 : α} {b b2 : β} (h1 : a = a2) (h2 : b = b2) : f a b = f a2 b2 := by rw [h1, h2]
theorem cg3 {α β γ δ : Type} (f : α → β → γ → δ) {a a2 : α} {b b2 : β} {c c2 : γ} (h1 : a = a2) (h2 : b = b2) (h3 : c = c2) : f a b c = f a2 b2 c2 := by rw [h1, h2, h3]
theorem zsc_u {x y : Int32} {g : Nat → Int32} : uE (zsc x g) (zsc y g) := ⟨rfl, rfl, ⟨rfl, rfl, rfl, rfl⟩, rfl, rfl⟩
theorem rgN {x : Int32} {N a b : Nat} (h1 : a ≤ N) (h2 : N ≤ b) (hb : b < 2 ^ 31) (e : x = nI N) : nI a ≤ x ∧ x ≤ nI b := by
  subst e
  exact ⟨nI_le h1 (by omega), nI_le h2 hb⟩
/-- the class has answered r, the reference will answer r, and all is as it should be -/
def PrI (G : Gx) (l : Launch) (ly : Ly) (d1 d2 : Md) (as : List Value) (M : Mm) : Prop := Mt G l d1 (140, 0, 0, false) (.ref 0 :: as) ly M (fun v l1 N => l1 = ly ∧ ∃ r : Int32, v = some (.int r) ∧ Mt G l d2 (140, 0, 0, false) (.ref 149 :: as) ly N (fun v2 l2 K => l2 = ly ∧ v2 = some (.int r) ∧ INV ly K))
def PrL (G : Gx) (l : Launch) (ly : Ly) (d1 d2 : Md) (as : List Value) (M : Mm) : Prop := Mt G l d1 (140, 0, 0, false) (.ref 0 :: as) ly M (fun v l1 N => l1 = ly ∧ ∃ r : Int64, v = some (.long r) ∧ Mt G l d2 (140, 0, 0, false) (.ref 149 :: as) ly N (fun v2 l2 K => l2 = ly ∧ v2 = some (.long r) ∧ INV ly K))
theorem inv_ff {n : Nat} {A : Ab} (hP : PA n A) : ∀ i, i < A.X.nf → ∃ ce k : Nat, A.X.fc i = nI ce ∧ ce < 12 ∧ A.X.fk i = nI k ∧ k ≤ 99 := by
  intro i hi
  obtain ⟨⟨c, h1, h2⟩, k, h3, h4, h5⟩ := hP.2.2.1.2.2.1 i hi
  have := hP.2.1.2.2.2.2
  exact ⟨c, k, h2, by omega, h5, h4⟩
theorem inv_c0 {n : Nat} {A : Ab} (hP : PA n A) : ∃ a : Nat, A.p.D 0 3 = nI a ∧ a ≤ 99 := by
  obtain ⟨v, h1, _, h2⟩ := hP.2.1.2.1.2.1.2.2.1
  exact ⟨v, h1, h2⟩
theorem inv_cas {ly : Ly} {M : Mm} {pl ps n : Nat} {A : Ab} (hC : CA ly M pl ps A) (hP : PA n A) : cas n A.X.nf (M.1 pl 3) (M.1 88) (M.1 89) (M.1 90) := by
  intro c hc
  have hn := hP.2.1.2.2.2.2
  obtain ⟨v, hv, hv9⟩ := inv_c0 hP
  have n1 := hC.2.2.2.2.2.1
  have h8 := hP.2.2.1.2.1
  have e9 : M.1 90 c = rfC (A.p.D 0 3) A.X.fc A.X.fk (fun _ => 0) A.X.nf c := n1.2.2.2.2.2.2.2.2 c (by omega)
  rw [e9, show M.1 88 = A.X.fc from n1.2.2.2.2.2.2.1.symm, show M.1 89 = A.X.fk from n1.2.2.2.2.2.2.2.1.symm, show M.1 pl 3 = A.p.D 0 3 from hC.2.2.2.2.1.1.2.2.2.1]
  exact rf_cas (n := n) (g := fun _ => 0) hn hv hv9 (by omega) (inv_ff hP) c hc
theorem knB_c {st st2 : Nat → Int32} : ∀ (m : Nat) (b s : Int32), (∀ i, i < m → st i = st2 i) → knB st m b s = knB st2 m b s
  | 0, _, _, _ => rfl
  | m + 1, b, s, h => by
    show (if (s >>> (nI m &&& 31)) &&& 1 = 1 then knB st m b s else if st m = -1 then knB st m (b ||| ((1 : Int32) <<< (nI m &&& 31))) s else knB st m b (s ||| ((1 : Int32) <<< (st m &&& 31)))) = (if (s >>> (nI m &&& 31)) &&& 1 = 1 then knB st2 m b s else if st2 m = -1 then knB st2 m (b ||| ((1 : Int32) <<< (nI m &&& 31))) s else knB st2 m b (s ||| ((1 : Int32) <<< (st2 m &&& 31))))
    rw [h m (Nat.lt_succ_self m)]
    have h2 : ∀ i, i < m → st i = st2 i := fun i hi => h i (Nat.lt_succ_of_lt hi)
    rw [knB_c m b s h2, knB_c m _ s h2, knB_c m b _ h2]
/-- a bit that is set is a groan's own -/
theorem knB_set {st : Nat → Int32} {j : Nat} (hj : j < 32) : ∀ (m : Nat) (b s : Int32), m ≤ 24 → ((knB st m b s) >>> (nI j &&& 31)) &&& 1 = 1 → (b >>> (nI j &&& 31)) &&& 1 = 1 ∨ (j < m ∧ st j = -1)
  | 0, _, _, _, h => Or.inl h
  | m + 1, b, s, hm, h => by
    unfold knB at h
    split at h
    · exact (knB_set hj m b s (by omega) h).imp id (fun q => ⟨by omega, q.2⟩)
    · split at h
      · rename_i h3
        rcases knB_set hj m _ s (by omega) h with q | q
        · rcases (bit_or hj (by omega)).mp q with q2 | q2
          · have e : j = m := by omega
            subst e
            exact Or.inr ⟨by omega, h3⟩
          · exact Or.inl q2
        · exact Or.inr ⟨by omega, q.2⟩
      · exact (knB_set hj m b _ (by omega) h).imp id (fun q => ⟨by omega, q.2⟩)
theorem mx_nI {a b : Nat} (ha : a < 2 ^ 31) (hb : b < 2 ^ 31) : mx (nI a) (nI b) = nI (if a < b then b else a) := by
  unfold mx
  by_cases h : a < b
  · rw [if_pos (nI_lt h hb), if_pos h]
  · rw [if_neg (nI_nlt (by omega) ha), if_neg h]
theorem mx_m1 {b : Nat} (hb : b < 2 ^ 31) : mx (-1) (nI b) = nI b := if_pos (Int32.lt_of_lt_of_le (by decide) (nI_pos' hb))
/-- the last time of known groans -/
theorem lsT_b {b : Int32} {tm : Nat → Int32} : ∀ k : Nat, k ≤ 24 → (∀ i, i < k → (b >>> (nI i &&& 31)) &&& 1 = 1 → ∃ t : Nat, t < 64 ∧ tm i = nI t) → ∃ L0 : Nat, L0 ≤ 64 ∧ lsT b tm k + 1 = nI L0 ∧ (lsT b tm k = -1 ∨ ∃ a : Nat, a < 64 ∧ lsT b tm k = nI a)
  | 0, _, _ => ⟨0, by omega, by show (-1 : Int32) + 1 = nI 0; decide, Or.inl rfl⟩
  | k + 1, hk, h => by
    obtain ⟨L0, h1, h2, h3⟩ := lsT_b (b := b) k (by omega) (fun i hi => h i (by omega))
    by_cases q : (b >>> (nI k &&& 31)) &&& 1 = 1
    · obtain ⟨t, ht, e⟩ := h k (by omega) q
      have e2 : lsT b tm (k + 1) = mx (lsT b tm k) (tm k) := if_pos q
      rw [e2, e]
      rcases h3 with h3 | ⟨a, ha, h3⟩
      · rw [h3, mx_m1 (by omega)]
        exact ⟨t + 1, by omega, nI_1 t, Or.inr ⟨t, ht, rfl⟩⟩
      · rw [h3, mx_nI (by omega) (by omega)]
        exact ⟨(if a < t then t else a) + 1, by split <;> omega, nI_1 _, Or.inr ⟨_, by split <;> omega, rfl⟩⟩
    · have e2 : lsT b tm (k + 1) = lsT b tm k := if_neg q
      rw [e2]
      exact ⟨L0, h1, h2, h3⟩
/-- the groans of both -/
theorem inv_gr {ly : Ly} {M : Mm} {pl ps n : Nat} {A : Ab} (hC : CA ly M pl ps A) (hR : RA ly M A) (hP : PA n A) : ∃ m L0 : Nat, gOk M A.g.1 m L0 ∧ GR M A.g.1 m L0 (M.1 129) (M.1 130) (M.1 131) (M.1 132) ∧ kbR M m = kbX M m := by
  obtain ⟨c1, c2, c3, c4, c5, c6, c7⟩ := hC.2.2.2.2.2.2.2.1
  obtain ⟨r1, r2, r3⟩ := hR.2.2.2.2.2.2.1
  obtain ⟨p1, p2, p3⟩ := hP.2.2.2.1
  obtain ⟨m, hm, hk⟩ : ∃ m : Nat, m ≤ A.g.1 ∧ knN A.g.2.1 (nI A.g.1) = nI m := by
    rcases p2 with q | ⟨m, hm, q⟩
    · exact ⟨A.g.1, Nat.le_refl _, if_pos q⟩
    · refine ⟨m, hm, ?_⟩
      rw [q]
      exact if_neg (fun e => absurd (nI_pos' (n := m) (by omega)) (by rw [e]; decide))
  have hst : ∀ i, i < m → M.1 194 i = M.1 133 i := fun i hi => by rw [c7]; exact (r3 i (by omega)).1
  have hkb : kbR M m = kbX M m := knB_c m 0 0 hst
  have hbit : ∀ i, i < 32 → (kbX M m >>> (nI i &&& 31)) &&& 1 = 1 → i < m ∧ M.1 133 i = -1 := fun i hi q => (knB_set hi m 0 0 (by omega) q).resolve_left (bit_0 hi)
  have hgr : ∀ i, i < m → M.1 133 i = -1 → (∃ t : Nat, t < 64 ∧ M.1 129 i = nI t) ∧ ∃ c : Nat, c < 12 ∧ M.1 130 i = nI c := fun i hi q => by
    rw [c7] at q
    rcases p3 i (by omega) with w | ⟨t, ht, w⟩
    · rw [c3, c4]; exact w.2
    · exact absurd (w.symm.trans q) (fun e => absurd (nI_pos' (n := t) (by omega)) (by rw [e]; decide))
  obtain ⟨L0, l1, l2, _⟩ := lsT_b (b := kbX M m) (tm := M.1 129) A.g.1 p1 (fun i hi q => (hgr i (hbit i (by omega) q).1 (hbit i (by omega) q).2).1)
  refine ⟨m, L0, ⟨⟨c1, p1⟩, ⟨by rw [c2, c1]; exact hk, by omega⟩, fun i hi q => ?_, l2, l1⟩, ⟨⟨r1, p1⟩, ⟨by rw [r2, r1]; exact hk, hm⟩, fun i hi => ?_, fun i hi q => ?_, by rw [hkb]; exact ⟨l2, l1⟩⟩, hkb⟩
  · obtain ⟨c, hc, e⟩ := (hgr i (hbit i (by omega) q).1 (hbit i (by omega) q).2).2
    rw [e]
    exact vp_in_nI (n := c) hc (by decide)
  · rw [(r3 i (by omega)).1]
    rcases p3 i (by omega) with w | w
    · exact Or.inl w.1
    · exact Or.inr w
  · rw [hkb] at q
    have q2 := (hbit i (by omega) q).2
    have q3 : A.g.2.2.2.2.2.2 i = -1 := by rw [← c7]; exact q2
    obtain ⟨w1, w2, w3, w4⟩ := (r3 i (by omega)).2 q3
    rw [c3, c4, c5, c6]
    refine ⟨w1, w2, w3, w4, ?_⟩
    rw [← c4]
    exact (hgr i hi q2).2
theorem bgS_0 {B : Nat → Bool} {N : Nat} (hN : N ≤ 64) : bgS B N = 0 ↔ ∀ j, j < N → B j = false := by
  constructor
  · intro h j hj
    have e := bgS_bit (B := B) N hN j (by omega)
    rw [h, show ((0 : Int64).toBitVec) = 0#64 from rfl, BitVec.getLsbD_zero] at e
    simpa [hj] using e.symm
  · intro h
    refine Int64.toBitVec_inj.mp (BitVec.eq_of_getLsbD_eq (fun j hj => ?_))
    rw [bgS_bit (B := B) N hN j hj, show ((0 : Int64).toBitVec) = 0#64 from rfl, BitVec.getLsbD_zero]
    by_cases q : j < N
    · rw [h j q]; simp
    · simp [q]
theorem inW_01 (i w : Nat) : inW i w = 0 ∨ inW i w = 1 := by unfold inW; split; exact Or.inr rfl; exact Or.inl rfl
/-- sure: nobody began it, or somebody did -/
theorem srK_0 {B : Nat → Bool} {w : Nat} : ∀ (f i : Nat) (x y : Int32), (x = 0 ∨ x = 1) → (y = 0 ∨ y = 1) → (((srK B w f i x y).1 = 0 ∧ (srK B w f i x y).2 = 0) ↔ (x = 0 ∧ y = 0 ∧ ∀ j, i ≤ j → j < i + f → B j = false))
  | 0, i, x, y, _, _ => ⟨fun h => ⟨h.1, h.2, fun j h1 h2 => absurd h2 (by omega)⟩, fun h => ⟨h.1, h.2.1⟩⟩
  | f + 1, i, x, y, hx, hy => by
    by_cases hB : B i = true
    · have e : srK B w (f + 1) i x y = srK B w f (i + 1) (x ||| inW i w) (y ||| (if inW i w = 0 then 1 else 0)) := if_pos hB
      have hx2 : x ||| inW i w = 0 ∨ x ||| inW i w = 1 := by rcases hx with rfl | rfl <;> rcases inW_01 i w with q | q <;> rw [q] <;> decide
      have hy2 : y ||| (if inW i w = 0 then 1 else 0) = 0 ∨ y ||| (if inW i w = 0 then 1 else 0) = 1 := by rcases hy with rfl | rfl <;> rcases inW_01 i w with q | q <;> rw [q] <;> decide
      rw [e, srK_0 f (i + 1) _ _ hx2 hy2]
      constructor
      · rintro ⟨h1, h2, _⟩
        exfalso
        rcases hx with rfl | rfl <;> rcases hy with rfl | rfl <;> rcases inW_01 i w with q | q <;> rw [q] at h1 h2 <;> revert h1 h2 <;> decide
      · intro h
        exact absurd (h.2.2 i (Nat.le_refl i) (by omega)) (by rw [hB]; decide)
    · have e : srK B w (f + 1) i x y = srK B w f (i + 1) x y := if_neg hB
      rw [e, srK_0 f (i + 1) x y hx hy]
      constructor
      · rintro ⟨h1, h2, h3⟩
        refine ⟨h1, h2, fun j j1 j2 => ?_⟩
        by_cases q : j = i
        · subst q; simpa using hB
        · exact h3 j (by omega) (by omega)
      · rintro ⟨h1, h2, h3⟩
        exact ⟨h1, h2, fun j j1 j2 => h3 j (by omega) (by omega)⟩
theorem sr_eq {B : Nat → Bool} {N w : Nat} (hN : N ≤ 64) : bgS B N = 0 ↔ ((srK (sB B N) w 64 0 0 0).1 = 0 ∧ (srK (sB B N) w 64 0 0 0).2 = 0) := by
  rw [bgS_0 hN, srK_0 64 0 0 0 (Or.inl rfl) (Or.inl rfl)]
  constructor
  · intro h
    refine ⟨rfl, rfl, fun j _ _ => ?_⟩
    unfold sB
    by_cases q : j < N
    · rw [h j q]; simp
    · simp [q]
  · rintro ⟨_, _, h⟩ j hj
    have e := h j (Nat.zero_le j) (by omega)
    unfold sB at e
    simpa [hj] using e
