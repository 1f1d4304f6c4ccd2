def mostN (k : Nat) : Nat := if k = 0 then 6 else if k = 3 then 3 else 4
theorem told_m : ∀ k, k < 4 → toldN k = nI (mostN k) ∧ mostN k ≤ 6 := by decide
/-- what is bounded in a plan that is being read -/
def ctOk (p : Pl) : Prop := p.ct 0 ≤ 6 ∧ p.ct 1 ≤ 4 ∧ p.ct 2 ≤ 4 ∧ p.ct 3 ≤ 3 ∧ p.c ≤ 64 ∧ ∃ m : Nat, p.D 0 0 = nI m ∧ 2 ≤ m ∧ m ≤ 12
def CPs (ly : Ly) (M : Mm) (f : Nat → Int32) (n pl : Nat) (p : Pl) (i : Nat) : Prop := CRd M f n i ∧ (pl = 7 ∨ pl = 41) ∧ M.2.2 2 4 = some pl ∧ CPl M pl p ∧ bitT (M.1 2 5) p.tb ∧ M.1 2 6 = (if p.hc = true then 1 else 0) ∧ (M.1 2 0 = 0 ∧ M.1 2 1 = -1) ∧ ctOk p
/-- how a line of the class ends -/
def clP (ly : Ly) (M : Mm) (f : Nat → Int32) (n pl : Nat) (r : Rs) : Qt := fun v ly2 K => ly2 = ly ∧ pcF M K pl ∧ ((∃ p2 j, r = .inl (p2, j) ∧ v = some (.int 1) ∧ CPs ly K f n pl p2 j) ∨ (∃ q j, r = .inr (q, j) ∧ v = some (.int 0) ∧ faC f n K q j))
theorem naQ_c {kd nv : Nat → Int32} {N N2 : Nat → Int32} {m i : Nat} (h : ∀ j, j < m → N j = N2 j) : naQ kd nv N m i = naQ kd nv N2 m i := by
  unfold naQ
  rw [wdF_E (A := fun j => decide (N j = nv i)) (B := fun j => decide (N2 j = nv i)) m 0 (fun j _ hj => by rw [h j (by omega)])]
theorem CPl.of {M K : Mm} {pl : Nat} {p : Pl} (h : CPl M pl p) (g : ∀ a, pl ≤ a → a ≤ pl + 33 → K.1 a = M.1 a) {tb : Nat → Bool} {hc : Bool} : CPl K pl (p.D, p.ct, p.lw, p.c, tb, hc) := by
  obtain ⟨h1, h2, h3, h4, h5⟩ := h
  refine ⟨by rw [g pl (by omega) (by omega)]; exact h1, by rw [g (pl + 1) (by omega) (by omega)]; exact h2, by rw [g (pl + 7) (by omega) (by omega), g (pl + 13) (by omega) (by omega)]; exact h3, fun r r1 r2 j hj => ?_, fun k hk => ?_⟩
  · have := rows_c r r2 r1; rw [g (pl + cOf r) (by omega) (by omega)]; exact h4 r r1 r2 j hj
  · have := laws_c k hk; rw [g (pl + laO k) (by omega) (by omega), g (pl + laO k + 1) (by omega) (by omega)]; exact h5 k hk
theorem CPl.num {M : Mm} {pl : Nat} {p : Pl} {g : Nat → Int32} {D2 : Nat → Nat → Int32} {tb : Nat → Bool} {hc : Bool} (h : CPl M pl p) (hg : g 0 = D2 0 0 ∧ g 1 = D2 0 1 ∧ g 2 = D2 0 2 ∧ g 3 = D2 0 3 ∧ g 4 = D2 0 4 ∧ g 5 = D2 0 5 ∧ g 6 = D2 0 10 ∧ g 7 = D2 0 11 ∧ g 8 = nI p.c) (hD : ∀ r, 1 ≤ r → D2 r = p.D r) : CPl (sI M pl g) pl (D2, p.ct, p.lw, p.c, tb, hc) := by
  obtain ⟨h1, h2, h3, h4, h5⟩ := h
  refine ⟨by rw [sI_at]; exact hg, by rw [sI_ne (show pl + 1 ≠ pl by omega)]; exact h2, by rw [sI_ne (show pl + 7 ≠ pl by omega), sI_ne (show pl + 13 ≠ pl by omega)]; exact h3, fun r r1 r2 j hj => ?_, fun k hk => ?_⟩
  · have := rows_c r r2 r1
    show (sI M pl g).1 (pl + cOf r) j = D2 r j
    rw [sI_ne (show pl + cOf r ≠ pl by omega), hD r r1]; exact h4 r r1 r2 j hj
  · have := laws_c k hk; rw [sI_ne (show pl + laO k ≠ pl by omega), sI_ne (show pl + laO k + 1 ≠ pl by omega)]; exact h5 k hk
theorem CPl.add {M K : Mm} {pl k : Nat} {p : Pl} {D2 : Nat → Nat → Int32} {tb : Nat → Bool} {hc : Bool} (h : CPl M pl p) (h0 : K.1 pl = M.1 pl) (hD0 : D2 0 = p.D 0) (h1 : K.1 (pl + 1) = upd (M.1 (pl + 1)) k (nI (p.ct k + 1))) (h7 : K.1 (pl + 7) 0 = nI (setN p.ct k (p.ct k + 1) 0)) (h13 : K.1 (pl + 13) 0 = nI (setN p.ct k (p.ct k + 1) 1)) (hr : ∀ r, 1 ≤ r → r ≤ 13 → knD r = k → K.1 (pl + cOf r) = upd (M.1 (pl + cOf r)) (p.ct k) (D2 r (p.ct k))) (hr2 : ∀ r, 1 ≤ r → r ≤ 13 → knD r ≠ k → K.1 (pl + cOf r) = M.1 (pl + cOf r)) (hD : ∀ r j, 1 ≤ r → r ≤ 13 → (knD r ≠ k ∨ j < p.ct k) → D2 r j = p.D r j) (hl : ∀ a, pl + 18 ≤ a → a ≤ pl + 33 → K.1 a = M.1 a) : CPl K pl (D2, setN p.ct k (p.ct k + 1), p.lw, p.c, tb, hc) := by
  obtain ⟨g1, g2, g3, g4, g5⟩ := h
  refine ⟨by show K.1 pl 0 = D2 0 0 ∧ K.1 pl 1 = D2 0 1 ∧ K.1 pl 2 = D2 0 2 ∧ K.1 pl 3 = D2 0 3 ∧ K.1 pl 4 = D2 0 4 ∧ K.1 pl 5 = D2 0 5 ∧ K.1 pl 6 = D2 0 10 ∧ K.1 pl 7 = D2 0 11 ∧ K.1 pl 8 = nI p.c; rw [h0, hD0]; exact g1, fun j hj => ?_, ⟨h7, h13⟩, fun r r1 r2 j hj => ?_, fun m hm => ?_⟩
  · show K.1 (pl + 1) j = nI (setN p.ct k (p.ct k + 1) j)
    rw [h1]
    by_cases e : j = k
    · subst e; rw [pk_us, setN_s]
    · rw [pk_un e, setN_n e]; exact g2 j hj
  · show K.1 (pl + cOf r) j = D2 r j
    have hj2 : j < setN p.ct k (p.ct k + 1) (knD r) := hj
    by_cases e : knD r = k
    · rw [e, setN_s] at hj2
      rw [hr r r1 r2 e]
      by_cases e2 : j = p.ct k
      · rw [e2, pk_us]
      · rw [pk_un e2, hD r j r1 r2 (Or.inr (by omega))]; exact g4 r r1 r2 j (by rw [e]; omega)
    · rw [setN_n e] at hj2
      rw [hr2 r r1 r2 e, hD r j r1 r2 (Or.inl e)]; exact g4 r r1 r2 j hj2
  · have := laws_c m hm; rw [hl (pl + laO m) (by omega) (by omega), hl (pl + laO m + 1) (by omega) (by omega)]; exact g5 m hm
theorem CPl.law {M K : Mm} {pl k c2 : Nat} {p : Pl} {e : List Int32} {tb : Nat → Bool} {hc : Bool} (h : CPl M pl p) (hk : k < 5) (h0 : ∀ j, j ≠ 8 → K.1 pl j = M.1 pl j) (h8 : K.1 pl 8 = nI c2) (hq0 : K.1 (pl + laO k) 0 = nI e.length) (hq1 : lsR (K.1 (pl + laO k + 1)) e) (ho : ∀ a, pl < a → a ≤ pl + 33 → a ≠ pl + laO k → a ≠ pl + laO k + 1 → K.1 a = M.1 a) : CPl K pl (p.D, p.ct, setL p.lw k e, c2, tb, hc) := by
  obtain ⟨g1, g2, g3, g4, g5⟩ := h
  have hlk := laws_c k hk
  refine ⟨?_, by rw [ho (pl + 1) (by omega) (by omega) (by omega) (by omega)]; exact g2, by rw [ho (pl + 7) (by omega) (by omega) (by omega) (by omega), ho (pl + 13) (by omega) (by omega) (by omega) (by omega)]; exact g3, fun r r1 r2 j hj => ?_, fun m hm => ?_⟩
  · show K.1 pl 0 = p.D 0 0 ∧ K.1 pl 1 = p.D 0 1 ∧ K.1 pl 2 = p.D 0 2 ∧ K.1 pl 3 = p.D 0 3 ∧ K.1 pl 4 = p.D 0 4 ∧ K.1 pl 5 = p.D 0 5 ∧ K.1 pl 6 = p.D 0 10 ∧ K.1 pl 7 = p.D 0 11 ∧ K.1 pl 8 = nI c2
    rw [h0 0 (by decide), h0 1 (by decide), h0 2 (by decide), h0 3 (by decide), h0 4 (by decide), h0 5 (by decide), h0 6 (by decide), h0 7 (by decide), h8]
    exact ⟨g1.1, g1.2.1, g1.2.2.1, g1.2.2.2.1, g1.2.2.2.2.1, g1.2.2.2.2.2.1, g1.2.2.2.2.2.2.1, g1.2.2.2.2.2.2.2.1, rfl⟩
  · have := rows_c r r2 r1
    show K.1 (pl + cOf r) j = p.D r j
    rw [ho (pl + cOf r) (by omega) (by omega) (by omega) (by omega)]; exact g4 r r1 r2 j hj
  · have hlm := laws_c m hm
    show K.1 (pl + laO m) 0 = nI (setL p.lw k e m).length ∧ lsR (K.1 (pl + laO m + 1)) (setL p.lw k e m)
    by_cases ek : m = k
    · subst ek; rw [setL_s]; exact ⟨hq0, hq1⟩
    · have i1 := laws_i m hm k hk ek
      have i2 := laws_i k hk m hm (fun g => ek g.symm)
      rw [setL_n ek, ho (pl + laO m) (by omega) (by omega) (by omega) (by omega), ho (pl + laO m + 1) (by omega) (by omega) (by omega) (by omega)]; exact g5 m hm
theorem m00 {D : Nat → Nat → Int32} {r ix : Nat} {x : Int32} (h : ¬ (r = 0 ∧ ix = 0)) (g : ∃ m : Nat, D 0 0 = nI m ∧ 2 ≤ m ∧ m ≤ 12) : ∃ m : Nat, set2 D r ix x 0 0 = nI m ∧ 2 ≤ m ∧ m ≤ 12 := by
  rw [set2_n (by omega)]; exact g
theorem lawC {R : Nat → Nat → Option Nat} {ly : Ly} {p k : Nat} (h : XW ly R) (hp : p = 7 ∨ p = 41) (hk : k < 5) : 7 ≤ p + laO k ∧ ly[p + laO k]? = some (.inr 5) ∧ R (p + laO k) 1 = some (p + laO k + 1) ∧ ly[p + laO k + 1]? = some (.inl (0, 64)) := by
  refine ⟨by omega, ?_⟩
  match k, hk with
  | 0, _ => exact ⟨pc18 h hp, pp18_1 h hp, pc19 h hp⟩
  | 1, _ => exact ⟨pc21 h hp, pp21_1 h hp, pc22 h hp⟩
  | 2, _ => exact ⟨pc25 h hp, pp25_1 h hp, pc26 h hp⟩
  | 3, _ => exact ⟨pc28 h hp, pp28_1 h hp, pc29 h hp⟩
  | 4, _ => exact ⟨pc31 h hp, pp31_1 h hp, pc32 h hp⟩
theorem tkNamed {G : Gx} {l : Launch} {ly : Ly} {M : Mm} {f : Nat → Int32} {n i : Nat} {pl k m : Nat} (hr : CRd M f n i) (hp7 : pl = 7 ∨ pl = 41) (h24 : M.2.2 2 4 = some pl) (hk : k < 4) (hm : M.1 (pl + 1) k = nI m ∧ m ≤ mostN k) (hX : XW ly M.2.2) : Mt G l mX6_takeNamed (3, 0, 0, false) [.ref 2, .int (nI k)] ly M (fun v ly2 K => ly2 = ly ∧ K.2.2 = M.2.2 ∧ ((m = mostN k ∧ v = some (.int 0) ∧ (∀ a, a ≠ 2 → K.1 a = M.1 a) ∧ faC f n K 2 i) ∨ (m < mostN k ∧ ¬ naQ (kdF f n) (nvF f n) (M.1 (pl + 3 + k)) m (nx f n i) = 0 ∧ v = some (.int 0) ∧ (∀ a, a ≠ 2 → a ≠ 3 → K.1 a = M.1 a) ∧ faC f n K (naQ (kdF f n) (nvF f n) (M.1 (pl + 3 + k)) m (nx f n i)) (nx f n i)) ∨ (m < mostN k ∧ naQ (kdF f n) (nvF f n) (M.1 (pl + 3 + k)) m (nx f n i) = 0 ∧ v = some (.int 1) ∧ (∀ a, a ≠ 3 → a ≠ pl + 1 → a ≠ pl + 3 + k → K.1 a = M.1 a) ∧ K.1 (pl + 3 + k) = upd (M.1 (pl + 3 + k)) m (nvF f n (nx f n i)) ∧ K.1 (pl + 1) = upd (M.1 (pl + 1)) k (nI (m + 1)) ∧ CRd K f n (nx f n (nx f n i))))) := by
  refine Mt.of (lv := [some (.ref 2), some (.int (nI k))]) rfl ?_
  have hmt := told_m k hk
  have r7 := hr.2.2.2.1
  refine Rn.aload_n dX6_takeNamed_0 rfl ?_
  refine Rn.getR dX6_takeNamed_1 fX6_33 rfl (xc2 hX) (show M.2.2 2 4 = some pl from h24) ?_
  refine Rn.getR dX6_takeNamed_4 fX6_144 rfl (pc0 hX hp7) (show M.2.2 pl 9 = some (pl + 1) from (pp0_9 hX hp7)) ?_
  refine Rn.iload_n dX6_takeNamed_7 rfl ?_
  refine Rn.ialdN (k0 := k) dX6_takeNamed_8 (pc1 hX hp7) (by omega) (by decide) ?_
  refine Rn.topI (y := nI m) (hm.1) ?_
  refine Rn.getsT dX6_takeNamed_9 gsX6_168 ?_
  refine Rn.iload_n dX6_takeNamed_12 rfl ?_
  refine Rn.ialdT dX6_takeNamed_13 (vp_in_nI (by omega) (by decide)) ?_
  refine Rn.topI (y := toldN k) (by rw [nI_clamp (by omega)]) ?_
  refine Rn.icmp_lt dX6_takeNamed_14 (fun hl => ?_) (fun hl => ?_)
  · skip
    have hlt : m < mostN k := by rw [hmt.1] at hl; exact (nI_ltI (by omega) (by omega)).mp hl
    refine Rn.aload_n dX6_takeNamed_23 rfl ?_
    refine Rn.getR dX6_takeNamed_24 fX6_20 rfl (xc2 hX) (show M.2.2 2 2 = some 3 from (xp2_2 hX)) ?_
    refine Rn.callV0 dX6_takeNamed_27 vX6_115 (xc3 hX) (by decide) rfl (advC (M := M) hr hX) (by decide) ⟨(Nat.le_of_ble_eq_true rfl), (Nat.le_of_ble_eq_true rfl), (Nat.le_of_ble_eq_true rfl)⟩ (fun h => by cases h) (fun v1 ly1 N2 ⟨q1, q2, f2, hr2⟩ => ?_)
    rw [q1, q2]
    have hXN2 : XW ly N2.2.2 := by rw [f2.1]; exact hX
    have r6 := hr2.2.2.1
    have p7 := hr2.2.2.2.1
    have h24b : N2.2.2 2 4 = some pl := by rw [f2.1]; exact h24
    have o1 : N2.1 (pl + 1) = M.1 (pl + 1) := f2.2.1 _ (by omega)
    have o3 : N2.1 (pl + 3 + k) = M.1 (pl + 3 + k) := f2.2.1 _ (by omega)
    refine Rn.aload_n dX6_takeNamed_30 rfl ?_
    refine Rn.getR dX6_takeNamed_31 fX6_20 rfl (xc2 hXN2) (show N2.2.2 2 2 = some 3 from (xp2_2 hXN2)) ?_
    refine Rn.getI dX6_takeNamed_34 fX6_56 rfl (xc3 hXN2) ?_
    refine Rn.topI (y := kdF f n (nx f n i)) (r6) ?_
    refine Rn.bipushv (v := 39) dX6_takeNamed_37 bp_39 ?_
    refine Rn.icmp_eq dX6_takeNamed_39 (fun h39 => ?_) (fun h39 => ?_)
    · skip
      have hlet := hr2.2.2.2.2.2.2.1 h39
      refine Rn.aload_n dX6_takeNamed_48 rfl ?_
      refine Rn.getR dX6_takeNamed_49 fX6_33 rfl (xc2 hXN2) (show N2.2.2 2 4 = some pl from h24b) ?_
      refine Rn.iload_n dX6_takeNamed_52 rfl ?_
      refine Rn.aload_n dX6_takeNamed_53 rfl ?_
      refine Rn.getR dX6_takeNamed_54 fX6_20 rfl (xc2 hXN2) (show N2.2.2 2 2 = some 3 from (xp2_2 hXN2)) ?_
      refine Rn.getI dX6_takeNamed_57 fX6_171 rfl (xc3 hXN2) ?_
      refine Rn.topI (y := nvF f n (nx f n i)) (hlet) ?_
      refine Rn.callV2 dX6_takeNamed_60 vX6_174 (pc0 hXN2 hp7) (by decide) rfl (tX7_find (M := N2) (k := k) (m := m) (x := nvF f n (nx f n i)) hp7 hk ⟨by rw [o1]; exact hm.1, by omega⟩ hXN2) (by decide) ⟨(Nat.le_of_ble_eq_true rfl), (Nat.le_of_ble_eq_true rfl), (Nat.le_of_ble_eq_true rfl)⟩ (fun h => by cases h) (fun v1 ly1 M1 ⟨q1, q2, q3⟩ => ?_)
      rw [q1, q2, q3]
      refine Rn.topI (y := wdF (fun j => decide (M.1 (pl + 3 + k) j = nvF f n (nx f n i))) m 0) (by rw [o3]) ?_
      refine Rn.iconstv (v := -1) dX6_takeNamed_63 ic_m1 ?_
      refine Rn.icmp_eq dX6_takeNamed_64 (fun hf => ?_) (fun hf => ?_)
      · skip
        have hq : naQ (kdF f n) (nvF f n) (M.1 (pl + 3 + k)) m (nx f n i) = 0 := (if_pos h39).trans (if_pos hf)
        refine Rn.aload_n dX6_takeNamed_73 rfl ?_
        refine Rn.getR dX6_takeNamed_74 fX6_33 rfl (xc2 hXN2) (show N2.2.2 2 4 = some pl from h24b) ?_
        refine Rn.iload_n dX6_takeNamed_77 rfl ?_
        refine Rn.aload_n dX6_takeNamed_78 rfl ?_
        refine Rn.getR dX6_takeNamed_79 fX6_20 rfl (xc2 hXN2) (show N2.2.2 2 2 = some 3 from (xp2_2 hXN2)) ?_
        refine Rn.getI dX6_takeNamed_82 fX6_171 rfl (xc3 hXN2) ?_
        refine Rn.topI (y := nvF f n (nx f n i)) (hlet) ?_
        refine Rn.callV2 dX6_takeNamed_85 vX6_177 (pc0 hXN2 hp7) (by decide) rfl (tX7_addName (M := N2) (k := k) (m := m) (x := nvF f n (nx f n i)) hp7 hk ⟨by rw [o1]; exact hm.1, by omega⟩ hl (by omega) hXN2) (by decide) ⟨(Nat.le_of_ble_eq_true rfl), (Nat.le_of_ble_eq_true rfl), (Nat.le_of_ble_eq_true rfl)⟩ (fun h => by cases h) (fun v1 ly1 M1 ⟨q1, q2, q3⟩ => ?_)
        rw [q1, q2]
        have m1 : M1.2.2 = N2.2.2 := by rw [q3]; rfl
        have m2 : M1.1 (pl + 3 + k) = upd (M.1 (pl + 3 + k)) m (nvF f n (nx f n i)) := by rw [q3, sI_ne (by omega), sI_at, o3]
        have m3 : M1.1 (pl + 1) = upd (M.1 (pl + 1)) k (nI (m + 1)) := by rw [q3, sI_at, o1]
        have m4 : ∀ a, a ≠ pl + 1 → a ≠ pl + 3 + k → M1.1 a = N2.1 a := fun a a1 a2 => by rw [q3, sI_ne a1, sI_ne a2]
        clear q3
        have hXM1 : XW ly M1.2.2 := by rw [m1]; exact hXN2
        have hr3 : CRd M1 f n (nx f n i) := hr2.of (m4 1 (by omega) (by omega)) (m4 3 (by omega) (by omega)) (m4 4 (by omega) (by omega))
        refine Rn.aload_n dX6_takeNamed_88 rfl ?_
        refine Rn.getR dX6_takeNamed_89 fX6_20 rfl (xc2 hXM1) (show M1.2.2 2 2 = some 3 from (xp2_2 hXM1)) ?_
        refine Rn.callV0 dX6_takeNamed_92 vX6_115 (xc3 hXM1) (by decide) rfl (advC (M := M1) hr3 hXM1) (by decide) ⟨(Nat.le_of_ble_eq_true rfl), (Nat.le_of_ble_eq_true rfl), (Nat.le_of_ble_eq_true rfl)⟩ (fun h => by cases h) (fun v1 ly1 N4 ⟨q1, q2, f4, hr4⟩ => ?_)
        rw [q1, q2]
        have hXN4 : XW ly N4.2.2 := by rw [f4.1]; exact hXM1
        refine Rn.iconstv (v := 1) dX6_takeNamed_95 ic_1 ?_
        exact Rn.iret (ty := .boolean) dX6_takeNamed_96 rfl rfl ⟨rfl, f4.1.trans (m1.trans f2.1), Or.inr (Or.inr ⟨hlt, hq, rfl, fun a a1 a2 a3 => (f4.2.1 a a1).trans ((m4 a a2 a3).trans (f2.2.1 a a1)), by rw [f4.2.1 _ (by omega)]; exact m2, by rw [f4.2.1 _ (by omega)]; exact m3, hr4⟩)⟩
      · skip
        have hq : naQ (kdF f n) (nvF f n) (M.1 (pl + 3 + k)) m (nx f n i) = 3 := (if_pos h39).trans (if_neg hf)
        refine Rn.aload_n dX6_takeNamed_67 rfl ?_
        refine Rn.iconstv (v := 3) dX6_takeNamed_68 ic_3 ?_
        refine Rn.callV1 dX6_takeNamed_69 vX6_89 (xc2 hXN2) (by decide) rfl (tX6_fail (M := N2) (x := 3) hXN2) (by decide) ⟨(Nat.le_of_ble_eq_true rfl), (Nat.le_of_ble_eq_true rfl), (Nat.le_of_ble_eq_true rfl)⟩ (fun h => by cases h) (fun v1 ly1 M1 ⟨q1, q2, q3⟩ => ?_)
        rw [q1, q2, q3]
        show Rn G l mX6_takeNamed (3, 0, 0, false) 72 [some (.ref 2), some (.int (nI k))] [.int 0] ly (sI N2 2 (upd (upd (N2.1 2) 0 3) 1 (N2.1 3 1))) (fun v ly2 K => ly2 = ly ∧ K.2.2 = M.2.2 ∧ ((m = mostN k ∧ v = some (.int 0) ∧ (∀ a, a ≠ 2 → K.1 a = M.1 a) ∧ faC f n K 2 i) ∨ (m < mostN k ∧ ¬ naQ (kdF f n) (nvF f n) (M.1 (pl + 3 + k)) m (nx f n i) = 0 ∧ v = some (.int 0) ∧ (∀ a, a ≠ 2 → a ≠ 3 → K.1 a = M.1 a) ∧ faC f n K (naQ (kdF f n) (nvF f n) (M.1 (pl + 3 + k)) m (nx f n i)) (nx f n i)) ∨ (m < mostN k ∧ naQ (kdF f n) (nvF f n) (M.1 (pl + 3 + k)) m (nx f n i) = 0 ∧ v = some (.int 1) ∧ (∀ a, a ≠ 3 → a ≠ pl + 1 → a ≠ pl + 3 + k → K.1 a = M.1 a) ∧ K.1 (pl + 3 + k) = upd (M.1 (pl + 3 + k)) m (nvF f n (nx f n i)) ∧ K.1 (pl + 1) = upd (M.1 (pl + 1)) k (nI (m + 1)) ∧ CRd K f n (nx f n (nx f n i)))))
        exact Rn.iret (ty := .boolean) dX6_takeNamed_72 rfl rfl ⟨rfl, f2.1, Or.inr (Or.inl ⟨hlt, by rw [hq]; decide, rfl, fun a a1 a2 => (sI_ne a1).trans (f2.2.1 a a2), by rw [hq]; exact ⟨rfl, p7⟩⟩)⟩
    · skip
      have hq : naQ (kdF f n) (nvF f n) (M.1 (pl + 3 + k)) m (nx f n i) = 1 := if_neg h39
      refine Rn.aload_n dX6_takeNamed_42 rfl ?_
      refine Rn.iconstv (v := 1) dX6_takeNamed_43 ic_1 ?_
      refine Rn.callV1 dX6_takeNamed_44 vX6_89 (xc2 hXN2) (by decide) rfl (tX6_fail (M := N2) (x := 1) hXN2) (by decide) ⟨(Nat.le_of_ble_eq_true rfl), (Nat.le_of_ble_eq_true rfl), (Nat.le_of_ble_eq_true rfl)⟩ (fun h => by cases h) (fun v1 ly1 M1 ⟨q1, q2, q3⟩ => ?_)
      rw [q1, q2, q3]
      show Rn G l mX6_takeNamed (3, 0, 0, false) 47 [some (.ref 2), some (.int (nI k))] [.int 0] ly (sI N2 2 (upd (upd (N2.1 2) 0 1) 1 (N2.1 3 1))) (fun v ly2 K => ly2 = ly ∧ K.2.2 = M.2.2 ∧ ((m = mostN k ∧ v = some (.int 0) ∧ (∀ a, a ≠ 2 → K.1 a = M.1 a) ∧ faC f n K 2 i) ∨ (m < mostN k ∧ ¬ naQ (kdF f n) (nvF f n) (M.1 (pl + 3 + k)) m (nx f n i) = 0 ∧ v = some (.int 0) ∧ (∀ a, a ≠ 2 → a ≠ 3 → K.1 a = M.1 a) ∧ faC f n K (naQ (kdF f n) (nvF f n) (M.1 (pl + 3 + k)) m (nx f n i)) (nx f n i)) ∨ (m < mostN k ∧ naQ (kdF f n) (nvF f n) (M.1 (pl + 3 + k)) m (nx f n i) = 0 ∧ v = some (.int 1) ∧ (∀ a, a ≠ 3 → a ≠ pl + 1 → a ≠ pl + 3 + k → K.1 a = M.1 a) ∧ K.1 (pl + 3 + k) = upd (M.1 (pl + 3 + k)) m (nvF f n (nx f n i)) ∧ K.1 (pl + 1) = upd (M.1 (pl + 1)) k (nI (m + 1)) ∧ CRd K f n (nx f n (nx f n i)))))
      exact Rn.iret (ty := .boolean) dX6_takeNamed_47 rfl rfl ⟨rfl, f2.1, Or.inr (Or.inl ⟨hlt, by rw [hq]; decide, rfl, fun a a1 a2 => (sI_ne a1).trans (f2.2.1 a a2), by rw [hq]; exact ⟨rfl, p7⟩⟩)⟩
  · skip
    have heq : m = mostN k := by rw [hmt.1] at hl; exact Nat.le_antisymm hm.2 (Nat.le_of_not_lt (fun x => hl ((nI_ltI (by omega) (by omega)).mpr x)))
    refine Rn.aload_n dX6_takeNamed_17 rfl ?_
    refine Rn.iconstv (v := 2) dX6_takeNamed_18 ic_2 ?_
    refine Rn.callV1 dX6_takeNamed_19 vX6_89 (xc2 hX) (by decide) rfl (tX6_fail (M := M) (x := 2) hX) (by decide) ⟨(Nat.le_of_ble_eq_true rfl), (Nat.le_of_ble_eq_true rfl), (Nat.le_of_ble_eq_true rfl)⟩ (fun h => by cases h) (fun v1 ly1 M1 ⟨q1, q2, q3⟩ => ?_)
    rw [q1, q2, q3]
    show Rn G l mX6_takeNamed (3, 0, 0, false) 22 [some (.ref 2), some (.int (nI k))] [.int 0] ly (sI M 2 (upd (upd (M.1 2) 0 2) 1 (M.1 3 1))) (fun v ly2 K => ly2 = ly ∧ K.2.2 = M.2.2 ∧ ((m = mostN k ∧ v = some (.int 0) ∧ (∀ a, a ≠ 2 → K.1 a = M.1 a) ∧ faC f n K 2 i) ∨ (m < mostN k ∧ ¬ naQ (kdF f n) (nvF f n) (M.1 (pl + 3 + k)) m (nx f n i) = 0 ∧ v = some (.int 0) ∧ (∀ a, a ≠ 2 → a ≠ 3 → K.1 a = M.1 a) ∧ faC f n K (naQ (kdF f n) (nvF f n) (M.1 (pl + 3 + k)) m (nx f n i)) (nx f n i)) ∨ (m < mostN k ∧ naQ (kdF f n) (nvF f n) (M.1 (pl + 3 + k)) m (nx f n i) = 0 ∧ v = some (.int 1) ∧ (∀ a, a ≠ 3 → a ≠ pl + 1 → a ≠ pl + 3 + k → K.1 a = M.1 a) ∧ K.1 (pl + 3 + k) = upd (M.1 (pl + 3 + k)) m (nvF f n (nx f n i)) ∧ K.1 (pl + 1) = upd (M.1 (pl + 1)) k (nI (m + 1)) ∧ CRd K f n (nx f n (nx f n i)))))
    exact Rn.iret (ty := .boolean) dX6_takeNamed_22 rfl rfl ⟨rfl, rfl, Or.inl ⟨heq, rfl, fun a ha => sI_ne ha, rfl, r7⟩⟩
theorem rlBridge {G : Gx} {l : Launch} {ly : Ly} {M : Mm} {f : Nat → Int32} {n i : Nat} {pl : Nat} {p : Pl} (hS : CPs ly M f n pl p i) (hk : kdF f n i = 0) (hX : XW ly M.2.2) : Mt G l mX6_readBridge (4, 0, 0, false) [.ref 2] ly M (clP ly M f n pl (lnB (kdF f n) (nvF f n) (nx f n) p i)) := by
  refine Mt.of (lv := [some (.ref 2), none, none, none]) rfl ?_
  obtain ⟨hr, hp7, h24, hP, hb, h6, hft, hct⟩ := hS
  have r6 := hr.2.2.1
  refine Rn.aload_n dX6_readBridge_0 rfl ?_
  refine Rn.callV0 dX6_readBridge_1 vX6_92 (xc2 hX) (by decide) rfl (tkOnce (M := M) (i := i) (w := 0) hr ⟨hk, by decide⟩ hb h6 hX) (by decide) ⟨(Nat.le_of_ble_eq_true rfl), (Nat.le_of_ble_eq_true rfl), (Nat.le_of_ble_eq_true rfl)⟩ (fun h => by cases h) (fun v1 ly1 N1 ⟨q2, qr, hh⟩ => ?_)
  rw [q2]
  rcases hh with ⟨zt, q1, gt, hfa⟩ | ⟨zt, zh, q1, gt, hfa⟩ | ⟨zt, zh, q1, gt, hb1, h61, h62, hrN1⟩
  · skip
    rw [q1]
    have hFN1 : pcF M N1 pl := pcF.o qr (fun a hb => gt a (fun e => hb (Or.inl e)))
    have hXN1 : XW ly N1.2.2 := hFN1.xw hX
    have h24N1 : N1.2.2 2 4 = some pl := (hFN1.1 2 4 (by omega)).trans h24
    refine Rn.if_ne dX6_readBridge_4 (fun h9 => (by first | exact absurd h9 (by decide) | exact absurd (by decide) h9)) (fun h9 => ?_)
    refine Rn.iconstv (v := 0) dX6_readBridge_7 ic_0 ?_
    exact Rn.iret (ty := .boolean) dX6_readBridge_8 rfl rfl ⟨rfl, hFN1, Or.inr ⟨_, _, if_pos zt, rfl, hfa⟩⟩
  · skip
    rw [q1]
    have hFN1 : pcF M N1 pl := pcF.o qr (fun a hb => gt a (fun e => hb (Or.inl e)))
    have hXN1 : XW ly N1.2.2 := hFN1.xw hX
    have h24N1 : N1.2.2 2 4 = some pl := (hFN1.1 2 4 (by omega)).trans h24
    refine Rn.if_ne dX6_readBridge_4 (fun h9 => (by first | exact absurd h9 (by decide) | exact absurd (by decide) h9)) (fun h9 => ?_)
    refine Rn.iconstv (v := 0) dX6_readBridge_7 ic_0 ?_
    exact Rn.iret (ty := .boolean) dX6_readBridge_8 rfl rfl ⟨rfl, hFN1, Or.inr ⟨_, _, (if_neg zt).trans (if_pos zh.2), rfl, hfa⟩⟩
  · skip
    rw [q1]
    have hFN1 : pcF M N1 pl := pcF.o qr (fun a hb => gt a (fun e => hb (Or.inl e)) (fun e => hb (Or.inr (Or.inl e))))
    have hXN1 : XW ly N1.2.2 := hFN1.xw hX
    have h24N1 : N1.2.2 2 4 = some pl := (hFN1.1 2 4 (by omega)).trans h24
    have e0 : ∀ r, (if p.tb 0 = true then (Sum.inr (3, i) : Rs) else if p.hc = true then .inr (4, i) else r) = r := fun r => (if_neg zt).trans (if_neg (fun g => zh ⟨rfl, g⟩))
    refine Rn.if_ne dX6_readBridge_4 (fun h9 => ?_) (fun h9 => (by first | exact absurd h9 (by decide) | exact absurd (by decide) h9))
    refine Rn.aload_n dX6_readBridge_9 rfl ?_
    refine Rn.iconstv (v := 2) dX6_readBridge_10 ic_2 ?_
    refine Rn.bipushv (v := 12) dX6_readBridge_11 bp_12 ?_
    refine Rn.callV2 dX6_readBridge_13 vX6_95 (xc2 hXN1) (by decide) rfl (tkNum (M := N1) (i := nx f n i) hrN1 (by decide) (by decide) hXN1) (by decide) ⟨(Nat.le_of_ble_eq_true rfl), (Nat.le_of_ble_eq_true rfl), (Nat.le_of_ble_eq_true rfl)⟩ (fun h => by cases h) (fun v1 ly1 N2 ⟨q2, qr, hh⟩ => ?_)
    rw [q2]
    rcases hh with ⟨z1, q1, y1, x1_, g1, hrN2⟩ | ⟨z1, q1, g1, hfa⟩
    · skip
      rw [q1]
      have hFN2 : pcF M N2 pl := hFN1.tr (pcF.o qr (fun a hb => g1 a (fun e => hb (Or.inr (Or.inl e)))))
      have hXN2 : XW ly N2.2.2 := hFN2.xw hX
      have h24N2 : N2.2.2 2 4 = some pl := (hFN2.1 2 4 (by omega)).trans h24
      refine Rn.istore_n (lv' := [some (.ref 2), some (.int (nvF f n (nx f n i))), none, none]) dX6_readBridge_16 (by decide) rfl ?_
      refine Rn.iload_n dX6_readBridge_17 rfl ?_
      refine Rn.iconstv (v := -1) dX6_readBridge_18 ic_m1 ?_
      refine Rn.icmp_ne dX6_readBridge_19 (fun h9 => ?_) (fun h9 => absurd h9 y1)
      refine Rn.aload_n dX6_readBridge_26 rfl ?_
      refine Rn.iconstv (v := 0) dX6_readBridge_27 ic_0 ?_
      refine Rn.bipushv (v := 9) dX6_readBridge_28 bp_9 ?_
      refine Rn.callV2 dX6_readBridge_30 vX6_95 (xc2 hXN2) (by decide) rfl (tkNum (M := N2) (i := nx f n (nx f n i)) hrN2 (by decide) (by decide) hXN2) (by decide) ⟨(Nat.le_of_ble_eq_true rfl), (Nat.le_of_ble_eq_true rfl), (Nat.le_of_ble_eq_true rfl)⟩ (fun h => by cases h) (fun v1 ly1 N3 ⟨q2, qr, hh⟩ => ?_)
      rw [q2]
      rcases hh with ⟨z2, q1, y2, x2_, g2, hrN3⟩ | ⟨z2, q1, g2, hfa⟩
      · skip
        rw [q1]
        have hFN3 : pcF M N3 pl := hFN2.tr (pcF.o qr (fun a hb => g2 a (fun e => hb (Or.inr (Or.inl e)))))
        have hXN3 : XW ly N3.2.2 := hFN3.xw hX
        have h24N3 : N3.2.2 2 4 = some pl := (hFN3.1 2 4 (by omega)).trans h24
        refine Rn.istore_n (lv' := [some (.ref 2), some (.int (nvF f n (nx f n i))), some (.int (nvF f n (nx f n (nx f n i)))), none]) dX6_readBridge_33 (by decide) rfl ?_
        refine Rn.iload_n dX6_readBridge_34 rfl ?_
        refine Rn.iconstv (v := -1) dX6_readBridge_35 ic_m1 ?_
        refine Rn.icmp_ne dX6_readBridge_36 (fun h9 => ?_) (fun h9 => absurd h9 y2)
        refine Rn.aload_n dX6_readBridge_43 rfl ?_
        refine Rn.iconstv (v := 0) dX6_readBridge_44 ic_0 ?_
        refine Rn.bipushv (v := 9) dX6_readBridge_45 bp_9 ?_
        refine Rn.callV2 dX6_readBridge_47 vX6_95 (xc2 hXN3) (by decide) rfl (tkNum (M := N3) (i := nx f n (nx f n (nx f n i))) hrN3 (by decide) (by decide) hXN3) (by decide) ⟨(Nat.le_of_ble_eq_true rfl), (Nat.le_of_ble_eq_true rfl), (Nat.le_of_ble_eq_true rfl)⟩ (fun h => by cases h) (fun v1 ly1 N4 ⟨q2, qr, hh⟩ => ?_)
        rw [q2]
        rcases hh with ⟨z3, q1, y3, x3_, g3, hrN4⟩ | ⟨z3, q1, g3, hfa⟩
        · skip
          rw [q1]
          have hFN4 : pcF M N4 pl := hFN3.tr (pcF.o qr (fun a hb => g3 a (fun e => hb (Or.inr (Or.inl e)))))
          have hXN4 : XW ly N4.2.2 := hFN4.xw hX
          have h24N4 : N4.2.2 2 4 = some pl := (hFN4.1 2 4 (by omega)).trans h24
          refine Rn.istore_n (lv' := [some (.ref 2), some (.int (nvF f n (nx f n i))), some (.int (nvF f n (nx f n (nx f n i)))), some (.int (nvF f n (nx f n (nx f n (nx f n i)))))]) dX6_readBridge_50 (by decide) rfl ?_
          refine Rn.iload_n dX6_readBridge_51 rfl ?_
          refine Rn.iconstv (v := -1) dX6_readBridge_52 ic_m1 ?_
          refine Rn.icmp_ne dX6_readBridge_53 (fun h9 => ?_) (fun h9 => absurd h9 y3)
          refine Rn.aload_n dX6_readBridge_58 rfl ?_
          refine Rn.getR dX6_readBridge_59 fX6_33 rfl (xc2 hXN4) (show N4.2.2 2 4 = some pl from h24N4) ?_
          refine Rn.iload_n dX6_readBridge_62 rfl ?_
          refine Rn.putI dX6_readBridge_63 fX6_99 rfl rfl rfl (pc0 hXN4 hp7) ?_
          refine Rn.aload_n dX6_readBridge_66 rfl ?_
          refine Rn.getR dX6_readBridge_67 fX6_33 rfl (xc2 hXN4) (show N4.2.2 2 4 = some pl from h24N4) ?_
          refine Rn.iload_n dX6_readBridge_70 rfl ?_
          refine Rn.putI dX6_readBridge_71 fX6_102 rfl rfl rfl (pc0 hXN4 hp7) ?_
          refine Rn.meq (M2 := sI N4 pl (upd (upd (N4.1 pl) 0 (nvF f n (nx f n i))) 1 (nvF f n (nx f n (nx f n i))))) ((congrArg (fun r9 => sI (sI N4 pl (upd (N4.1 pl) 0 (nvF f n (nx f n i)))) pl (upd r9 1 (nvF f n (nx f n (nx f n i))))) (sI_at _ _ _)).trans (sI_sI _ _ _ _)) ?_
          refine Rn.aload_n dX6_readBridge_74 rfl ?_
          refine Rn.getR dX6_readBridge_75 fX6_33 rfl (xc2 hXN4) (show N4.2.2 2 4 = some pl from h24N4) ?_
          refine Rn.iload_n dX6_readBridge_78 rfl ?_
          refine Rn.putI dX6_readBridge_79 fX6_105 rfl rfl rfl (pc0 hXN4 hp7) ?_
          refine Rn.meq (M2 := sI N4 pl (upd (upd (upd (N4.1 pl) 0 (nvF f n (nx f n i))) 1 (nvF f n (nx f n (nx f n i)))) 2 (nvF f n (nx f n (nx f n (nx f n i)))))) ((congrArg (fun r9 => sI (sI N4 pl (upd (upd (N4.1 pl) 0 (nvF f n (nx f n i))) 1 (nvF f n (nx f n (nx f n i))))) pl (upd r9 2 (nvF f n (nx f n (nx f n (nx f n i)))))) (sI_at _ _ _)).trans (sI_sI _ _ _ _)) ?_
          refine Rn.iconstv (v := 1) dX6_readBridge_82 ic_1 ?_
          have hP4 : CPl N4 pl p := hP.of (fun a a1 a2 => (g3 a (by omega)).trans ((g2 a (by omega)).trans ((g1 a (by omega)).trans (gt a (by omega) (by omega)))))
          have hres : lnB (kdF f n) (nvF f n) (nx f n) p i = .inl ((set2 (set2 (set2 p.D 0 0 (nvF f n (nx f n i))) 0 1 (nvF f n (nx f n (nx f n i)))) 0 2 (nvF f n (nx f n (nx f n (nx f n i)))), p.ct, p.lw, p.c, setB p.tb 0 true, p.hc), nx f n (nx f n (nx f n (nx f n i)))) := (e0 _).trans ((qK_0 z1).trans ((qK_0 z2).trans (qK_0 z3)))
          have hm2 : ∃ m : Nat, nvF f n (nx f n i) = nI m ∧ 2 ≤ m ∧ m ≤ 12 := by
            obtain ⟨m, m1, m2⟩ := nI_of (x := nvF f n (nx f n i)) (fun g => absurd (Int32.le_trans (show (0 : Int32) ≤ 2 by decide) x1_.1) (Int32.not_le.mpr g))
            exact ⟨m, m2, (nI_leI (a := 2) (b := m) (by decide) m1).mp (by rw [← m2]; exact x1_.1), (nI_leI (a := m) (b := 12) m1 (by decide)).mp (by rw [← m2]; exact x1_.2)⟩
          obtain ⟨h01, h02, h03, h04, h05, h06, h07, h08, h09⟩ := hP4.1
          refine Rn.iret (ty := .boolean) dX6_readBridge_83 rfl rfl ⟨rfl, hFN4.tr (pcF.s (by omega)), Or.inl ⟨_, _, hres, rfl, hrN4.of (sI_ne (by omega)) (sI_ne (by omega)) (sI_ne (by omega)), hp7, h24N4, hP4.num ⟨?_, ?_, ?_, h04, h05, h06, h07, h08, h09⟩ (fun r hr => ?_), ?_, ?_, ?_, hct.1, hct.2.1, hct.2.2.1, hct.2.2.2.1, hct.2.2.2.2.1, hm2⟩⟩
          · rw [set2_n (Or.inr (by decide)), set2_n (Or.inr (by decide)), set2_s]; rfl
          · rw [set2_n (Or.inr (by decide)), set2_s]; rfl
          · rw [set2_s]; rfl
          · rw [set2_o (by omega), set2_o (by omega), set2_o (by omega)]
          · rw [sI_ne (show 2 ≠ pl by omega), g3 2 (by decide), g2 2 (by decide), g1 2 (by decide)]; exact hb1
          · rw [sI_ne (show 2 ≠ pl by omega), g3 2 (by decide), g2 2 (by decide), g1 2 (by decide)]; exact h61.trans h6
          · rw [sI_ne (show 2 ≠ pl by omega), g3 2 (by decide), g2 2 (by decide), g1 2 (by decide)]; exact ⟨h62.1.trans hft.1, h62.2.trans hft.2⟩
        · skip
          rw [q1]
          have hFN4 : pcF M N4 pl := hFN3.tr (pcF.o qr (fun a hb => g3 a (fun e => hb (Or.inl e))))
          have hXN4 : XW ly N4.2.2 := hFN4.xw hX
          have h24N4 : N4.2.2 2 4 = some pl := (hFN4.1 2 4 (by omega)).trans h24
          refine Rn.istore_n (lv' := [some (.ref 2), some (.int (nvF f n (nx f n i))), some (.int (nvF f n (nx f n (nx f n i)))), some (.int (-1))]) dX6_readBridge_50 (by decide) rfl ?_
          refine Rn.iload_n dX6_readBridge_51 rfl ?_
          refine Rn.iconstv (v := -1) dX6_readBridge_52 ic_m1 ?_
          refine Rn.icmp_ne dX6_readBridge_53 (fun h9 => (by first | exact absurd h9 (by decide) | exact absurd (by decide) h9)) (fun h9 => ?_)
          refine Rn.iconstv (v := 0) dX6_readBridge_56 ic_0 ?_
          exact Rn.iret (ty := .boolean) dX6_readBridge_57 rfl rfl ⟨rfl, hFN4, Or.inr ⟨_, _, (e0 _).trans ((qK_0 z1).trans ((qK_0 z2).trans (qK_n z3))), rfl, hfa⟩⟩
      · skip
        rw [q1]
        have hFN3 : pcF M N3 pl := hFN2.tr (pcF.o qr (fun a hb => g2 a (fun e => hb (Or.inl e))))
        have hXN3 : XW ly N3.2.2 := hFN3.xw hX
        have h24N3 : N3.2.2 2 4 = some pl := (hFN3.1 2 4 (by omega)).trans h24
        refine Rn.istore_n (lv' := [some (.ref 2), some (.int (nvF f n (nx f n i))), some (.int (-1)), none]) dX6_readBridge_33 (by decide) rfl ?_
        refine Rn.iload_n dX6_readBridge_34 rfl ?_
        refine Rn.iconstv (v := -1) dX6_readBridge_35 ic_m1 ?_
        refine Rn.icmp_ne dX6_readBridge_36 (fun h9 => (by first | exact absurd h9 (by decide) | exact absurd (by decide) h9)) (fun h9 => ?_)
        refine Rn.iconstv (v := -1) dX6_readBridge_39 ic_m1 ?_
        refine Rn.goto dX6_readBridge_40 ?_
        refine Rn.istore_n (lv' := [some (.ref 2), some (.int (nvF f n (nx f n i))), some (.int (-1)), some (.int (-1))]) dX6_readBridge_50 (by decide) rfl ?_
        refine Rn.iload_n dX6_readBridge_51 rfl ?_
        refine Rn.iconstv (v := -1) dX6_readBridge_52 ic_m1 ?_
        refine Rn.icmp_ne dX6_readBridge_53 (fun h9 => (by first | exact absurd h9 (by decide) | exact absurd (by decide) h9)) (fun h9 => ?_)
        refine Rn.iconstv (v := 0) dX6_readBridge_56 ic_0 ?_
        exact Rn.iret (ty := .boolean) dX6_readBridge_57 rfl rfl ⟨rfl, hFN3, Or.inr ⟨_, _, (e0 _).trans ((qK_0 z1).trans (qK_n z2)), rfl, hfa⟩⟩
    · skip
      rw [q1]
      have hFN2 : pcF M N2 pl := hFN1.tr (pcF.o qr (fun a hb => g1 a (fun e => hb (Or.inl e))))
      have hXN2 : XW ly N2.2.2 := hFN2.xw hX
      have h24N2 : N2.2.2 2 4 = some pl := (hFN2.1 2 4 (by omega)).trans h24
      refine Rn.istore_n (lv' := [some (.ref 2), some (.int (-1)), none, none]) dX6_readBridge_16 (by decide) rfl ?_
      refine Rn.iload_n dX6_readBridge_17 rfl ?_
      refine Rn.iconstv (v := -1) dX6_readBridge_18 ic_m1 ?_
      refine Rn.icmp_ne dX6_readBridge_19 (fun h9 => (by first | exact absurd h9 (by decide) | exact absurd (by decide) h9)) (fun h9 => ?_)
      refine Rn.iconstv (v := -1) dX6_readBridge_22 ic_m1 ?_
      refine Rn.goto dX6_readBridge_23 ?_
      refine Rn.istore_n (lv' := [some (.ref 2), some (.int (-1)), some (.int (-1)), none]) dX6_readBridge_33 (by decide) rfl ?_
      refine Rn.iload_n dX6_readBridge_34 rfl ?_
      refine Rn.iconstv (v := -1) dX6_readBridge_35 ic_m1 ?_
      refine Rn.icmp_ne dX6_readBridge_36 (fun h9 => (by first | exact absurd h9 (by decide) | exact absurd (by decide) h9)) (fun h9 => ?_)
      refine Rn.iconstv (v := -1) dX6_readBridge_39 ic_m1 ?_
      refine Rn.goto dX6_readBridge_40 ?_
      refine Rn.istore_n (lv' := [some (.ref 2), some (.int (-1)), some (.int (-1)), some (.int (-1))]) dX6_readBridge_50 (by decide) rfl ?_
      refine Rn.iload_n dX6_readBridge_51 rfl ?_
      refine Rn.iconstv (v := -1) dX6_readBridge_52 ic_m1 ?_
      refine Rn.icmp_ne dX6_readBridge_53 (fun h9 => (by first | exact absurd h9 (by decide) | exact absurd (by decide) h9)) (fun h9 => ?_)
      refine Rn.iconstv (v := 0) dX6_readBridge_56 ic_0 ?_
      exact Rn.iret (ty := .boolean) dX6_readBridge_57 rfl rfl ⟨rfl, hFN2, Or.inr ⟨_, _, (e0 _).trans (qK_n z1), rfl, hfa⟩⟩
theorem rlSet1 {G : Gx} {l : Launch} {ly : Ly} {M : Mm} {f : Nat → Int32} {n i : Nat} {pl : Nat} {p : Pl} (hS : CPs ly M f n pl p i) (hk : kdF f n i = 1) (hX : XW ly M.2.2) : Mt G l mX6_readSetting (4, 0, 0, false) [.ref 2, .int 99] ly M (clP ly M f n pl (lnS (kdF f n) (nvF f n) (nx f n) 1 3 99 p i)) := by
  refine Mt.of (lv := [some (.ref 2), some (.int 99), none, none]) rfl ?_
  obtain ⟨hr, hp7, h24, hP, hb, h6, hft, hct⟩ := hS
  have r6 := hr.2.2.1
  have r6k := r6.trans hk
  refine Rn.aload_n dX6_readSetting_0 rfl ?_
  refine Rn.getR dX6_readSetting_1 fX6_20 rfl (xc2 hX) (show M.2.2 2 2 = some 3 from (xp2_2 hX)) ?_
  refine Rn.getI dX6_readSetting_4 fX6_56 rfl (xc3 hX) ?_
  refine Rn.topI (y := 1) (r6k) ?_
  refine Rn.istore_n (lv' := [some (.ref 2), some (.int 99), some (.int 1), none]) dX6_readSetting_7 (by decide) rfl ?_
  refine Rn.aload_n dX6_readSetting_8 rfl ?_
  refine Rn.callV0 dX6_readSetting_9 vX6_92 (xc2 hX) (by decide) rfl (tkOnce (M := M) (i := i) (w := 1) hr ⟨hk, by decide⟩ hb h6 hX) (by decide) ⟨(Nat.le_of_ble_eq_true rfl), (Nat.le_of_ble_eq_true rfl), (Nat.le_of_ble_eq_true rfl)⟩ (fun h => by cases h) (fun v1 ly1 N1 ⟨q2, qr, hh⟩ => ?_)
  rw [q2]
  rcases hh with ⟨zt, q1, gt, hfa⟩ | ⟨zt, zh, q1, gt, hfa⟩ | ⟨zt, zh, q1, gt, hb1, h61, h62, hrN1⟩
  · skip
    rw [q1]
    have hFN1 : pcF M N1 pl := pcF.o qr (fun a hb => gt a (fun e => hb (Or.inl e)))
    have hXN1 : XW ly N1.2.2 := hFN1.xw hX
    have h24N1 : N1.2.2 2 4 = some pl := (hFN1.1 2 4 (by omega)).trans h24
    refine Rn.if_ne dX6_readSetting_12 (fun h9 => (by first | exact absurd h9 (by decide) | exact absurd (by decide) h9)) (fun h9 => ?_)
    refine Rn.iconstv (v := 0) dX6_readSetting_15 ic_0 ?_
    exact Rn.iret (ty := .boolean) dX6_readSetting_16 rfl rfl ⟨rfl, hFN1, Or.inr ⟨_, _, if_pos zt, rfl, hfa⟩⟩
  · skip
    rw [q1]
    have hFN1 : pcF M N1 pl := pcF.o qr (fun a hb => gt a (fun e => hb (Or.inl e)))
    have hXN1 : XW ly N1.2.2 := hFN1.xw hX
    have h24N1 : N1.2.2 2 4 = some pl := (hFN1.1 2 4 (by omega)).trans h24
    exact absurd zh.1 (by decide)
  · skip
    rw [q1]
    have hFN1 : pcF M N1 pl := pcF.o qr (fun a hb => gt a (fun e => hb (Or.inl e)) (fun e => hb (Or.inr (Or.inl e))))
    have hXN1 : XW ly N1.2.2 := hFN1.xw hX
    have h24N1 : N1.2.2 2 4 = some pl := (hFN1.1 2 4 (by omega)).trans h24
    refine Rn.if_ne dX6_readSetting_12 (fun h9 => ?_) (fun h9 => (by first | exact absurd h9 (by decide) | exact absurd (by decide) h9))
    refine Rn.aload_n dX6_readSetting_17 rfl ?_
    refine Rn.iconstv (v := 0) dX6_readSetting_18 ic_0 ?_
    refine Rn.iload_n dX6_readSetting_19 rfl ?_
    refine Rn.callV2 dX6_readSetting_20 vX6_95 (xc2 hXN1) (by decide) rfl (tkNum (M := N1) (i := nx f n i) hrN1 (by decide) (by decide) hXN1) (by decide) ⟨(Nat.le_of_ble_eq_true rfl), (Nat.le_of_ble_eq_true rfl), (Nat.le_of_ble_eq_true rfl)⟩ (fun h => by cases h) (fun v1 ly1 N2 ⟨q2, qr, hh⟩ => ?_)
    rw [q2]
    rcases hh with ⟨z1, q1, y1, x1_, g1, hrN2⟩ | ⟨z1, q1, g1, hfa⟩
    · skip
      rw [q1]
      have hFN2 : pcF M N2 pl := hFN1.tr (pcF.o qr (fun a hb => g1 a (fun e => hb (Or.inr (Or.inl e)))))
      have hXN2 : XW ly N2.2.2 := hFN2.xw hX
      have h24N2 : N2.2.2 2 4 = some pl := (hFN2.1 2 4 (by omega)).trans h24
      refine Rn.istore_n (lv' := [some (.ref 2), some (.int 99), some (.int 1), some (.int (nvF f n (nx f n i)))]) dX6_readSetting_23 (by decide) rfl ?_
      refine Rn.iload_n dX6_readSetting_24 rfl ?_
      refine Rn.iconstv (v := -1) dX6_readSetting_25 ic_m1 ?_
      refine Rn.icmp_ne dX6_readSetting_26 (fun h9 => ?_) (fun h9 => absurd h9 y1)
      refine Rn.aload_n dX6_readSetting_31 rfl ?_
      refine Rn.getR dX6_readSetting_32 fX6_33 rfl (xc2 hXN2) (show N2.2.2 2 4 = some pl from h24N2) ?_
      refine Rn.iload_n dX6_readSetting_35 rfl ?_
      refine Rn.iload_n dX6_readSetting_36 rfl ?_
      refine Rn.callV2 dX6_readSetting_37 vX6_108 (pc0 hXN2 hp7) (by decide) rfl (setN1 (M := N2) (x := nvF f n (nx f n i)) hp7 hXN2) (by decide) ⟨(Nat.le_of_ble_eq_true rfl), (Nat.le_of_ble_eq_true rfl), (Nat.le_of_ble_eq_true rfl)⟩ (fun h => by cases h) (fun v1 ly1 M1 ⟨q1, q2, q3⟩ => ?_)
      rw [q1, q2, q3]
      refine Rn.iconstv (v := 1) dX6_readSetting_40 ic_1 ?_
      have hP4 : CPl N2 pl p := hP.of (fun a a1 a2 => (g1 a (by omega)).trans (gt a (by omega) (by omega)))
      have hres : lnS (kdF f n) (nvF f n) (nx f n) 1 3 99 p i = .inl ((set2 p.D 0 3 (nvF f n (nx f n i)), p.ct, p.lw, p.c, setB p.tb 1 true, p.hc), nx f n (nx f n i)) := (if_neg zt).trans (qK_0 z1)
      obtain ⟨h01, h02, h03, h04, h05, h06, h07, h08, h09⟩ := hP4.1
      refine Rn.iret (ty := .boolean) dX6_readSetting_41 rfl rfl ⟨rfl, hFN2.tr (pcF.s (by omega)), Or.inl ⟨_, _, hres, rfl, hrN2.of (sI_ne (by omega)) (sI_ne (by omega)) (sI_ne (by omega)), hp7, h24N2, hP4.num ⟨(by rw [set2_n (Or.inr (by decide))]; exact h01), (by rw [set2_n (Or.inr (by decide))]; exact h02), (by rw [set2_n (Or.inr (by decide))]; exact h03), ?_, (by rw [set2_n (Or.inr (by decide))]; exact h05), (by rw [set2_n (Or.inr (by decide))]; exact h06), (by rw [set2_n (Or.inr (by decide))]; exact h07), (by rw [set2_n (Or.inr (by decide))]; exact h08), h09⟩ (fun r hr => ?_), ?_, ?_, ?_, hct.1, hct.2.1, hct.2.2.1, hct.2.2.2.1, hct.2.2.2.2.1, m00 (D := p.D) (r := 0) (ix := 3) (x := nvF f n (nx f n i)) (by decide) hct.2.2.2.2.2⟩⟩
      · rw [set2_s]; rfl
      · rw [set2_o (by omega)]
      · rw [sI_ne (show 2 ≠ pl by omega), g1 2 (by decide)]; exact hb1
      · rw [sI_ne (show 2 ≠ pl by omega), g1 2 (by decide)]; exact h61.trans h6
      · rw [sI_ne (show 2 ≠ pl by omega), g1 2 (by decide)]; exact ⟨h62.1.trans hft.1, h62.2.trans hft.2⟩
    · skip
      rw [q1]
      have hFN2 : pcF M N2 pl := hFN1.tr (pcF.o qr (fun a hb => g1 a (fun e => hb (Or.inl e))))
      have hXN2 : XW ly N2.2.2 := hFN2.xw hX
      have h24N2 : N2.2.2 2 4 = some pl := (hFN2.1 2 4 (by omega)).trans h24
      refine Rn.istore_n (lv' := [some (.ref 2), some (.int 99), some (.int 1), some (.int (-1))]) dX6_readSetting_23 (by decide) rfl ?_
      refine Rn.iload_n dX6_readSetting_24 rfl ?_
      refine Rn.iconstv (v := -1) dX6_readSetting_25 ic_m1 ?_
      refine Rn.icmp_ne dX6_readSetting_26 (fun h9 => (by first | exact absurd h9 (by decide) | exact absurd (by decide) h9)) (fun h9 => ?_)
      refine Rn.iconstv (v := 0) dX6_readSetting_29 ic_0 ?_
      exact Rn.iret (ty := .boolean) dX6_readSetting_30 rfl rfl ⟨rfl, hFN2, Or.inr ⟨_, _, (if_neg zt).trans (qK_n z1), rfl, hfa⟩⟩
theorem rlSet2 {G : Gx} {l : Launch} {ly : Ly} {M : Mm} {f : Nat → Int32} {n i : Nat} {pl : Nat} {p : Pl} (hS : CPs ly M f n pl p i) (hk : kdF f n i = 2) (hX : XW ly M.2.2) : Mt G l mX6_readSetting (4, 0, 0, false) [.ref 2, .int 9] ly M (clP ly M f n pl (lnS (kdF f n) (nvF f n) (nx f n) 2 4 9 p i)) := by
  refine Mt.of (lv := [some (.ref 2), some (.int 9), none, none]) rfl ?_
  obtain ⟨hr, hp7, h24, hP, hb, h6, hft, hct⟩ := hS
  have r6 := hr.2.2.1
  have r6k := r6.trans hk
  refine Rn.aload_n dX6_readSetting_0 rfl ?_
  refine Rn.getR dX6_readSetting_1 fX6_20 rfl (xc2 hX) (show M.2.2 2 2 = some 3 from (xp2_2 hX)) ?_
  refine Rn.getI dX6_readSetting_4 fX6_56 rfl (xc3 hX) ?_
  refine Rn.topI (y := 2) (r6k) ?_
  refine Rn.istore_n (lv' := [some (.ref 2), some (.int 9), some (.int 2), none]) dX6_readSetting_7 (by decide) rfl ?_
  refine Rn.aload_n dX6_readSetting_8 rfl ?_
  refine Rn.callV0 dX6_readSetting_9 vX6_92 (xc2 hX) (by decide) rfl (tkOnce (M := M) (i := i) (w := 2) hr ⟨hk, by decide⟩ hb h6 hX) (by decide) ⟨(Nat.le_of_ble_eq_true rfl), (Nat.le_of_ble_eq_true rfl), (Nat.le_of_ble_eq_true rfl)⟩ (fun h => by cases h) (fun v1 ly1 N1 ⟨q2, qr, hh⟩ => ?_)
  rw [q2]
  rcases hh with ⟨zt, q1, gt, hfa⟩ | ⟨zt, zh, q1, gt, hfa⟩ | ⟨zt, zh, q1, gt, hb1, h61, h62, hrN1⟩
  · skip
    rw [q1]
    have hFN1 : pcF M N1 pl := pcF.o qr (fun a hb => gt a (fun e => hb (Or.inl e)))
    have hXN1 : XW ly N1.2.2 := hFN1.xw hX
    have h24N1 : N1.2.2 2 4 = some pl := (hFN1.1 2 4 (by omega)).trans h24
    refine Rn.if_ne dX6_readSetting_12 (fun h9 => (by first | exact absurd h9 (by decide) | exact absurd (by decide) h9)) (fun h9 => ?_)
    refine Rn.iconstv (v := 0) dX6_readSetting_15 ic_0 ?_
    exact Rn.iret (ty := .boolean) dX6_readSetting_16 rfl rfl ⟨rfl, hFN1, Or.inr ⟨_, _, if_pos zt, rfl, hfa⟩⟩
  · skip
    rw [q1]
    have hFN1 : pcF M N1 pl := pcF.o qr (fun a hb => gt a (fun e => hb (Or.inl e)))
    have hXN1 : XW ly N1.2.2 := hFN1.xw hX
    have h24N1 : N1.2.2 2 4 = some pl := (hFN1.1 2 4 (by omega)).trans h24
    exact absurd zh.1 (by decide)
  · skip
    rw [q1]
    have hFN1 : pcF M N1 pl := pcF.o qr (fun a hb => gt a (fun e => hb (Or.inl e)) (fun e => hb (Or.inr (Or.inl e))))
    have hXN1 : XW ly N1.2.2 := hFN1.xw hX
    have h24N1 : N1.2.2 2 4 = some pl := (hFN1.1 2 4 (by omega)).trans h24
    refine Rn.if_ne dX6_readSetting_12 (fun h9 => ?_) (fun h9 => (by first | exact absurd h9 (by decide) | exact absurd (by decide) h9))
    refine Rn.aload_n dX6_readSetting_17 rfl ?_
    refine Rn.iconstv (v := 0) dX6_readSetting_18 ic_0 ?_
    refine Rn.iload_n dX6_readSetting_19 rfl ?_
    refine Rn.callV2 dX6_readSetting_20 vX6_95 (xc2 hXN1) (by decide) rfl (tkNum (M := N1) (i := nx f n i) hrN1 (by decide) (by decide) hXN1) (by decide) ⟨(Nat.le_of_ble_eq_true rfl), (Nat.le_of_ble_eq_true rfl), (Nat.le_of_ble_eq_true rfl)⟩ (fun h => by cases h) (fun v1 ly1 N2 ⟨q2, qr, hh⟩ => ?_)
    rw [q2]
    rcases hh with ⟨z1, q1, y1, x1_, g1, hrN2⟩ | ⟨z1, q1, g1, hfa⟩
    · skip
      rw [q1]
      have hFN2 : pcF M N2 pl := hFN1.tr (pcF.o qr (fun a hb => g1 a (fun e => hb (Or.inr (Or.inl e)))))
      have hXN2 : XW ly N2.2.2 := hFN2.xw hX
      have h24N2 : N2.2.2 2 4 = some pl := (hFN2.1 2 4 (by omega)).trans h24
      refine Rn.istore_n (lv' := [some (.ref 2), some (.int 9), some (.int 2), some (.int (nvF f n (nx f n i)))]) dX6_readSetting_23 (by decide) rfl ?_
      refine Rn.iload_n dX6_readSetting_24 rfl ?_
      refine Rn.iconstv (v := -1) dX6_readSetting_25 ic_m1 ?_
      refine Rn.icmp_ne dX6_readSetting_26 (fun h9 => ?_) (fun h9 => absurd h9 y1)
      refine Rn.aload_n dX6_readSetting_31 rfl ?_
      refine Rn.getR dX6_readSetting_32 fX6_33 rfl (xc2 hXN2) (show N2.2.2 2 4 = some pl from h24N2) ?_
      refine Rn.iload_n dX6_readSetting_35 rfl ?_
      refine Rn.iload_n dX6_readSetting_36 rfl ?_
      refine Rn.callV2 dX6_readSetting_37 vX6_108 (pc0 hXN2 hp7) (by decide) rfl (setN2 (M := N2) (x := nvF f n (nx f n i)) hp7 hXN2) (by decide) ⟨(Nat.le_of_ble_eq_true rfl), (Nat.le_of_ble_eq_true rfl), (Nat.le_of_ble_eq_true rfl)⟩ (fun h => by cases h) (fun v1 ly1 M1 ⟨q1, q2, q3⟩ => ?_)
      rw [q1, q2, q3]
      refine Rn.iconstv (v := 1) dX6_readSetting_40 ic_1 ?_
      have hP4 : CPl N2 pl p := hP.of (fun a a1 a2 => (g1 a (by omega)).trans (gt a (by omega) (by omega)))
      have hres : lnS (kdF f n) (nvF f n) (nx f n) 2 4 9 p i = .inl ((set2 p.D 0 4 (nvF f n (nx f n i)), p.ct, p.lw, p.c, setB p.tb 2 true, p.hc), nx f n (nx f n i)) := (if_neg zt).trans (qK_0 z1)
      obtain ⟨h01, h02, h03, h04, h05, h06, h07, h08, h09⟩ := hP4.1
      refine Rn.iret (ty := .boolean) dX6_readSetting_41 rfl rfl ⟨rfl, hFN2.tr (pcF.s (by omega)), Or.inl ⟨_, _, hres, rfl, hrN2.of (sI_ne (by omega)) (sI_ne (by omega)) (sI_ne (by omega)), hp7, h24N2, hP4.num ⟨(by rw [set2_n (Or.inr (by decide))]; exact h01), (by rw [set2_n (Or.inr (by decide))]; exact h02), (by rw [set2_n (Or.inr (by decide))]; exact h03), (by rw [set2_n (Or.inr (by decide))]; exact h04), ?_, (by rw [set2_n (Or.inr (by decide))]; exact h06), (by rw [set2_n (Or.inr (by decide))]; exact h07), (by rw [set2_n (Or.inr (by decide))]; exact h08), h09⟩ (fun r hr => ?_), ?_, ?_, ?_, hct.1, hct.2.1, hct.2.2.1, hct.2.2.2.1, hct.2.2.2.2.1, m00 (D := p.D) (r := 0) (ix := 4) (x := nvF f n (nx f n i)) (by decide) hct.2.2.2.2.2⟩⟩
      · rw [set2_s]; rfl
      · rw [set2_o (by omega)]
      · rw [sI_ne (show 2 ≠ pl by omega), g1 2 (by decide)]; exact hb1
      · rw [sI_ne (show 2 ≠ pl by omega), g1 2 (by decide)]; exact h61.trans h6
      · rw [sI_ne (show 2 ≠ pl by omega), g1 2 (by decide)]; exact ⟨h62.1.trans hft.1, h62.2.trans hft.2⟩
    · skip
      rw [q1]
      have hFN2 : pcF M N2 pl := hFN1.tr (pcF.o qr (fun a hb => g1 a (fun e => hb (Or.inl e))))
      have hXN2 : XW ly N2.2.2 := hFN2.xw hX
      have h24N2 : N2.2.2 2 4 = some pl := (hFN2.1 2 4 (by omega)).trans h24
      refine Rn.istore_n (lv' := [some (.ref 2), some (.int 9), some (.int 2), some (.int (-1))]) dX6_readSetting_23 (by decide) rfl ?_
      refine Rn.iload_n dX6_readSetting_24 rfl ?_
      refine Rn.iconstv (v := -1) dX6_readSetting_25 ic_m1 ?_
      refine Rn.icmp_ne dX6_readSetting_26 (fun h9 => (by first | exact absurd h9 (by decide) | exact absurd (by decide) h9)) (fun h9 => ?_)
      refine Rn.iconstv (v := 0) dX6_readSetting_29 ic_0 ?_
      exact Rn.iret (ty := .boolean) dX6_readSetting_30 rfl rfl ⟨rfl, hFN2, Or.inr ⟨_, _, (if_neg zt).trans (qK_n z1), rfl, hfa⟩⟩
theorem rlSet3 {G : Gx} {l : Launch} {ly : Ly} {M : Mm} {f : Nat → Int32} {n i : Nat} {pl : Nat} {p : Pl} (hS : CPs ly M f n pl p i) (hk : kdF f n i = 3) (hX : XW ly M.2.2) : Mt G l mX6_readSetting (4, 0, 0, false) [.ref 2, .int 9999] ly M (clP ly M f n pl (lnS (kdF f n) (nvF f n) (nx f n) 3 5 9999 p i)) := by
  refine Mt.of (lv := [some (.ref 2), some (.int 9999), none, none]) rfl ?_
  obtain ⟨hr, hp7, h24, hP, hb, h6, hft, hct⟩ := hS
  have r6 := hr.2.2.1
  have r6k := r6.trans hk
  refine Rn.aload_n dX6_readSetting_0 rfl ?_
  refine Rn.getR dX6_readSetting_1 fX6_20 rfl (xc2 hX) (show M.2.2 2 2 = some 3 from (xp2_2 hX)) ?_
  refine Rn.getI dX6_readSetting_4 fX6_56 rfl (xc3 hX) ?_
  refine Rn.topI (y := 3) (r6k) ?_
  refine Rn.istore_n (lv' := [some (.ref 2), some (.int 9999), some (.int 3), none]) dX6_readSetting_7 (by decide) rfl ?_
  refine Rn.aload_n dX6_readSetting_8 rfl ?_
  refine Rn.callV0 dX6_readSetting_9 vX6_92 (xc2 hX) (by decide) rfl (tkOnce (M := M) (i := i) (w := 3) hr ⟨hk, by decide⟩ hb h6 hX) (by decide) ⟨(Nat.le_of_ble_eq_true rfl), (Nat.le_of_ble_eq_true rfl), (Nat.le_of_ble_eq_true rfl)⟩ (fun h => by cases h) (fun v1 ly1 N1 ⟨q2, qr, hh⟩ => ?_)
  rw [q2]
  rcases hh with ⟨zt, q1, gt, hfa⟩ | ⟨zt, zh, q1, gt, hfa⟩ | ⟨zt, zh, q1, gt, hb1, h61, h62, hrN1⟩
  · skip
    rw [q1]
    have hFN1 : pcF M N1 pl := pcF.o qr (fun a hb => gt a (fun e => hb (Or.inl e)))
    have hXN1 : XW ly N1.2.2 := hFN1.xw hX
    have h24N1 : N1.2.2 2 4 = some pl := (hFN1.1 2 4 (by omega)).trans h24
    refine Rn.if_ne dX6_readSetting_12 (fun h9 => (by first | exact absurd h9 (by decide) | exact absurd (by decide) h9)) (fun h9 => ?_)
    refine Rn.iconstv (v := 0) dX6_readSetting_15 ic_0 ?_
    exact Rn.iret (ty := .boolean) dX6_readSetting_16 rfl rfl ⟨rfl, hFN1, Or.inr ⟨_, _, if_pos zt, rfl, hfa⟩⟩
  · skip
    rw [q1]
    have hFN1 : pcF M N1 pl := pcF.o qr (fun a hb => gt a (fun e => hb (Or.inl e)))
    have hXN1 : XW ly N1.2.2 := hFN1.xw hX
    have h24N1 : N1.2.2 2 4 = some pl := (hFN1.1 2 4 (by omega)).trans h24
    exact absurd zh.1 (by decide)
  · skip
    rw [q1]
    have hFN1 : pcF M N1 pl := pcF.o qr (fun a hb => gt a (fun e => hb (Or.inl e)) (fun e => hb (Or.inr (Or.inl e))))
    have hXN1 : XW ly N1.2.2 := hFN1.xw hX
    have h24N1 : N1.2.2 2 4 = some pl := (hFN1.1 2 4 (by omega)).trans h24
    refine Rn.if_ne dX6_readSetting_12 (fun h9 => ?_) (fun h9 => (by first | exact absurd h9 (by decide) | exact absurd (by decide) h9))
    refine Rn.aload_n dX6_readSetting_17 rfl ?_
    refine Rn.iconstv (v := 0) dX6_readSetting_18 ic_0 ?_
    refine Rn.iload_n dX6_readSetting_19 rfl ?_
    refine Rn.callV2 dX6_readSetting_20 vX6_95 (xc2 hXN1) (by decide) rfl (tkNum (M := N1) (i := nx f n i) hrN1 (by decide) (by decide) hXN1) (by decide) ⟨(Nat.le_of_ble_eq_true rfl), (Nat.le_of_ble_eq_true rfl), (Nat.le_of_ble_eq_true rfl)⟩ (fun h => by cases h) (fun v1 ly1 N2 ⟨q2, qr, hh⟩ => ?_)
    rw [q2]
    rcases hh with ⟨z1, q1, y1, x1_, g1, hrN2⟩ | ⟨z1, q1, g1, hfa⟩
    · skip
      rw [q1]
      have hFN2 : pcF M N2 pl := hFN1.tr (pcF.o qr (fun a hb => g1 a (fun e => hb (Or.inr (Or.inl e)))))
      have hXN2 : XW ly N2.2.2 := hFN2.xw hX
      have h24N2 : N2.2.2 2 4 = some pl := (hFN2.1 2 4 (by omega)).trans h24
      refine Rn.istore_n (lv' := [some (.ref 2), some (.int 9999), some (.int 3), some (.int (nvF f n (nx f n i)))]) dX6_readSetting_23 (by decide) rfl ?_
      refine Rn.iload_n dX6_readSetting_24 rfl ?_
      refine Rn.iconstv (v := -1) dX6_readSetting_25 ic_m1 ?_
      refine Rn.icmp_ne dX6_readSetting_26 (fun h9 => ?_) (fun h9 => absurd h9 y1)
      refine Rn.aload_n dX6_readSetting_31 rfl ?_
      refine Rn.getR dX6_readSetting_32 fX6_33 rfl (xc2 hXN2) (show N2.2.2 2 4 = some pl from h24N2) ?_
      refine Rn.iload_n dX6_readSetting_35 rfl ?_
      refine Rn.iload_n dX6_readSetting_36 rfl ?_
      refine Rn.callV2 dX6_readSetting_37 vX6_108 (pc0 hXN2 hp7) (by decide) rfl (setN3 (M := N2) (x := nvF f n (nx f n i)) hp7 hXN2) (by decide) ⟨(Nat.le_of_ble_eq_true rfl), (Nat.le_of_ble_eq_true rfl), (Nat.le_of_ble_eq_true rfl)⟩ (fun h => by cases h) (fun v1 ly1 M1 ⟨q1, q2, q3⟩ => ?_)
      rw [q1, q2, q3]
      refine Rn.iconstv (v := 1) dX6_readSetting_40 ic_1 ?_
      have hP4 : CPl N2 pl p := hP.of (fun a a1 a2 => (g1 a (by omega)).trans (gt a (by omega) (by omega)))
      have hres : lnS (kdF f n) (nvF f n) (nx f n) 3 5 9999 p i = .inl ((set2 p.D 0 5 (nvF f n (nx f n i)), p.ct, p.lw, p.c, setB p.tb 3 true, p.hc), nx f n (nx f n i)) := (if_neg zt).trans (qK_0 z1)
      obtain ⟨h01, h02, h03, h04, h05, h06, h07, h08, h09⟩ := hP4.1
      refine Rn.iret (ty := .boolean) dX6_readSetting_41 rfl rfl ⟨rfl, hFN2.tr (pcF.s (by omega)), Or.inl ⟨_, _, hres, rfl, hrN2.of (sI_ne (by omega)) (sI_ne (by omega)) (sI_ne (by omega)), hp7, h24N2, hP4.num ⟨(by rw [set2_n (Or.inr (by decide))]; exact h01), (by rw [set2_n (Or.inr (by decide))]; exact h02), (by rw [set2_n (Or.inr (by decide))]; exact h03), (by rw [set2_n (Or.inr (by decide))]; exact h04), (by rw [set2_n (Or.inr (by decide))]; exact h05), ?_, (by rw [set2_n (Or.inr (by decide))]; exact h07), (by rw [set2_n (Or.inr (by decide))]; exact h08), h09⟩ (fun r hr => ?_), ?_, ?_, ?_, hct.1, hct.2.1, hct.2.2.1, hct.2.2.2.1, hct.2.2.2.2.1, m00 (D := p.D) (r := 0) (ix := 5) (x := nvF f n (nx f n i)) (by decide) hct.2.2.2.2.2⟩⟩
      · rw [set2_s]; rfl
      · rw [set2_o (by omega)]
      · rw [sI_ne (show 2 ≠ pl by omega), g1 2 (by decide)]; exact hb1
      · rw [sI_ne (show 2 ≠ pl by omega), g1 2 (by decide)]; exact h61.trans h6
      · rw [sI_ne (show 2 ≠ pl by omega), g1 2 (by decide)]; exact ⟨h62.1.trans hft.1, h62.2.trans hft.2⟩
    · skip
      rw [q1]
      have hFN2 : pcF M N2 pl := hFN1.tr (pcF.o qr (fun a hb => g1 a (fun e => hb (Or.inl e))))
      have hXN2 : XW ly N2.2.2 := hFN2.xw hX
      have h24N2 : N2.2.2 2 4 = some pl := (hFN2.1 2 4 (by omega)).trans h24
      refine Rn.istore_n (lv' := [some (.ref 2), some (.int 9999), some (.int 3), some (.int (-1))]) dX6_readSetting_23 (by decide) rfl ?_
      refine Rn.iload_n dX6_readSetting_24 rfl ?_
      refine Rn.iconstv (v := -1) dX6_readSetting_25 ic_m1 ?_
      refine Rn.icmp_ne dX6_readSetting_26 (fun h9 => (by first | exact absurd h9 (by decide) | exact absurd (by decide) h9)) (fun h9 => ?_)
      refine Rn.iconstv (v := 0) dX6_readSetting_29 ic_0 ?_
      exact Rn.iret (ty := .boolean) dX6_readSetting_30 rfl rfl ⟨rfl, hFN2, Or.inr ⟨_, _, (if_neg zt).trans (qK_n z1), rfl, hfa⟩⟩
theorem rlSet7 {G : Gx} {l : Launch} {ly : Ly} {M : Mm} {f : Nat → Int32} {n i : Nat} {pl : Nat} {p : Pl} (hS : CPs ly M f n pl p i) (hk : kdF f n i = 7) (hX : XW ly M.2.2) : Mt G l mX6_readSetting (4, 0, 0, false) [.ref 2, .int 99] ly M (clP ly M f n pl (lnS (kdF f n) (nvF f n) (nx f n) 7 10 99 p i)) := by
  refine Mt.of (lv := [some (.ref 2), some (.int 99), none, none]) rfl ?_
  obtain ⟨hr, hp7, h24, hP, hb, h6, hft, hct⟩ := hS
  have r6 := hr.2.2.1
  have r6k := r6.trans hk
  refine Rn.aload_n dX6_readSetting_0 rfl ?_
  refine Rn.getR dX6_readSetting_1 fX6_20 rfl (xc2 hX) (show M.2.2 2 2 = some 3 from (xp2_2 hX)) ?_
  refine Rn.getI dX6_readSetting_4 fX6_56 rfl (xc3 hX) ?_
  refine Rn.topI (y := 7) (r6k) ?_
  refine Rn.istore_n (lv' := [some (.ref 2), some (.int 99), some (.int 7), none]) dX6_readSetting_7 (by decide) rfl ?_
  refine Rn.aload_n dX6_readSetting_8 rfl ?_
  refine Rn.callV0 dX6_readSetting_9 vX6_92 (xc2 hX) (by decide) rfl (tkOnce (M := M) (i := i) (w := 7) hr ⟨hk, by decide⟩ hb h6 hX) (by decide) ⟨(Nat.le_of_ble_eq_true rfl), (Nat.le_of_ble_eq_true rfl), (Nat.le_of_ble_eq_true rfl)⟩ (fun h => by cases h) (fun v1 ly1 N1 ⟨q2, qr, hh⟩ => ?_)
  rw [q2]
  rcases hh with ⟨zt, q1, gt, hfa⟩ | ⟨zt, zh, q1, gt, hfa⟩ | ⟨zt, zh, q1, gt, hb1, h61, h62, hrN1⟩
  · skip
    rw [q1]
    have hFN1 : pcF M N1 pl := pcF.o qr (fun a hb => gt a (fun e => hb (Or.inl e)))
    have hXN1 : XW ly N1.2.2 := hFN1.xw hX
    have h24N1 : N1.2.2 2 4 = some pl := (hFN1.1 2 4 (by omega)).trans h24
    refine Rn.if_ne dX6_readSetting_12 (fun h9 => (by first | exact absurd h9 (by decide) | exact absurd (by decide) h9)) (fun h9 => ?_)
    refine Rn.iconstv (v := 0) dX6_readSetting_15 ic_0 ?_
    exact Rn.iret (ty := .boolean) dX6_readSetting_16 rfl rfl ⟨rfl, hFN1, Or.inr ⟨_, _, if_pos zt, rfl, hfa⟩⟩
  · skip
    rw [q1]
    have hFN1 : pcF M N1 pl := pcF.o qr (fun a hb => gt a (fun e => hb (Or.inl e)))
    have hXN1 : XW ly N1.2.2 := hFN1.xw hX
    have h24N1 : N1.2.2 2 4 = some pl := (hFN1.1 2 4 (by omega)).trans h24
    exact absurd zh.1 (by decide)
  · skip
    rw [q1]
    have hFN1 : pcF M N1 pl := pcF.o qr (fun a hb => gt a (fun e => hb (Or.inl e)) (fun e => hb (Or.inr (Or.inl e))))
    have hXN1 : XW ly N1.2.2 := hFN1.xw hX
    have h24N1 : N1.2.2 2 4 = some pl := (hFN1.1 2 4 (by omega)).trans h24
    refine Rn.if_ne dX6_readSetting_12 (fun h9 => ?_) (fun h9 => (by first | exact absurd h9 (by decide) | exact absurd (by decide) h9))
    refine Rn.aload_n dX6_readSetting_17 rfl ?_
    refine Rn.iconstv (v := 0) dX6_readSetting_18 ic_0 ?_
    refine Rn.iload_n dX6_readSetting_19 rfl ?_
    refine Rn.callV2 dX6_readSetting_20 vX6_95 (xc2 hXN1) (by decide) rfl (tkNum (M := N1) (i := nx f n i) hrN1 (by decide) (by decide) hXN1) (by decide) ⟨(Nat.le_of_ble_eq_true rfl), (Nat.le_of_ble_eq_true rfl), (Nat.le_of_ble_eq_true rfl)⟩ (fun h => by cases h) (fun v1 ly1 N2 ⟨q2, qr, hh⟩ => ?_)
    rw [q2]
    rcases hh with ⟨z1, q1, y1, x1_, g1, hrN2⟩ | ⟨z1, q1, g1, hfa⟩
    · skip
      rw [q1]
      have hFN2 : pcF M N2 pl := hFN1.tr (pcF.o qr (fun a hb => g1 a (fun e => hb (Or.inr (Or.inl e)))))
      have hXN2 : XW ly N2.2.2 := hFN2.xw hX
      have h24N2 : N2.2.2 2 4 = some pl := (hFN2.1 2 4 (by omega)).trans h24
      refine Rn.istore_n (lv' := [some (.ref 2), some (.int 99), some (.int 7), some (.int (nvF f n (nx f n i)))]) dX6_readSetting_23 (by decide) rfl ?_
      refine Rn.iload_n dX6_readSetting_24 rfl ?_
      refine Rn.iconstv (v := -1) dX6_readSetting_25 ic_m1 ?_
      refine Rn.icmp_ne dX6_readSetting_26 (fun h9 => ?_) (fun h9 => absurd h9 y1)
      refine Rn.aload_n dX6_readSetting_31 rfl ?_
      refine Rn.getR dX6_readSetting_32 fX6_33 rfl (xc2 hXN2) (show N2.2.2 2 4 = some pl from h24N2) ?_
      refine Rn.iload_n dX6_readSetting_35 rfl ?_
      refine Rn.iload_n dX6_readSetting_36 rfl ?_
      refine Rn.callV2 dX6_readSetting_37 vX6_108 (pc0 hXN2 hp7) (by decide) rfl (setN7 (M := N2) (x := nvF f n (nx f n i)) hp7 hXN2) (by decide) ⟨(Nat.le_of_ble_eq_true rfl), (Nat.le_of_ble_eq_true rfl), (Nat.le_of_ble_eq_true rfl)⟩ (fun h => by cases h) (fun v1 ly1 M1 ⟨q1, q2, q3⟩ => ?_)
      rw [q1, q2, q3]
      refine Rn.iconstv (v := 1) dX6_readSetting_40 ic_1 ?_
      have hP4 : CPl N2 pl p := hP.of (fun a a1 a2 => (g1 a (by omega)).trans (gt a (by omega) (by omega)))
      have hres : lnS (kdF f n) (nvF f n) (nx f n) 7 10 99 p i = .inl ((set2 p.D 0 10 (nvF f n (nx f n i)), p.ct, p.lw, p.c, setB p.tb 7 true, p.hc), nx f n (nx f n i)) := (if_neg zt).trans (qK_0 z1)
      obtain ⟨h01, h02, h03, h04, h05, h06, h07, h08, h09⟩ := hP4.1
      refine Rn.iret (ty := .boolean) dX6_readSetting_41 rfl rfl ⟨rfl, hFN2.tr (pcF.s (by omega)), Or.inl ⟨_, _, hres, rfl, hrN2.of (sI_ne (by omega)) (sI_ne (by omega)) (sI_ne (by omega)), hp7, h24N2, hP4.num ⟨(by rw [set2_n (Or.inr (by decide))]; exact h01), (by rw [set2_n (Or.inr (by decide))]; exact h02), (by rw [set2_n (Or.inr (by decide))]; exact h03), (by rw [set2_n (Or.inr (by decide))]; exact h04), (by rw [set2_n (Or.inr (by decide))]; exact h05), (by rw [set2_n (Or.inr (by decide))]; exact h06), ?_, (by rw [set2_n (Or.inr (by decide))]; exact h08), h09⟩ (fun r hr => ?_), ?_, ?_, ?_, hct.1, hct.2.1, hct.2.2.1, hct.2.2.2.1, hct.2.2.2.2.1, m00 (D := p.D) (r := 0) (ix := 10) (x := nvF f n (nx f n i)) (by decide) hct.2.2.2.2.2⟩⟩
      · rw [set2_s]; rfl
      · rw [set2_o (by omega)]
      · rw [sI_ne (show 2 ≠ pl by omega), g1 2 (by decide)]; exact hb1
      · rw [sI_ne (show 2 ≠ pl by omega), g1 2 (by decide)]; exact h61.trans h6
      · rw [sI_ne (show 2 ≠ pl by omega), g1 2 (by decide)]; exact ⟨h62.1.trans hft.1, h62.2.trans hft.2⟩
    · skip
      rw [q1]
      have hFN2 : pcF M N2 pl := hFN1.tr (pcF.o qr (fun a hb => g1 a (fun e => hb (Or.inl e))))
      have hXN2 : XW ly N2.2.2 := hFN2.xw hX
      have h24N2 : N2.2.2 2 4 = some pl := (hFN2.1 2 4 (by omega)).trans h24
      refine Rn.istore_n (lv' := [some (.ref 2), some (.int 99), some (.int 7), some (.int (-1))]) dX6_readSetting_23 (by decide) rfl ?_
      refine Rn.iload_n dX6_readSetting_24 rfl ?_
      refine Rn.iconstv (v := -1) dX6_readSetting_25 ic_m1 ?_
      refine Rn.icmp_ne dX6_readSetting_26 (fun h9 => (by first | exact absurd h9 (by decide) | exact absurd (by decide) h9)) (fun h9 => ?_)
      refine Rn.iconstv (v := 0) dX6_readSetting_29 ic_0 ?_
      exact Rn.iret (ty := .boolean) dX6_readSetting_30 rfl rfl ⟨rfl, hFN2, Or.inr ⟨_, _, (if_neg zt).trans (qK_n z1), rfl, hfa⟩⟩
theorem rlSet8 {G : Gx} {l : Launch} {ly : Ly} {M : Mm} {f : Nat → Int32} {n i : Nat} {pl : Nat} {p : Pl} (hS : CPs ly M f n pl p i) (hk : kdF f n i = 8) (hX : XW ly M.2.2) : Mt G l mX6_readSetting (4, 0, 0, false) [.ref 2, .int 99999] ly M (clP ly M f n pl (lnS (kdF f n) (nvF f n) (nx f n) 8 11 99999 p i)) := by
  refine Mt.of (lv := [some (.ref 2), some (.int 99999), none, none]) rfl ?_
  obtain ⟨hr, hp7, h24, hP, hb, h6, hft, hct⟩ := hS
  have r6 := hr.2.2.1
  have r6k := r6.trans hk
  refine Rn.aload_n dX6_readSetting_0 rfl ?_
  refine Rn.getR dX6_readSetting_1 fX6_20 rfl (xc2 hX) (show M.2.2 2 2 = some 3 from (xp2_2 hX)) ?_
  refine Rn.getI dX6_readSetting_4 fX6_56 rfl (xc3 hX) ?_
  refine Rn.topI (y := 8) (r6k) ?_
  refine Rn.istore_n (lv' := [some (.ref 2), some (.int 99999), some (.int 8), none]) dX6_readSetting_7 (by decide) rfl ?_
  refine Rn.aload_n dX6_readSetting_8 rfl ?_
  refine Rn.callV0 dX6_readSetting_9 vX6_92 (xc2 hX) (by decide) rfl (tkOnce (M := M) (i := i) (w := 8) hr ⟨hk, by decide⟩ hb h6 hX) (by decide) ⟨(Nat.le_of_ble_eq_true rfl), (Nat.le_of_ble_eq_true rfl), (Nat.le_of_ble_eq_true rfl)⟩ (fun h => by cases h) (fun v1 ly1 N1 ⟨q2, qr, hh⟩ => ?_)
  rw [q2]
  rcases hh with ⟨zt, q1, gt, hfa⟩ | ⟨zt, zh, q1, gt, hfa⟩ | ⟨zt, zh, q1, gt, hb1, h61, h62, hrN1⟩
  · skip
    rw [q1]
    have hFN1 : pcF M N1 pl := pcF.o qr (fun a hb => gt a (fun e => hb (Or.inl e)))
    have hXN1 : XW ly N1.2.2 := hFN1.xw hX
    have h24N1 : N1.2.2 2 4 = some pl := (hFN1.1 2 4 (by omega)).trans h24
    refine Rn.if_ne dX6_readSetting_12 (fun h9 => (by first | exact absurd h9 (by decide) | exact absurd (by decide) h9)) (fun h9 => ?_)
    refine Rn.iconstv (v := 0) dX6_readSetting_15 ic_0 ?_
    exact Rn.iret (ty := .boolean) dX6_readSetting_16 rfl rfl ⟨rfl, hFN1, Or.inr ⟨_, _, if_pos zt, rfl, hfa⟩⟩
  · skip
    rw [q1]
    have hFN1 : pcF M N1 pl := pcF.o qr (fun a hb => gt a (fun e => hb (Or.inl e)))
    have hXN1 : XW ly N1.2.2 := hFN1.xw hX
    have h24N1 : N1.2.2 2 4 = some pl := (hFN1.1 2 4 (by omega)).trans h24
    exact absurd zh.1 (by decide)
  · skip
    rw [q1]
    have hFN1 : pcF M N1 pl := pcF.o qr (fun a hb => gt a (fun e => hb (Or.inl e)) (fun e => hb (Or.inr (Or.inl e))))
    have hXN1 : XW ly N1.2.2 := hFN1.xw hX
    have h24N1 : N1.2.2 2 4 = some pl := (hFN1.1 2 4 (by omega)).trans h24
    refine Rn.if_ne dX6_readSetting_12 (fun h9 => ?_) (fun h9 => (by first | exact absurd h9 (by decide) | exact absurd (by decide) h9))
    refine Rn.aload_n dX6_readSetting_17 rfl ?_
    refine Rn.iconstv (v := 0) dX6_readSetting_18 ic_0 ?_
    refine Rn.iload_n dX6_readSetting_19 rfl ?_
    refine Rn.callV2 dX6_readSetting_20 vX6_95 (xc2 hXN1) (by decide) rfl (tkNum (M := N1) (i := nx f n i) hrN1 (by decide) (by decide) hXN1) (by decide) ⟨(Nat.le_of_ble_eq_true rfl), (Nat.le_of_ble_eq_true rfl), (Nat.le_of_ble_eq_true rfl)⟩ (fun h => by cases h) (fun v1 ly1 N2 ⟨q2, qr, hh⟩ => ?_)
    rw [q2]
    rcases hh with ⟨z1, q1, y1, x1_, g1, hrN2⟩ | ⟨z1, q1, g1, hfa⟩
    · skip
      rw [q1]
      have hFN2 : pcF M N2 pl := hFN1.tr (pcF.o qr (fun a hb => g1 a (fun e => hb (Or.inr (Or.inl e)))))
      have hXN2 : XW ly N2.2.2 := hFN2.xw hX
      have h24N2 : N2.2.2 2 4 = some pl := (hFN2.1 2 4 (by omega)).trans h24
      refine Rn.istore_n (lv' := [some (.ref 2), some (.int 99999), some (.int 8), some (.int (nvF f n (nx f n i)))]) dX6_readSetting_23 (by decide) rfl ?_
      refine Rn.iload_n dX6_readSetting_24 rfl ?_
      refine Rn.iconstv (v := -1) dX6_readSetting_25 ic_m1 ?_
      refine Rn.icmp_ne dX6_readSetting_26 (fun h9 => ?_) (fun h9 => absurd h9 y1)
      refine Rn.aload_n dX6_readSetting_31 rfl ?_
      refine Rn.getR dX6_readSetting_32 fX6_33 rfl (xc2 hXN2) (show N2.2.2 2 4 = some pl from h24N2) ?_
      refine Rn.iload_n dX6_readSetting_35 rfl ?_
      refine Rn.iload_n dX6_readSetting_36 rfl ?_
      refine Rn.callV2 dX6_readSetting_37 vX6_108 (pc0 hXN2 hp7) (by decide) rfl (setN8 (M := N2) (x := nvF f n (nx f n i)) hp7 hXN2) (by decide) ⟨(Nat.le_of_ble_eq_true rfl), (Nat.le_of_ble_eq_true rfl), (Nat.le_of_ble_eq_true rfl)⟩ (fun h => by cases h) (fun v1 ly1 M1 ⟨q1, q2, q3⟩ => ?_)
      rw [q1, q2, q3]
      refine Rn.iconstv (v := 1) dX6_readSetting_40 ic_1 ?_
      have hP4 : CPl N2 pl p := hP.of (fun a a1 a2 => (g1 a (by omega)).trans (gt a (by omega) (by omega)))
      have hres : lnS (kdF f n) (nvF f n) (nx f n) 8 11 99999 p i = .inl ((set2 p.D 0 11 (nvF f n (nx f n i)), p.ct, p.lw, p.c, setB p.tb 8 true, p.hc), nx f n (nx f n i)) := (if_neg zt).trans (qK_0 z1)
      obtain ⟨h01, h02, h03, h04, h05, h06, h07, h08, h09⟩ := hP4.1
      refine Rn.iret (ty := .boolean) dX6_readSetting_41 rfl rfl ⟨rfl, hFN2.tr (pcF.s (by omega)), Or.inl ⟨_, _, hres, rfl, hrN2.of (sI_ne (by omega)) (sI_ne (by omega)) (sI_ne (by omega)), hp7, h24N2, hP4.num ⟨(by rw [set2_n (Or.inr (by decide))]; exact h01), (by rw [set2_n (Or.inr (by decide))]; exact h02), (by rw [set2_n (Or.inr (by decide))]; exact h03), (by rw [set2_n (Or.inr (by decide))]; exact h04), (by rw [set2_n (Or.inr (by decide))]; exact h05), (by rw [set2_n (Or.inr (by decide))]; exact h06), (by rw [set2_n (Or.inr (by decide))]; exact h07), ?_, h09⟩ (fun r hr => ?_), ?_, ?_, ?_, hct.1, hct.2.1, hct.2.2.1, hct.2.2.2.1, hct.2.2.2.2.1, m00 (D := p.D) (r := 0) (ix := 11) (x := nvF f n (nx f n i)) (by decide) hct.2.2.2.2.2⟩⟩
      · rw [set2_s]; rfl
      · rw [set2_o (by omega)]
      · rw [sI_ne (show 2 ≠ pl by omega), g1 2 (by decide)]; exact hb1
      · rw [sI_ne (show 2 ≠ pl by omega), g1 2 (by decide)]; exact h61.trans h6
      · rw [sI_ne (show 2 ≠ pl by omega), g1 2 (by decide)]; exact ⟨h62.1.trans hft.1, h62.2.trans hft.2⟩
    · skip
      rw [q1]
      have hFN2 : pcF M N2 pl := hFN1.tr (pcF.o qr (fun a hb => g1 a (fun e => hb (Or.inl e))))
      have hXN2 : XW ly N2.2.2 := hFN2.xw hX
      have h24N2 : N2.2.2 2 4 = some pl := (hFN2.1 2 4 (by omega)).trans h24
      refine Rn.istore_n (lv' := [some (.ref 2), some (.int 99999), some (.int 8), some (.int (-1))]) dX6_readSetting_23 (by decide) rfl ?_
      refine Rn.iload_n dX6_readSetting_24 rfl ?_
      refine Rn.iconstv (v := -1) dX6_readSetting_25 ic_m1 ?_
      refine Rn.icmp_ne dX6_readSetting_26 (fun h9 => (by first | exact absurd h9 (by decide) | exact absurd (by decide) h9)) (fun h9 => ?_)
      refine Rn.iconstv (v := 0) dX6_readSetting_29 ic_0 ?_
      exact Rn.iret (ty := .boolean) dX6_readSetting_30 rfl rfl ⟨rfl, hFN2, Or.inr ⟨_, _, (if_neg zt).trans (qK_n z1), rfl, hfa⟩⟩
