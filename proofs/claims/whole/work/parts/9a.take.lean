theorem bt_sh2 (x : Int32) : ∀ j, j ≤ 17 → (x >>> (nI j &&& 31)).toBitVec = x.toBitVec.sshiftRight j := by
  intro j hj
  match j, hj with
  | 0, _ => rfl
  | 1, _ => rfl
  | 2, _ => rfl
  | 3, _ => rfl
  | 4, _ => rfl
  | 5, _ => rfl
  | 6, _ => rfl
  | 7, _ => rfl
  | 8, _ => rfl
  | 9, _ => rfl
  | 10, _ => rfl
  | 11, _ => rfl
  | 12, _ => rfl
  | 13, _ => rfl
  | 14, _ => rfl
  | 15, _ => rfl
  | 16, _ => rfl
  | 17, _ => rfl
  | k + 18, h => exact absurd h (by omega)
theorem bt2 (x : Int32) {j : Nat} (hj : j ≤ 17) : ((x >>> (nI j &&& 31)) &&& 1 = 1) ↔ x.toBitVec.getLsbD j = true := by
  rw [← Int32.toBitVec_inj, Int32.toBitVec_and, bt_sh2 x j hj]
  show x.toBitVec.sshiftRight j &&& 1#32 = 1#32 ↔ _
  rw [bv1, BitVec.getLsbD_sshiftRight]
  have : j + 0 < 32 := by omega
  rw [if_pos this, Nat.add_zero, show decide (32 ≤ 0) = false from rfl]; simp
theorem sh2 : ∀ k, k ≤ 17 → ((1 : Int32) <<< (nI k &&& 31)).toBitVec = BitVec.twoPow 32 k := by decide
theorem tst2 (x : Int32) {k : Nat} (hk : k ≤ 17) : (x &&& ((1 : Int32) <<< (nI k &&& 31)) = 0) ↔ ¬ x.toBitVec.getLsbD k = true := by
  rw [← Int32.toBitVec_inj, Int32.toBitVec_and, sh2 k hk, BitVec.and_twoPow]
  show (if x.toBitVec.getLsbD k = true then BitVec.twoPow 32 k else 0#32) = 0#32 ↔ _
  by_cases h : x.toBitVec.getLsbD k = true
  · rw [if_pos h]
    exact ⟨fun g => absurd g ((show ∀ k, k ≤ 17 → ¬ BitVec.twoPow 32 k = 0#32 by decide) k hk), fun g => absurd h g⟩
  · rw [if_neg h]; exact ⟨fun _ => h, fun _ => rfl⟩
theorem or2 (x : Int32) {k j : Nat} (hk : k ≤ 17) (hj : j ≤ 17) : (x ||| ((1 : Int32) <<< (nI k &&& 31))).toBitVec.getLsbD j = (if j = k then true else x.toBitVec.getLsbD j) := by
  rw [Int32.toBitVec_or, BitVec.getLsbD_or, (show ∀ k, k ≤ 17 → ∀ j, j ≤ 17 → ((1 : Int32) <<< (nI k &&& 31)).toBitVec.getLsbD j = decide (j = k) by decide) k hk j hj]
  by_cases e : j = k
  · rw [if_pos e, decide_eq_true e, Bool.or_true]
  · rw [if_neg e, decide_eq_false e, Bool.or_false]
/-- words told -/
def bitT (x : Int32) (tb : Nat → Bool) : Prop := ∀ j, j ≤ 15 → x.toBitVec.getLsbD j = tb j
theorem bitT.set {x : Int32} {tb : Nat → Bool} {k : Nat} (h : bitT x tb) (hk : k ≤ 15) : bitT (x ||| ((1 : Int32) <<< (nI k &&& 31))) (setB tb k true) := by
  intro j hj
  rw [or2 x (by omega) (by omega)]
  unfold setB
  by_cases e : j = k
  · rw [if_pos e, if_pos e]
  · rw [if_neg e, if_neg e]; exact h j hj
/-- what reading a text may change -/
def pcF (M K : Mm) (pl : Nat) : Prop := (∀ a j, ¬ (a = 5 ∧ (j = 1 ∨ j = 2)) → K.2.2 a j = M.2.2 a j) ∧ ∀ a, ¬ (a = 2 ∨ a = 3 ∨ a = 5 ∨ a = 6 ∨ (pl ≤ a ∧ a ≤ pl + 33)) → K.1 a = M.1 a
theorem pcF.rf {M : Mm} {pl : Nat} : pcF M M pl := ⟨fun _ _ _ => rfl, fun _ _ => rfl⟩
theorem pcF.tr {M N K : Mm} {pl : Nat} (h : pcF M N pl) (g : pcF N K pl) : pcF M K pl := ⟨fun a j x => (g.1 a j x).trans (h.1 a j x), fun a x => (g.2 a x).trans (h.2 a x)⟩
theorem pcF.xw {M K : Mm} {pl : Nat} {ly : Ly} (h : pcF M K pl) (hX : XW ly M.2.2) : XW ly K.2.2 := hX.of (fun p hp => h.1 _ _ (xFin_5 p hp))
theorem pcF.o {M K : Mm} {pl : Nat} (h1 : K.2.2 = M.2.2) (h2 : ∀ a, ¬ (a = 2 ∨ a = 3 ∨ a = 5 ∨ a = 6 ∨ (pl ≤ a ∧ a ≤ pl + 33)) → K.1 a = M.1 a) : pcF M K pl := ⟨fun _ _ _ => by rw [h1], h2⟩
theorem pcF.s {M : Mm} {pl a : Nat} {g : Nat → Int32} (ha : a = 2 ∨ a = 3 ∨ a = 5 ∨ a = 6 ∨ (pl ≤ a ∧ a ≤ pl + 33)) : pcF M (sI M a g) pl := pcF.o rfl (fun b hb => sI_ne (fun e => hb (e ▸ ha)))
theorem pcF.x {M K : Mm} {pl : Nat} (h : xrF M K) : pcF M K pl := pcF.o h.1 (fun b hb => h.2.1 b (fun e => hb (Or.inr (Or.inl e))))
/-- a fault is told -/
def faC (f : Nat → Int32) (n : Nat) (K : Mm) (q : Int32) (j : Nat) : Prop := K.1 2 0 = q ∧ K.1 2 1 = nI (tkP f n j)
theorem nuR.q {a b lo hi : Int32} (h : nuR a b) (hh : hi ≤ 99999) : ((a < lo ∨ hi < a) ↔ (b < lo ∨ hi < b)) ∧ (¬ hi < b → a = b) := by
  rcases h with ⟨v, hv, rfl, rfl⟩ | ⟨v, u, hv, hu, rfl, rfl⟩
  · exact ⟨Iff.rfl, fun _ => rfl⟩
  · have e1 : hi < nI v := Int32.lt_of_le_of_lt hh ((nI_ltI (a := 99999) (b := v) (by decide) (by omega)).mpr (by omega))
    have e2 : hi < nI u := Int32.lt_of_le_of_lt hh ((nI_ltI (a := 99999) (b := u) (by decide) (by omega)).mpr (by omega))
    exact ⟨⟨fun _ => Or.inr e2, fun _ => Or.inr e1⟩, fun g => absurd e2 g⟩
theorem cN2 {R : Nat → Nat → Option Nat} {ly : Ly} {p k : Nat} (h : XW ly R) (hp : p = 7 ∨ p = 41) (hk : k < 4) : R (p + 2) k = some (p + 3 + k) ∧ ly[p + 3 + k]? = some (.inl (0, 6)) := by
  match k, hk with
  | 0, _ => exact ⟨pp2_0 h hp, pc3 h hp⟩
  | 1, _ => exact ⟨pp2_1 h hp, pc4 h hp⟩
  | 2, _ => exact ⟨pp2_2 h hp, pc5 h hp⟩
  | 3, _ => exact ⟨pp2_3 h hp, pc6 h hp⟩
theorem cN24 {R : Nat → Nat → Option Nat} {ly : Ly} {p k : Nat} (h : XW ly R) (hp : p = 7 ∨ p = 41) (hk : k < 3) : R (p + 24) k = some (p + 25 + 3 * k) ∧ ly[p + 25 + 3 * k]? = some (.inr 5) ∧ R (p + 25 + 3 * k) 1 = some (p + 25 + 3 * k + 1) ∧ ly[p + 25 + 3 * k + 1]? = some (.inl (0, 64)) := by
  match k, hk with
  | 0, _ => exact ⟨pp24_0 h hp, pc25 h hp, pp25_1 h hp, pc26 h hp⟩
  | 1, _ => exact ⟨pp24_1 h hp, pc28 h hp, pp28_1 h hp, pc29 h hp⟩
  | 2, _ => exact ⟨pp24_2 h hp, pc31 h hp, pp31_1 h hp, pc32 h hp⟩
theorem tkNum {G : Gx} {l : Launch} {ly : Ly} {M : Mm} {f : Nat → Int32} {n i : Nat} {lo hi : Int32} (hr : CRd M f n i) (hlo : 0 ≤ lo) (hhi : hi ≤ 99999) (hX : XW ly M.2.2) : Mt G l mX6_takeNumber (3, 0, 0, false) [.ref 2, .int lo, .int hi] ly M (fun v ly2 K => ly2 = ly ∧ K.2.2 = M.2.2 ∧ ((nmQ (kdF f n) (nvF f n) lo hi i = 0 ∧ v = some (.int (nvF f n i)) ∧ ¬ nvF f n i = -1 ∧ (lo ≤ nvF f n i ∧ nvF f n i ≤ hi) ∧ (∀ a, a ≠ 3 → K.1 a = M.1 a) ∧ CRd K f n (nx f n i)) ∨ (¬ nmQ (kdF f n) (nvF f n) lo hi i = 0 ∧ v = some (.int (-1)) ∧ (∀ a, a ≠ 2 → K.1 a = M.1 a) ∧ faC f n K (nmQ (kdF f n) (nvF f n) lo hi i) i))) := by
  refine Mt.of (lv := [some (.ref 2), some (.int lo), some (.int hi), none]) rfl ?_
  have r6 := hr.2.2.1
  have r7 := hr.2.2.2.1
  refine Rn.aload_n dX6_takeNumber_0 rfl ?_
  refine Rn.getR dX6_takeNumber_1 fX6_20 rfl (xc2 hX) (show M.2.2 2 2 = some 3 from (xp2_2 hX)) ?_
  refine Rn.getI dX6_takeNumber_4 fX6_56 rfl (xc3 hX) ?_
  refine Rn.topI (y := kdF f n i) (r6) ?_
  refine Rn.bipushv (v := 38) dX6_takeNumber_7 bp_38 ?_
  refine Rn.icmp_eq dX6_takeNumber_9 (fun h38 => ?_) (fun h38 => ?_)
  · skip
    have hnu := (hr.2.2.2.2.2.1 h38).q (lo := lo) hhi
    refine Rn.aload_n dX6_takeNumber_20 rfl ?_
    refine Rn.getR dX6_takeNumber_21 fX6_20 rfl (xc2 hX) (show M.2.2 2 2 = some 3 from (xp2_2 hX)) ?_
    refine Rn.getI dX6_takeNumber_24 fX6_180 rfl (xc3 hX) ?_
    refine Rn.istore_n (lv' := [some (.ref 2), some (.int lo), some (.int hi), some (.int (M.1 3 2))]) dX6_takeNumber_27 (by decide) rfl ?_
    refine Rn.iload_n dX6_takeNumber_28 rfl ?_
    refine Rn.iload_n dX6_takeNumber_29 rfl ?_
    refine Rn.icmp_lt dX6_takeNumber_30 (fun hl => ?_) (fun hl => ?_)
    · skip
      have hq : nmQ (kdF f n) (nvF f n) lo hi i = 2 := (if_pos h38).trans (if_pos (hnu.1.mp (Or.inl hl)))
      refine Rn.aload_n dX6_takeNumber_38 rfl ?_
      refine Rn.iconstv (v := 2) dX6_takeNumber_39 ic_2 ?_
      refine Rn.callV1 dX6_takeNumber_40 vX6_89 (xc2 hX) (by decide) rfl (tX6_fail (M := M) (x := 2) hX) (by decide) ⟨(Nat.le_of_ble_eq_true rfl), (Nat.le_of_ble_eq_true rfl), (Nat.le_of_ble_eq_true rfl)⟩ (fun h => by cases h) (fun v1 ly1 M1 ⟨q1, q2, q3⟩ => ?_)
      rw [q1, q2, q3]
      show Rn G l mX6_takeNumber (3, 0, 0, false) 43 [some (.ref 2), some (.int lo), some (.int hi), some (.int (M.1 3 2))] [.int 0] ly (sI M 2 (upd (upd (M.1 2) 0 2) 1 (M.1 3 1))) (fun v ly2 K => ly2 = ly ∧ K.2.2 = M.2.2 ∧ ((nmQ (kdF f n) (nvF f n) lo hi i = 0 ∧ v = some (.int (nvF f n i)) ∧ ¬ nvF f n i = -1 ∧ (lo ≤ nvF f n i ∧ nvF f n i ≤ hi) ∧ (∀ a, a ≠ 3 → K.1 a = M.1 a) ∧ CRd K f n (nx f n i)) ∨ (¬ nmQ (kdF f n) (nvF f n) lo hi i = 0 ∧ v = some (.int (-1)) ∧ (∀ a, a ≠ 2 → K.1 a = M.1 a) ∧ faC f n K (nmQ (kdF f n) (nvF f n) lo hi i) i)))
      refine Rn.pop dX6_takeNumber_43 rfl ?_
      refine Rn.iconstv (v := -1) dX6_takeNumber_44 ic_m1 ?_
      exact Rn.iret (ty := .int) dX6_takeNumber_45 rfl rfl ⟨rfl, rfl, Or.inr ⟨by rw [hq]; decide, rfl, fun a ha => sI_ne ha, by rw [hq]; exact ⟨rfl, r7⟩⟩⟩
    · skip
      refine Rn.iload_n dX6_takeNumber_33 rfl ?_
      refine Rn.iload_n dX6_takeNumber_34 rfl ?_
      refine Rn.icmp_le dX6_takeNumber_35 (fun hh => ?_) (fun hh => ?_)
      · skip
        have hin : ¬ (nvF f n i < lo ∨ hi < nvF f n i) := fun g => (hnu.1.mpr g).elim hl (fun g => absurd hh (Int32.not_le.mpr g))
        have hev := hnu.2 (fun g => hin (Or.inr g))
        have hq : nmQ (kdF f n) (nvF f n) lo hi i = 0 := (if_pos h38).trans (if_neg hin)
        refine Rn.aload_n dX6_takeNumber_46 rfl ?_
        refine Rn.getR dX6_takeNumber_47 fX6_20 rfl (xc2 hX) (show M.2.2 2 2 = some 3 from (xp2_2 hX)) ?_
        refine Rn.callV0 dX6_takeNumber_50 vX6_115 (xc3 hX) (by decide) rfl (advC (M := M) hr hX) (by decide) ⟨(Nat.le_of_ble_eq_true rfl), (Nat.le_of_ble_eq_true rfl), (Nat.le_of_ble_eq_true rfl)⟩ (fun h => by cases h) (fun v1 ly1 N2 ⟨q1, q2, f2, hr2⟩ => ?_)
        rw [q1, q2]
        have hXN2 : XW ly N2.2.2 := by rw [f2.1]; exact hX
        have hle : lo ≤ nvF f n i := Int32.not_lt.mp (fun g => hin (Or.inl g))
        refine Rn.iload_n dX6_takeNumber_53 rfl ?_
        refine Rn.topI (y := nvF f n i) (hev) ?_
        exact Rn.iret (ty := .int) dX6_takeNumber_54 rfl rfl ⟨rfl, f2.1, Or.inl ⟨hq, rfl, fun g => absurd (Int32.le_trans hlo hle) (by rw [g]; decide), ⟨hle, Int32.not_lt.mp (fun g => hin (Or.inr g))⟩, f2.2.1, hr2⟩⟩
      · skip
        have hq : nmQ (kdF f n) (nvF f n) lo hi i = 2 := (if_pos h38).trans (if_pos (hnu.1.mp (Or.inr (Int32.not_le.mp hh))))
        refine Rn.aload_n dX6_takeNumber_38 rfl ?_
        refine Rn.iconstv (v := 2) dX6_takeNumber_39 ic_2 ?_
        refine Rn.callV1 dX6_takeNumber_40 vX6_89 (xc2 hX) (by decide) rfl (tX6_fail (M := M) (x := 2) hX) (by decide) ⟨(Nat.le_of_ble_eq_true rfl), (Nat.le_of_ble_eq_true rfl), (Nat.le_of_ble_eq_true rfl)⟩ (fun h => by cases h) (fun v1 ly1 M1 ⟨q1, q2, q3⟩ => ?_)
        rw [q1, q2, q3]
        show Rn G l mX6_takeNumber (3, 0, 0, false) 43 [some (.ref 2), some (.int lo), some (.int hi), some (.int (M.1 3 2))] [.int 0] ly (sI M 2 (upd (upd (M.1 2) 0 2) 1 (M.1 3 1))) (fun v ly2 K => ly2 = ly ∧ K.2.2 = M.2.2 ∧ ((nmQ (kdF f n) (nvF f n) lo hi i = 0 ∧ v = some (.int (nvF f n i)) ∧ ¬ nvF f n i = -1 ∧ (lo ≤ nvF f n i ∧ nvF f n i ≤ hi) ∧ (∀ a, a ≠ 3 → K.1 a = M.1 a) ∧ CRd K f n (nx f n i)) ∨ (¬ nmQ (kdF f n) (nvF f n) lo hi i = 0 ∧ v = some (.int (-1)) ∧ (∀ a, a ≠ 2 → K.1 a = M.1 a) ∧ faC f n K (nmQ (kdF f n) (nvF f n) lo hi i) i)))
        refine Rn.pop dX6_takeNumber_43 rfl ?_
        refine Rn.iconstv (v := -1) dX6_takeNumber_44 ic_m1 ?_
        exact Rn.iret (ty := .int) dX6_takeNumber_45 rfl rfl ⟨rfl, rfl, Or.inr ⟨by rw [hq]; decide, rfl, fun a ha => sI_ne ha, by rw [hq]; exact ⟨rfl, r7⟩⟩⟩
  · skip
    have hq : nmQ (kdF f n) (nvF f n) lo hi i = 1 := if_neg h38
    refine Rn.aload_n dX6_takeNumber_12 rfl ?_
    refine Rn.iconstv (v := 1) dX6_takeNumber_13 ic_1 ?_
    refine Rn.callV1 dX6_takeNumber_14 vX6_89 (xc2 hX) (by decide) rfl (tX6_fail (M := M) (x := 1) hX) (by decide) ⟨(Nat.le_of_ble_eq_true rfl), (Nat.le_of_ble_eq_true rfl), (Nat.le_of_ble_eq_true rfl)⟩ (fun h => by cases h) (fun v1 ly1 M1 ⟨q1, q2, q3⟩ => ?_)
    rw [q1, q2, q3]
    show Rn G l mX6_takeNumber (3, 0, 0, false) 17 [some (.ref 2), some (.int lo), some (.int hi), none] [.int 0] ly (sI M 2 (upd (upd (M.1 2) 0 1) 1 (M.1 3 1))) (fun v ly2 K => ly2 = ly ∧ K.2.2 = M.2.2 ∧ ((nmQ (kdF f n) (nvF f n) lo hi i = 0 ∧ v = some (.int (nvF f n i)) ∧ ¬ nvF f n i = -1 ∧ (lo ≤ nvF f n i ∧ nvF f n i ≤ hi) ∧ (∀ a, a ≠ 3 → K.1 a = M.1 a) ∧ CRd K f n (nx f n i)) ∨ (¬ nmQ (kdF f n) (nvF f n) lo hi i = 0 ∧ v = some (.int (-1)) ∧ (∀ a, a ≠ 2 → K.1 a = M.1 a) ∧ faC f n K (nmQ (kdF f n) (nvF f n) lo hi i) i)))
    refine Rn.pop dX6_takeNumber_17 rfl ?_
    refine Rn.iconstv (v := -1) dX6_takeNumber_18 ic_m1 ?_
    exact Rn.iret (ty := .int) dX6_takeNumber_19 rfl rfl ⟨rfl, rfl, Or.inr ⟨by rw [hq]; decide, rfl, fun a ha => sI_ne ha, by rw [hq]; exact ⟨rfl, r7⟩⟩⟩
theorem tkTk {G : Gx} {l : Launch} {ly : Ly} {M : Mm} {f : Nat → Int32} {n i : Nat} {x : Int32} (hr : CRd M f n i) (hX : XW ly M.2.2) : Mt G l mX6_take (3, 0, 0, false) [.ref 2, .int x] ly M (fun v ly2 K => ly2 = ly ∧ K.2.2 = M.2.2 ∧ ((kdF f n i = x ∧ v = some (.int 1) ∧ (∀ a, a ≠ 3 → K.1 a = M.1 a) ∧ CRd K f n (nx f n i)) ∨ (¬ kdF f n i = x ∧ v = some (.int 0) ∧ (∀ a, a ≠ 2 → K.1 a = M.1 a) ∧ faC f n K 1 i))) := by
  refine Mt.of (lv := [some (.ref 2), some (.int x)]) rfl ?_
  have r6 := hr.2.2.1
  have r7 := hr.2.2.2.1
  refine Rn.aload_n dX6_take_0 rfl ?_
  refine Rn.getR dX6_take_1 fX6_20 rfl (xc2 hX) (show M.2.2 2 2 = some 3 from (xp2_2 hX)) ?_
  refine Rn.getI dX6_take_4 fX6_56 rfl (xc3 hX) ?_
  refine Rn.topI (y := kdF f n i) (r6) ?_
  refine Rn.iload_n dX6_take_7 rfl ?_
  refine Rn.icmp_eq dX6_take_8 (fun hx => ?_) (fun hx => ?_)
  · skip
    refine Rn.aload_n dX6_take_17 rfl ?_
    refine Rn.getR dX6_take_18 fX6_20 rfl (xc2 hX) (show M.2.2 2 2 = some 3 from (xp2_2 hX)) ?_
    refine Rn.callV0 dX6_take_21 vX6_115 (xc3 hX) (by decide) rfl (advC (M := M) hr hX) (by decide) ⟨(Nat.le_of_ble_eq_true rfl), (Nat.le_of_ble_eq_true rfl), (Nat.le_of_ble_eq_true rfl)⟩ (fun h => by cases h) (fun v1 ly1 N2 ⟨q1, q2, f2, hr2⟩ => ?_)
    rw [q1, q2]
    have hXN2 : XW ly N2.2.2 := by rw [f2.1]; exact hX
    refine Rn.iconstv (v := 1) dX6_take_24 ic_1 ?_
    exact Rn.iret (ty := .boolean) dX6_take_25 rfl rfl ⟨rfl, f2.1, Or.inl ⟨hx, rfl, f2.2.1, hr2⟩⟩
  · skip
    refine Rn.aload_n dX6_take_11 rfl ?_
    refine Rn.iconstv (v := 1) dX6_take_12 ic_1 ?_
    refine Rn.callV1 dX6_take_13 vX6_89 (xc2 hX) (by decide) rfl (tX6_fail (M := M) (x := 1) hX) (by decide) ⟨(Nat.le_of_ble_eq_true rfl), (Nat.le_of_ble_eq_true rfl), (Nat.le_of_ble_eq_true rfl)⟩ (fun h => by cases h) (fun v1 ly1 M1 ⟨q1, q2, q3⟩ => ?_)
    rw [q1, q2, q3]
    show Rn G l mX6_take (3, 0, 0, false) 16 [some (.ref 2), some (.int x)] [.int 0] ly (sI M 2 (upd (upd (M.1 2) 0 1) 1 (M.1 3 1))) (fun v ly2 K => ly2 = ly ∧ K.2.2 = M.2.2 ∧ ((kdF f n i = x ∧ v = some (.int 1) ∧ (∀ a, a ≠ 3 → K.1 a = M.1 a) ∧ CRd K f n (nx f n i)) ∨ (¬ kdF f n i = x ∧ v = some (.int 0) ∧ (∀ a, a ≠ 2 → K.1 a = M.1 a) ∧ faC f n K 1 i)))
    exact Rn.iret (ty := .boolean) dX6_take_16 rfl rfl ⟨rfl, rfl, Or.inr ⟨hx, rfl, fun a ha => sI_ne ha, rfl, r7⟩⟩
theorem tkOnce {G : Gx} {l : Launch} {ly : Ly} {M : Mm} {f : Nat → Int32} {n i : Nat} {tb : Nat → Bool} {hc : Bool} {w : Nat} (hr : CRd M f n i) (hw : kdF f n i = nI w ∧ w ≤ 15) (hb : bitT (M.1 2 5) tb) (h6 : M.1 2 6 = (if hc = true then 1 else 0)) (hX : XW ly M.2.2) : Mt G l mX6_takeOnce (3, 0, 0, false) [.ref 2] ly M (fun v ly2 K => ly2 = ly ∧ K.2.2 = M.2.2 ∧ ((tb w = true ∧ v = some (.int 0) ∧ (∀ a, a ≠ 2 → K.1 a = M.1 a) ∧ faC f n K 3 i) ∨ (¬ tb w = true ∧ (w = 0 ∧ hc = true) ∧ v = some (.int 0) ∧ (∀ a, a ≠ 2 → K.1 a = M.1 a) ∧ faC f n K 4 i) ∨ (¬ tb w = true ∧ ¬ (w = 0 ∧ hc = true) ∧ v = some (.int 1) ∧ (∀ a, a ≠ 2 → a ≠ 3 → K.1 a = M.1 a) ∧ bitT (K.1 2 5) (setB tb w true) ∧ K.1 2 6 = M.1 2 6 ∧ (K.1 2 0 = M.1 2 0 ∧ K.1 2 1 = M.1 2 1) ∧ CRd K f n (nx f n i)))) := by
  refine Mt.of (lv := [some (.ref 2), none]) rfl ?_
  have r6 := hr.2.2.1.trans hw.1
  have r7 := hr.2.2.2.1
  refine Rn.iconstv (v := 1) dX6_takeOnce_0 ic_1 ?_
  refine Rn.aload_n dX6_takeOnce_1 rfl ?_
  refine Rn.getR dX6_takeOnce_2 fX6_20 rfl (xc2 hX) (show M.2.2 2 2 = some 3 from (xp2_2 hX)) ?_
  refine Rn.getI dX6_takeOnce_5 fX6_56 rfl (xc3 hX) ?_
  refine Rn.topI (y := nI w) (r6) ?_
  refine Rn.ishl dX6_takeOnce_8 ?_
  refine Rn.istore_n (lv' := [some (.ref 2), some (.int (1 <<< ((nI w) &&& 31)))]) dX6_takeOnce_9 (by decide) rfl ?_
  refine Rn.aload_n dX6_takeOnce_10 rfl ?_
  refine Rn.getI dX6_takeOnce_11 fX6_45 rfl (xc2 hX) ?_
  refine Rn.iload_n dX6_takeOnce_14 rfl ?_
  refine Rn.iand dX6_takeOnce_15 ?_
  refine Rn.if_eq dX6_takeOnce_16 (fun ht => ?_) (fun ht => ?_)
  · skip
    have htb : ¬ tb w = true := by rw [← hb w hw.2]; exact (tst2 _ (by omega)).mp ht
    have go : ¬ (w = 0 ∧ hc = true) → Rn G l mX6_takeOnce (3, 0, 0, false) 48 [some (.ref 2), some (.int (1 <<< ((nI w) &&& 31)))] [] ly M (fun v ly2 K => ly2 = ly ∧ K.2.2 = M.2.2 ∧ ((tb w = true ∧ v = some (.int 0) ∧ (∀ a, a ≠ 2 → K.1 a = M.1 a) ∧ faC f n K 3 i) ∨ (¬ tb w = true ∧ (w = 0 ∧ hc = true) ∧ v = some (.int 0) ∧ (∀ a, a ≠ 2 → K.1 a = M.1 a) ∧ faC f n K 4 i) ∨ (¬ tb w = true ∧ ¬ (w = 0 ∧ hc = true) ∧ v = some (.int 1) ∧ (∀ a, a ≠ 2 → a ≠ 3 → K.1 a = M.1 a) ∧ bitT (K.1 2 5) (setB tb w true) ∧ K.1 2 6 = M.1 2 6 ∧ (K.1 2 0 = M.1 2 0 ∧ K.1 2 1 = M.1 2 1) ∧ CRd K f n (nx f n i)))) := by
      intro hn
      refine Rn.aload_n dX6_takeOnce_48 rfl ?_
      refine Rn.dup dX6_takeOnce_49 rfl ?_
      refine Rn.getI dX6_takeOnce_50 fX6_45 rfl (xc2 hX) ?_
      refine Rn.iload_n dX6_takeOnce_53 rfl ?_
      refine Rn.ior dX6_takeOnce_54 ?_
      refine Rn.putI dX6_takeOnce_55 fX6_45 rfl rfl rfl (xc2 hX) ?_
      refine Rn.aload_n dX6_takeOnce_58 rfl ?_
      refine Rn.getR dX6_takeOnce_59 fX6_20 rfl (xc2 hX) (show M.2.2 2 2 = some 3 from (xp2_2 hX)) ?_
      obtain ⟨N1, e1⟩ : ∃ N9, N9 = sI M 2 (upd (M.1 2) 5 ((M.1 2 5) ||| (1 <<< ((nI w) &&& 31)))) := ⟨_, rfl⟩
      rw [← e1]
      have m2 : ∀ a, a ≠ 2 → N1.1 a = M.1 a := fun a ha => by rw [e1]; exact sI_ne ha
      have m5 : bitT (N1.1 2 5) (setB tb w true) ∧ N1.1 2 6 = M.1 2 6 ∧ (N1.1 2 0 = M.1 2 0 ∧ N1.1 2 1 = M.1 2 1) ∧ N1.2.2 = M.2.2 := by rw [e1]; exact ⟨hb.set hw.2, rfl, ⟨rfl, rfl⟩, rfl⟩
      clear e1
      have hXN1 : XW ly N1.2.2 := by rw [m5.2.2.2]; exact hX
      have hr1 : CRd N1 f n i := hr.of (m2 1 (by decide)) (m2 3 (by decide)) (m2 4 (by decide))
      refine Rn.callV0 dX6_takeOnce_62 vX6_115 (xc3 hXN1) (by decide) rfl (advC (M := N1) hr1 hXN1) (by decide) ⟨(Nat.le_of_ble_eq_true rfl), (Nat.le_of_ble_eq_true rfl), (Nat.le_of_ble_eq_true rfl)⟩ (fun h => by cases h) (fun v1 ly1 N2 ⟨q1, q2, f2, hr2⟩ => ?_)
      rw [q1, q2]
      have hXN2 : XW ly N2.2.2 := by rw [f2.1]; exact hXN1
      refine Rn.iconstv (v := 1) dX6_takeOnce_65 ic_1 ?_
      exact Rn.iret (ty := .boolean) dX6_takeOnce_66 rfl rfl ⟨rfl, f2.1.trans m5.2.2.2, Or.inr (Or.inr ⟨htb, hn, rfl, fun a a1 a2 => (f2.2.1 a a2).trans (m2 a a1), by rw [f2.2.1 2 (by decide)]; exact m5.1, by rw [f2.2.1 2 (by decide)]; exact m5.2.1, by rw [f2.2.1 2 (by decide)]; exact m5.2.2.1, hr2⟩)⟩
    refine Rn.aload_n dX6_takeOnce_25 rfl ?_
    refine Rn.getR dX6_takeOnce_26 fX6_20 rfl (xc2 hX) (show M.2.2 2 2 = some 3 from (xp2_2 hX)) ?_
    refine Rn.getI dX6_takeOnce_29 fX6_56 rfl (xc3 hX) ?_
    refine Rn.topI (y := nI w) (r6) ?_
    refine Rn.if_ne dX6_takeOnce_32 (fun h0 => ?_) (fun h0 => ?_)
    · skip
      exact go (fun g => h0 (by rw [g.1]; rfl))
    · skip
      refine Rn.aload_n dX6_takeOnce_35 rfl ?_
      refine Rn.getI dX6_takeOnce_36 fX6_48 rfl (xc2 hX) ?_
      refine Rn.if_eq dX6_takeOnce_39 (fun h6b => ?_) (fun h6b => ?_)
      · skip
        exact go (fun g => by rw [h6, g.2] at h6b; exact absurd h6b (by decide))
      · skip
        have hh : w = 0 ∧ hc = true := ⟨nI_inj (by omega) (by decide) h0, by revert h6; cases hc with | true => exact fun _ => rfl | false => exact fun h => absurd h h6b⟩
        refine Rn.aload_n dX6_takeOnce_42 rfl ?_
        refine Rn.iconstv (v := 4) dX6_takeOnce_43 ic_4 ?_
        refine Rn.callV1 dX6_takeOnce_44 vX6_89 (xc2 hX) (by decide) rfl (tX6_fail (M := M) (x := 4) hX) (by decide) ⟨(Nat.le_of_ble_eq_true rfl), (Nat.le_of_ble_eq_true rfl), (Nat.le_of_ble_eq_true rfl)⟩ (fun h => by cases h) (fun v1 ly1 M1 ⟨q1, q2, q3⟩ => ?_)
        rw [q1, q2, q3]
        show Rn G l mX6_takeOnce (3, 0, 0, false) 47 [some (.ref 2), some (.int (1 <<< ((nI w) &&& 31)))] [.int 0] ly (sI M 2 (upd (upd (M.1 2) 0 4) 1 (M.1 3 1))) (fun v ly2 K => ly2 = ly ∧ K.2.2 = M.2.2 ∧ ((tb w = true ∧ v = some (.int 0) ∧ (∀ a, a ≠ 2 → K.1 a = M.1 a) ∧ faC f n K 3 i) ∨ (¬ tb w = true ∧ (w = 0 ∧ hc = true) ∧ v = some (.int 0) ∧ (∀ a, a ≠ 2 → K.1 a = M.1 a) ∧ faC f n K 4 i) ∨ (¬ tb w = true ∧ ¬ (w = 0 ∧ hc = true) ∧ v = some (.int 1) ∧ (∀ a, a ≠ 2 → a ≠ 3 → K.1 a = M.1 a) ∧ bitT (K.1 2 5) (setB tb w true) ∧ K.1 2 6 = M.1 2 6 ∧ (K.1 2 0 = M.1 2 0 ∧ K.1 2 1 = M.1 2 1) ∧ CRd K f n (nx f n i))))
        exact Rn.iret (ty := .boolean) dX6_takeOnce_47 rfl rfl ⟨rfl, rfl, Or.inr (Or.inl ⟨htb, hh, rfl, fun a ha => sI_ne ha, rfl, r7⟩)⟩
  · skip
    have htb : tb w = true := by rw [← hb w hw.2]; exact Classical.not_not.mp (fun x => ht ((tst2 _ (by omega)).mpr x))
    refine Rn.aload_n dX6_takeOnce_19 rfl ?_
    refine Rn.iconstv (v := 3) dX6_takeOnce_20 ic_3 ?_
    refine Rn.callV1 dX6_takeOnce_21 vX6_89 (xc2 hX) (by decide) rfl (tX6_fail (M := M) (x := 3) hX) (by decide) ⟨(Nat.le_of_ble_eq_true rfl), (Nat.le_of_ble_eq_true rfl), (Nat.le_of_ble_eq_true rfl)⟩ (fun h => by cases h) (fun v1 ly1 M1 ⟨q1, q2, q3⟩ => ?_)
    rw [q1, q2, q3]
    show Rn G l mX6_takeOnce (3, 0, 0, false) 24 [some (.ref 2), some (.int (1 <<< ((nI w) &&& 31)))] [.int 0] ly (sI M 2 (upd (upd (M.1 2) 0 3) 1 (M.1 3 1))) (fun v ly2 K => ly2 = ly ∧ K.2.2 = M.2.2 ∧ ((tb w = true ∧ v = some (.int 0) ∧ (∀ a, a ≠ 2 → K.1 a = M.1 a) ∧ faC f n K 3 i) ∨ (¬ tb w = true ∧ (w = 0 ∧ hc = true) ∧ v = some (.int 0) ∧ (∀ a, a ≠ 2 → K.1 a = M.1 a) ∧ faC f n K 4 i) ∨ (¬ tb w = true ∧ ¬ (w = 0 ∧ hc = true) ∧ v = some (.int 1) ∧ (∀ a, a ≠ 2 → a ≠ 3 → K.1 a = M.1 a) ∧ bitT (K.1 2 5) (setB tb w true) ∧ K.1 2 6 = M.1 2 6 ∧ (K.1 2 0 = M.1 2 0 ∧ K.1 2 1 = M.1 2 1) ∧ CRd K f n (nx f n i))))
    exact Rn.iret (ty := .boolean) dX6_takeOnce_24 rfl rfl ⟨rfl, rfl, Or.inl ⟨htb, rfl, fun a ha => sI_ne ha, rfl, r7⟩⟩
theorem tX7_find {G : Gx} {l : Launch} {ly : Ly} {M : Mm} {pl k m : Nat} {x : Int32} (hp7 : pl = 7 ∨ pl = 41) (hk : k < 4) (hm : M.1 (pl + 1) k = nI m ∧ m ≤ 6) (hX : XW ly M.2.2) : Mt G l mX7_find (0, 0, 0, false) [.ref pl, .int (nI k), .int x] ly M (Is (some (.int (wdF (fun j => decide (M.1 (pl + 3 + k) j = x)) m 0))) ly M) := by
  refine Mt.is (fun Q hQ => ?_)
  refine Mt.of (lv := [some (.ref pl), some (.int (nI k)), some (.int x), none]) rfl ?_
  refine Rn.iconstv (v := 0) dX7_find_0 ic_0 ?_
  refine Rn.istore_n (lv' := [some (.ref pl), some (.int (nI k)), some (.int x), some (.int 0)]) dX7_find_1 (by decide) rfl ?_
  have loop : ∀ (r j : Nat), j + r = m → wdF (fun j => decide (M.1 (pl + 3 + k) j = x)) m 0 = wdF (fun j => decide (M.1 (pl + 3 + k) j = x)) r j → Rn G l mX7_find (0, 0, 0, false) 2 [some (.ref pl), some (.int (nI k)), some (.int x), some (.int (nI j))] [] ly M Q := by
    intro r
    induction r with
    | zero =>
      intro j hj hw
      refine Rn.iload_n dX7_find_2 rfl ?_
      refine Rn.aload_n dX7_find_3 rfl ?_
      refine Rn.getR dX7_find_4 fX7_9 rfl (pc0 hX hp7) (show M.2.2 pl 9 = some (pl + 1) from (pp0_9 hX hp7)) ?_
      refine Rn.iload_n dX7_find_7 rfl ?_
      refine Rn.ialdN (k0 := k) dX7_find_8 (pc1 hX hp7) (by omega) (by decide) ?_
      refine Rn.topI (y := nI m) (hm.1) ?_
      refine Rn.icmp_ge dX7_find_9 (fun hc => ?_) (fun hc => ?_)
      · skip
        refine Rn.iconstv (v := -1) dX7_find_32 ic_m1 ?_
        exact Rn.iret (ty := .int) dX7_find_33 rfl rfl (by rw [hw] at hQ; exact hQ)
      · skip
        exact absurd (nI_le (a := m) (b := j) (by omega) (by omega)) hc
    | succ r ih =>
      intro j hj hw
      refine Rn.iload_n dX7_find_2 rfl ?_
      refine Rn.aload_n dX7_find_3 rfl ?_
      refine Rn.getR dX7_find_4 fX7_9 rfl (pc0 hX hp7) (show M.2.2 pl 9 = some (pl + 1) from (pp0_9 hX hp7)) ?_
      refine Rn.iload_n dX7_find_7 rfl ?_
      refine Rn.ialdN (k0 := k) dX7_find_8 (pc1 hX hp7) (by omega) (by decide) ?_
      refine Rn.topI (y := nI m) (hm.1) ?_
      refine Rn.icmp_ge dX7_find_9 (fun hc => ?_) (fun hc => ?_)
      · skip
        exact absurd hc (nI_ge (a := j) (b := m) (by omega) (by omega))
      · skip
        refine Rn.aload_n dX7_find_12 rfl ?_
        refine Rn.getR dX7_find_13 fX7_17 rfl (pc0 hX hp7) (show M.2.2 pl 10 = some (pl + 2) from (pp0_10 hX hp7)) ?_
        refine Rn.iload_n dX7_find_16 rfl ?_
        refine Rn.alda (a2 := pl + 3 + k) dX7_find_17 (pc2 hX hp7) (vp_in_nI (n := k) (by omega) (by decide)) (by rw [nI_clamp (by omega)]; exact (cN2 hX hp7 hk).1) ?_
        refine Rn.iload_n dX7_find_18 rfl ?_
        refine Rn.ialdN (k0 := j) dX7_find_19 (cN2 hX hp7 hk).2 (by omega) (by decide) ?_
        refine Rn.iload_n dX7_find_20 rfl ?_
        refine Rn.icmp_ne dX7_find_21 (fun hx => ?_) (fun hx => ?_)
        · skip
          refine Rn.iincN (lv' := [some (.ref pl), some (.int (nI k)), some (.int x), some (.int (nI (j + 1)))]) dX7_find_26 rfl (by decide) rfl ?_
          refine Rn.goto dX7_find_29 ?_
          exact ih (j + 1) (by omega) (hw.trans (if_neg (fun g => hx (of_decide_eq_true g))))
        · skip
          refine Rn.iload_n dX7_find_24 rfl ?_
          exact Rn.iret (ty := .int) dX7_find_25 rfl rfl (by rw [hw.trans (if_pos (decide_eq_true hx))] at hQ; exact hQ)
  exact loop m 0 (by omega) rfl
theorem tX7_addName {G : Gx} {l : Launch} {ly : Ly} {M : Mm} {pl k m : Nat} {x : Int32} (hp7 : pl = 7 ∨ pl = 41) (hk : k < 4) (hm : M.1 (pl + 1) k = nI m ∧ m ≤ 6) (hmt : nI m < toldN k) (hm6 : m < 6) (hX : XW ly M.2.2) : Mt G l mX7_addName (0, 0, 0, false) [.ref pl, .int (nI k), .int x] ly M (Is none ly (sI (sI M (pl + 3 + k) (upd (M.1 (pl + 3 + k)) m x)) (pl + 1) (upd (M.1 (pl + 1)) k (nI (m + 1))))) := by
  refine Mt.is (fun Q hQ => ?_)
  refine Mt.of (lv := [some (.ref pl), some (.int (nI k)), some (.int x)]) rfl ?_
  refine Rn.aload_n dX7_addName_0 rfl ?_
  refine Rn.getR dX7_addName_1 fX7_9 rfl (pc0 hX hp7) (show M.2.2 pl 9 = some (pl + 1) from (pp0_9 hX hp7)) ?_
  refine Rn.iload_n dX7_addName_4 rfl ?_
  refine Rn.ialdN (k0 := k) dX7_addName_5 (pc1 hX hp7) (by omega) (by decide) ?_
  refine Rn.topI (y := nI m) (hm.1) ?_
  refine Rn.getsT dX7_addName_6 gsX7_96 ?_
  refine Rn.iload_n dX7_addName_9 rfl ?_
  refine Rn.ialdT dX7_addName_10 (vp_in_nI (by omega) (by decide)) ?_
  refine Rn.topI (y := toldN k) (by rw [nI_clamp (by omega)]) ?_
  refine Rn.icmp_ge dX7_addName_11 (fun h9 => absurd hmt (Int32.not_lt.mpr h9)) (fun h9 => ?_)
  refine Rn.aload_n dX7_addName_14 rfl ?_
  refine Rn.getR dX7_addName_15 fX7_17 rfl (pc0 hX hp7) (show M.2.2 pl 10 = some (pl + 2) from (pp0_10 hX hp7)) ?_
  refine Rn.iload_n dX7_addName_18 rfl ?_
  refine Rn.alda (a2 := pl + 3 + k) dX7_addName_19 (pc2 hX hp7) (vp_in_nI (n := k) (by omega) (by decide)) (by rw [nI_clamp (by omega)]; exact (cN2 hX hp7 hk).1) ?_
  refine Rn.aload_n dX7_addName_20 rfl ?_
  refine Rn.getR dX7_addName_21 fX7_9 rfl (pc0 hX hp7) (show M.2.2 pl 9 = some (pl + 1) from (pp0_9 hX hp7)) ?_
  refine Rn.iload_n dX7_addName_24 rfl ?_
  refine Rn.ialdN (k0 := k) dX7_addName_25 (pc1 hX hp7) (by omega) (by decide) ?_
  refine Rn.topI (y := nI m) (hm.1) ?_
  refine Rn.iload_n dX7_addName_26 rfl ?_
  refine Rn.iastN (k0 := m) dX7_addName_27 (cN2 hX hp7 hk).2 (by omega) (by decide) ?_
  refine Rn.aload_n dX7_addName_28 rfl ?_
  refine Rn.getR dX7_addName_29 fX7_9 rfl (pc0 hX hp7) (show M.2.2 pl 9 = some (pl + 1) from (pp0_9 hX hp7)) ?_
  refine Rn.iload_n dX7_addName_32 rfl ?_
  refine Rn.dup2 dX7_addName_33 rfl rfl ?_
  refine Rn.ialdN (k0 := k) dX7_addName_34 (pc1 hX hp7) (by omega) (by decide) ?_
  refine Rn.topI (y := M.1 (pl + 1) k) ((congrFun (sI_ne (show pl + 1 ≠ pl + 3 + k by omega)) k)) ?_
  refine Rn.topI (y := nI m) (hm.1) ?_
  refine Rn.iconstv (v := 1) dX7_addName_35 ic_1 ?_
  refine Rn.iadd dX7_addName_36 ?_
  refine Rn.topI (y := nI (m + 1)) (nI_add m 1) ?_
  refine Rn.iastN (k0 := k) dX7_addName_37 (pc1 hX hp7) (by omega) (by decide) ?_
  refine Rn.meq (M2 := sI (sI M (pl + 3 + k) (upd (M.1 (pl + 3 + k)) m x)) (pl + 1) (upd (M.1 (pl + 1)) k (nI (m + 1)))) (congrArg (fun r9 => sI (sI M (pl + 3 + k) (upd (M.1 (pl + 3 + k)) m x)) (pl + 1) (upd r9 k (nI (m + 1)))) (sI_ne (show pl + 1 ≠ pl + 3 + k by omega))) ?_
  exact Rn.vret dX7_addName_38 rfl hQ
theorem setN1 {G : Gx} {l : Launch} {ly : Ly} {M : Mm} {pl : Nat} {x : Int32} (hp7 : pl = 7 ∨ pl = 41) (hX : XW ly M.2.2) : Mt G l mX7_setNumber (0, 0, 0, false) [.ref pl, .int 1, .int x] ly M (Is none ly (sI M pl (upd (M.1 pl) 3 x))) := by
  refine Mt.is (fun Q hQ => ?_)
  refine Mt.of (lv := [some (.ref pl), some (.int 1), some (.int x)]) rfl ?_
  refine Rn.iload_n dX7_setNumber_0 rfl ?_
  refine Rn.tableIn (off := 43) (tgt := 44) dX7_setNumber_1 (by decide) (by decide) (by decide) (by decide) ?_
  refine Rn.aload_n dX7_setNumber_44 rfl ?_
  refine Rn.iload_n dX7_setNumber_45 rfl ?_
  refine Rn.putI dX7_setNumber_46 fX7_67 rfl rfl rfl (pc0 hX hp7) ?_
  refine Rn.goto dX7_setNumber_49 ?_
  exact Rn.vret dX7_setNumber_81 rfl hQ
theorem setN2 {G : Gx} {l : Launch} {ly : Ly} {M : Mm} {pl : Nat} {x : Int32} (hp7 : pl = 7 ∨ pl = 41) (hX : XW ly M.2.2) : Mt G l mX7_setNumber (0, 0, 0, false) [.ref pl, .int 2, .int x] ly M (Is none ly (sI M pl (upd (M.1 pl) 4 x))) := by
  refine Mt.is (fun Q hQ => ?_)
  refine Mt.of (lv := [some (.ref pl), some (.int 2), some (.int x)]) rfl ?_
  refine Rn.iload_n dX7_setNumber_0 rfl ?_
  refine Rn.tableIn (off := 51) (tgt := 52) dX7_setNumber_1 (by decide) (by decide) (by decide) (by decide) ?_
  refine Rn.aload_n dX7_setNumber_52 rfl ?_
  refine Rn.iload_n dX7_setNumber_53 rfl ?_
  refine Rn.putI dX7_setNumber_54 fX7_70 rfl rfl rfl (pc0 hX hp7) ?_
  refine Rn.goto dX7_setNumber_57 ?_
  exact Rn.vret dX7_setNumber_81 rfl hQ
theorem setN3 {G : Gx} {l : Launch} {ly : Ly} {M : Mm} {pl : Nat} {x : Int32} (hp7 : pl = 7 ∨ pl = 41) (hX : XW ly M.2.2) : Mt G l mX7_setNumber (0, 0, 0, false) [.ref pl, .int 3, .int x] ly M (Is none ly (sI M pl (upd (M.1 pl) 5 x))) := by
  refine Mt.is (fun Q hQ => ?_)
  refine Mt.of (lv := [some (.ref pl), some (.int 3), some (.int x)]) rfl ?_
  refine Rn.iload_n dX7_setNumber_0 rfl ?_
  refine Rn.tableIn (off := 59) (tgt := 60) dX7_setNumber_1 (by decide) (by decide) (by decide) (by decide) ?_
  refine Rn.aload_n dX7_setNumber_60 rfl ?_
  refine Rn.iload_n dX7_setNumber_61 rfl ?_
  refine Rn.putI dX7_setNumber_62 fX7_73 rfl rfl rfl (pc0 hX hp7) ?_
  refine Rn.goto dX7_setNumber_65 ?_
  exact Rn.vret dX7_setNumber_81 rfl hQ
theorem setN7 {G : Gx} {l : Launch} {ly : Ly} {M : Mm} {pl : Nat} {x : Int32} (hp7 : pl = 7 ∨ pl = 41) (hX : XW ly M.2.2) : Mt G l mX7_setNumber (0, 0, 0, false) [.ref pl, .int 7, .int x] ly M (Is none ly (sI M pl (upd (M.1 pl) 6 x))) := by
  refine Mt.is (fun Q hQ => ?_)
  refine Mt.of (lv := [some (.ref pl), some (.int 7), some (.int x)]) rfl ?_
  refine Rn.iload_n dX7_setNumber_0 rfl ?_
  refine Rn.tableIn (off := 67) (tgt := 68) dX7_setNumber_1 (by decide) (by decide) (by decide) (by decide) ?_
  refine Rn.aload_n dX7_setNumber_68 rfl ?_
  refine Rn.iload_n dX7_setNumber_69 rfl ?_
  refine Rn.putI dX7_setNumber_70 fX7_76 rfl rfl rfl (pc0 hX hp7) ?_
  refine Rn.goto dX7_setNumber_73 ?_
  exact Rn.vret dX7_setNumber_81 rfl hQ
theorem setN8 {G : Gx} {l : Launch} {ly : Ly} {M : Mm} {pl : Nat} {x : Int32} (hp7 : pl = 7 ∨ pl = 41) (hX : XW ly M.2.2) : Mt G l mX7_setNumber (0, 0, 0, false) [.ref pl, .int 8, .int x] ly M (Is none ly (sI M pl (upd (M.1 pl) 7 x))) := by
  refine Mt.is (fun Q hQ => ?_)
  refine Mt.of (lv := [some (.ref pl), some (.int 8), some (.int x)]) rfl ?_
  refine Rn.iload_n dX7_setNumber_0 rfl ?_
  refine Rn.tableOut (tgt := 76) dX7_setNumber_1 (by decide) (by decide) ?_
  refine Rn.aload_n dX7_setNumber_76 rfl ?_
  refine Rn.iload_n dX7_setNumber_77 rfl ?_
  refine Rn.putI dX7_setNumber_78 fX7_79 rfl rfl rfl (pc0 hX hp7) ?_
  exact Rn.vret dX7_setNumber_81 rfl hQ
