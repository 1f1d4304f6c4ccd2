def allB (f : Nat → Bool) : Nat → Bool
  | 0 => true
  | n + 1 => allB f n && f n
theorem allB_t {f : Nat → Bool} : ∀ n : Nat, (∀ i, i < n → f i = true) → allB f n = true
  | 0, _ => rfl
  | n + 1, h => by
    unfold allB
    rw [allB_t n (fun i hi => h i (by omega)), h n (by omega)]; rfl
theorem allB_f {f : Nat → Bool} : ∀ n : Nat, (∃ i, i < n ∧ f i = false) → allB f n = false
  | 0, ⟨i, hi, _⟩ => absurd hi (by omega)
  | n + 1, ⟨i, hi, h⟩ => by
    unfold allB
    by_cases e : i = n
    · subst e; rw [h]; exact Bool.and_false _
    · rw [allB_f n ⟨i, by omega, h⟩]; rfl
/-- is the i-th groan so? -/
def okB (b t : Int32) (tm ce mu al up : Nat → Int32) (i : Nat) : Bool := decide ((b >>> (nI i &&& 31)) &&& 1 = 1 → tm i = t → (if ab (up (ce i).toNatClampNeg) < mu i then (0 : Int32) else 1) = al i)
theorem okB_G {b t : Int32} {tm ce mu al up up' : Nat → Int32} {i : Nat} (he : eqN 12 up up') (hce : (b >>> (nI i &&& 31)) &&& 1 = 1 → vp_in (ce i) 12) : okB b t tm ce mu al up' i = true ↔ okG b t tm ce mu al up i := by
  unfold okB okG
  rw [decide_eq_true_iff]
  constructor
  · intro h h1 h2
    rw [he _ (vp_in_lt (hce h1))]; exact h h1 h2
  · intro h h1 h2
    rw [← he _ (vp_in_lt (hce h1))]; exact h h1 h2
/-- are all groans so, L times on? -/
def soB (T : Sc → Sc) (s : Sc) (b : Int32) (tm ce mu al : Nat → Int32) (ng L : Nat) : Bool := allB (fun t => allB (okB b (nI t) tm ce mu al (itF (fun _ => T) (t + 1) s).1) ng) L
def b01 (b : Bool) : Int32 := if b = true then 1 else 0
theorem lst_lt {x : Int32} {L i : Nat} (h : x + 1 = nI L) (hL : L ≤ 64) (hi : i ≤ 64) : x < nI i ↔ L ≤ i := by
  have hx : x = nI L - 1 := by rw [← h]; exact (Int32.add_sub_cancel x 1).symm
  rw [hx]
  cases L with
  | zero =>
    refine ⟨fun _ => by omega, fun _ => ?_⟩
    rw [Int32.lt_iff_toInt_lt, nI_toInt (by omega), show (nI 0 - 1).toInt = -1 by decide]; omega
  | succ j => rw [nI_pred, nI_ltI (by omega) (by omega)]; omega
theorem tX11_groansAreSo {G : Gx} {l : Launch} {ly : Ly} {M : Mm} {pl n nw nu nv ng L : Nat} {b : Int32} {N0 : Mm} {c w2 : Nat} {J : Nat → Nat → Int32} {u u2 v v2 : Nat} {het bl upo : Int32} {ca : Nat → Int32} {f2 : Nat} {fc fk : Nat → Int32} {s : Sc} (hXS : XS ly M pl n nw nu nv) (hG : M.1 128 0 = nI ng ∧ ng ≤ 24) (hce : ∀ i, i < ng → (b >>> (nI i &&& 31)) &&& 1 = 1 → vp_in (M.1 130 i) 12) (hL : lsT b (M.1 129) ng + 1 = nI L ∧ L ≤ 64) (hok : okT ly M pl n c w2 u u2 v v2) (hT0 : Tr ly M N0 pl n c w2 J u u2 v v2 het bl upo ca f2 fc fk s) {Q : Qt} (hQ : ∀ K : Mm, quX M K → Q (some (.int (b01 (soB (TG M.1 pl n w2 J u u2 v v2 het bl upo ca) s b (M.1 129) (M.1 130) (M.1 131) (M.1 132) ng L)))) ly K) : Mt G l mX11_groansAreSo (6, 0, 0, false) [.ref 0, .int b] ly N0 Q := by
  have hXS0 := hXS
  obtain ⟨hX, hpl, hp7, ⟨n0, n1, n2, n3⟩, ⟨hn, hn2, hn12⟩, ⟨hw1, hw2, hw6⟩, ⟨hu1, hu2, hv1, hv2⟩, hgl, hbb⟩ := hXS
  refine Mt.of (lv := [some (.ref 0), some (.int b), none, none]) rfl ?_
  have hXN0 := (hT0.1).xw hX
  have hplN0 : N0.2.2 0 3 = some pl := ((hT0.1).2.2 0 3 (by decide)).trans hpl
  have hnN0 : N0.1 pl 0 = nI n := (congrFun ((hT0.1).p0 hp7) 0).trans hn
  have hw1N0 : N0.1 (pl + 1) 0 = nI nw := (congrFun ((hT0.1).pk hp7 (k := 1) (by decide)) 0).trans hw1
  have hgrN0 : ∀ k, k ≤ 5 → N0.1 (128 + k) = M.1 (128 + k) := fun k hk => (hT0.1).at (by omega)
  refine Rn.aload_n dX11_groansAreSo_0 rfl ?_
  refine Rn.getR dX11_groansAreSo_1 fX11_59 rfl (xc0 hXN0) (show N0.2.2 0 11 = some 128 from (xp0_11 hXN0)) ?_
  refine Rn.iload_n dX11_groansAreSo_4 rfl ?_
  refine Rn.callV1 dX11_groansAreSo_5 vX11_383 (xc128 hXN0) (by decide) rfl (tX4_lastTime (a := 128) (xGroans hXN0) ((congrFun (hgrN0 0 (by omega)) 0).trans hG.1) hG.2) (by decide) ⟨(Nat.le_of_ble_eq_true rfl), (Nat.le_of_ble_eq_true rfl), (Nat.le_of_ble_eq_true rfl)⟩ (fun h => by cases h) (fun v1 ly1 M1 ⟨q1, q2, q3⟩ => ?_)
  rw [q1, q2, q3]
  refine Rn.topI (y := lsT b (M.1 129) ng) (by rw [show N0.1 129 = M.1 129 from hgrN0 1 (by omega)]) ?_
  generalize lsT b (M.1 129) ng = x at hL
  refine Rn.istore_n (lv' := [some (.ref 0), some (.int b), some (.int x), none]) dX11_groansAreSo_8 (by decide) rfl ?_
  refine Rn.iconstv (v := 0) dX11_groansAreSo_9 ic_0 ?_
  refine Rn.istore_n (lv' := [some (.ref 0), some (.int b), some (.int x), some (.int 0)]) dX11_groansAreSo_10 (by decide) rfl ?_
  have loop : ∀ (k i : Nat) (N1 : Mm), i + k = L → Tr ly M N1 pl n c w2 J u u2 v v2 het bl upo ca f2 fc fk (itF (fun _ => TG M.1 pl n w2 J u u2 v v2 het bl upo ca) i s) → (∀ j, j < i → (fun t => allB (okB b (nI t) (M.1 129) (M.1 130) (M.1 131) (M.1 132) (itF (fun _ => TG M.1 pl n w2 J u u2 v v2 het bl upo ca) (t + 1) s).1) ng) j = true) → Rn G l mX11_groansAreSo (6, 0, 0, false) 11 [some (.ref 0), some (.int b), some (.int x), some (.int (nI i))] [] ly N1 Q := by
    intro k
    induction k with
    | zero =>
      intro i N1 hi hT1 hal
      have hXN1 := (hT1.1).xw hX
      have hplN1 : N1.2.2 0 3 = some pl := ((hT1.1).2.2 0 3 (by decide)).trans hpl
      have hnN1 : N1.1 pl 0 = nI n := (congrFun ((hT1.1).p0 hp7) 0).trans hn
      have hw1N1 : N1.1 (pl + 1) 0 = nI nw := (congrFun ((hT1.1).pk hp7 (k := 1) (by decide)) 0).trans hw1
      refine Rn.iload_n dX11_groansAreSo_11 rfl ?_
      refine Rn.iload_n dX11_groansAreSo_12 rfl ?_
      refine Rn.icmp_gt dX11_groansAreSo_13 (fun hc => ?_) (fun hc => ?_)
      · skip
        refine Rn.iconstv (v := 1) dX11_groansAreSo_53 ic_1 ?_
        have e : i = L := by omega
        rw [e] at hal
        exact Rn.iret (ty := .boolean) dX11_groansAreSo_54 rfl rfl (by have h := hQ N1 hT1.1; unfold soB at h; rw [allB_t L hal] at h; exact h)
      · skip
        exact absurd ((lst_lt hL.1 hL.2 (by omega)).mpr (by omega)) hc
    | succ k ih =>
      intro i N1 hi hT1 hal
      have hXN1 := (hT1.1).xw hX
      have hplN1 : N1.2.2 0 3 = some pl := ((hT1.1).2.2 0 3 (by decide)).trans hpl
      have hnN1 : N1.1 pl 0 = nI n := (congrFun ((hT1.1).p0 hp7) 0).trans hn
      have hw1N1 : N1.1 (pl + 1) 0 = nI nw := (congrFun ((hT1.1).pk hp7 (k := 1) (by decide)) 0).trans hw1
      refine Rn.iload_n dX11_groansAreSo_11 rfl ?_
      refine Rn.iload_n dX11_groansAreSo_12 rfl ?_
      refine Rn.icmp_gt dX11_groansAreSo_13 (fun hc => ?_) (fun hc => ?_)
      · skip
        exact absurd ((lst_lt hL.1 hL.2 (by omega)).mp hc) (by omega)
      · skip
        refine Rn.aload_n dX11_groansAreSo_16 rfl ?_
        refine Rn.getR dX11_groansAreSo_17 fX11_43 rfl (xc0 hXN1) (show N1.2.2 0 6 = some 92 from (xp0_6 hXN1)) ?_
        refine Rn.callV0 dX11_groansAreSo_20 vX11_251 (xc92 hXN1) (by decide) rfl (trPass (Q := fun v0 ly0 M0 => v0 = none ∧ ly0 = ly ∧ Tr ly M M0 pl n c w2 J u u2 v v2 het bl upo ca f2 fc fk (itF (fun _ => TG M.1 pl n w2 J u u2 v v2 het bl upo ca) (i + 1) s) ∧ quT N1 M0) hok hT1 (fun K h u => ⟨rfl, rfl, h, u⟩)) (by decide) ⟨(Nat.le_of_ble_eq_true rfl), (Nat.le_of_ble_eq_true rfl), (Nat.le_of_ble_eq_true rfl)⟩ (fun h => by cases h) (fun v1 ly1 N2 ⟨q1, q2, hT2, hU2⟩ => ?_)
        rw [q1, q2]
        have hXN2 := (hT2.1).xw hX
        have hplN2 : N2.2.2 0 3 = some pl := ((hT2.1).2.2 0 3 (by decide)).trans hpl
        have hnN2 : N2.1 pl 0 = nI n := (congrFun ((hT2.1).p0 hp7) 0).trans hn
        have hw1N2 : N2.1 (pl + 1) 0 = nI nw := (congrFun ((hT2.1).pk hp7 (k := 1) (by decide)) 0).trans hw1
        refine Rn.aload_n dX11_groansAreSo_23 rfl ?_
        refine Rn.getR dX11_groansAreSo_24 fX11_59 rfl (xc0 hXN2) (show N2.2.2 0 11 = some 128 from (xp0_11 hXN2)) ?_
        refine Rn.iload_n dX11_groansAreSo_27 rfl ?_
        refine Rn.iload_n dX11_groansAreSo_28 rfl ?_
        refine Rn.aload_n dX11_groansAreSo_29 rfl ?_
        refine Rn.getR dX11_groansAreSo_30 fX11_43 rfl (xc0 hXN2) (show N2.2.2 0 6 = some 92 from (xp0_6 hXN2)) ?_
        refine Rn.getR dX11_groansAreSo_33 fX11_165 rfl (xc92 hXN2) (show N2.2.2 92 5 = some 93 from (xp92_5 hXN2)) ?_
        refine Rn.getR dX11_groansAreSo_36 fX11_169 rfl (xc93 hXN2) (show N2.2.2 93 0 = some 94 from (xp93_0 hXN2)) ?_
        have hgrN2 : ∀ k, k ≤ 5 → N2.1 (128 + k) = M.1 (128 + k) := fun k hk => (hT2.1).at (by omega)
        have hgs : ∀ j, j < ng → (okB b (nI i) (M.1 129) (M.1 130) (M.1 131) (M.1 132) (itF (fun _ => TG M.1 pl n w2 J u u2 v v2 het bl upo ca) (i + 1) s).1 j = true ↔ okG b (nI i) (N2.1 129) (N2.1 130) (N2.1 131) (N2.1 132) (N2.1 94) j) := by
          intro j hj
          rw [show N2.1 129 = M.1 129 from hgrN2 1 (by omega), show N2.1 130 = M.1 130 from hgrN2 2 (by omega), show N2.1 131 = M.1 131 from hgrN2 3 (by omega), show N2.1 132 = M.1 132 from hgrN2 4 (by omega)]
          exact okB_G hT2.2.2.2.2.2.2.1 (hce j hj)
        refine Rn.callV3 dX11_groansAreSo_39 vX11_386 (xc128 hXN2) (by decide) rfl (tX4_areSo (Q := fun v0 ly0 M0 => ly0 = ly ∧ M0 = N2 ∧ ((v0 = some (.int 1) ∧ (fun t => allB (okB b (nI t) (M.1 129) (M.1 130) (M.1 131) (M.1 132) (itF (fun _ => TG M.1 pl n w2 J u u2 v v2 het bl upo ca) (t + 1) s).1) ng) i = true) ∨ (v0 = some (.int 0) ∧ (fun t => allB (okB b (nI t) (M.1 129) (M.1 130) (M.1 131) (M.1 132) (itF (fun _ => TG M.1 pl n w2 J u u2 v v2 het bl upo ca) (t + 1) s).1) ng) i = false))) (a := 128) (n := ng) (q := 94) (xGroans hXN2) ((congrFun (hgrN2 0 (by omega)) 0).trans hG.1) hG.2 (xc94 hXN2) (fun j hj hb => by rw [show N2.1 (128 + 2) = M.1 130 from hgrN2 2 (by omega)]; exact hce j hj hb) ⟨fun h => ⟨rfl, rfl, Or.inl ⟨rfl, allB_t ng (fun j hj => (hgs j hj).mpr (h j hj))⟩⟩, fun ⟨j, hj, h⟩ => ⟨rfl, rfl, Or.inr ⟨rfl, allB_f ng ⟨j, hj, Bool.eq_false_iff.mpr (fun e => h ((hgs j hj).mp e))⟩⟩⟩⟩) (by decide) ⟨(Nat.le_of_ble_eq_true rfl), (Nat.le_of_ble_eq_true rfl), (Nat.le_of_ble_eq_true rfl)⟩ (fun h => by cases h) (fun v1 ly1 M1 ⟨q2, q3, hor⟩ => ?_)
        rw [q2, q3]
        rcases hor with ⟨q1, hF⟩ | ⟨q1, hF⟩
        · skip
          rw [q1]
          refine Rn.if_ne dX11_groansAreSo_42 (fun hd => ?_) (fun hd => ?_)
          · skip
            refine Rn.iincN (lv' := [some (.ref 0), some (.int b), some (.int x), some (.int (nI (i + 1)))]) dX11_groansAreSo_47 rfl (by decide) rfl ?_
            refine Rn.goto dX11_groansAreSo_50 ?_
            exact ih (i + 1) N2 (by omega) hT2 (fun j hj => (Nat.lt_succ_iff_lt_or_eq.mp hj).elim (hal j) (fun e => e ▸ hF))
          · skip
            exact absurd hd (by decide)
        · skip
          rw [q1]
          refine Rn.if_ne dX11_groansAreSo_42 (fun hd => ?_) (fun hd => ?_)
          · skip
            exact absurd rfl hd
          · skip
            refine Rn.iconstv (v := 0) dX11_groansAreSo_45 ic_0 ?_
            exact Rn.iret (ty := .boolean) dX11_groansAreSo_46 rfl rfl (by have h := hQ N2 hT2.1; unfold soB at h; rw [allB_f L ⟨i, by omega, hF⟩] at h; exact h)
  exact loop L 0 N0 (by omega) hT0 (fun j hj => absurd hj (by omega))
