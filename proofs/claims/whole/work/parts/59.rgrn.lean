theorem smd : ∀ j, j < 32 → ((nI j &&& 31).toBitVec.smod 32#32).toNat = j := by decide +kernel
/-- the bit j -/
theorem bit_iff {x : Int32} {j : Nat} (hj : j < 32) : ((x >>> (nI j &&& 31)) &&& 1 = 1) ↔ x.toBitVec.getLsbD j = true := by
  have e : ((x >>> (nI j &&& 31)) &&& 1).toBitVec.getLsbD 0 = x.toBitVec.getLsbD j := by
    rw [Int32.toBitVec_and, BitVec.getLsbD_and, Int32.toBitVec_shiftRight]
    show ((x.toBitVec.sshiftRight' ((nI j &&& 31).toBitVec.smod 32#32)).getLsbD 0 && _) = _
    rw [BitVec.getLsbD_sshiftRight', smd j hj]
    simp [hj]
  constructor
  · intro h
    rw [← e, h]; decide
  · intro h
    rcases and1i (x >>> (nI j &&& 31)) with h0 | h1
    · rw [h, h0] at e; exact absurd e (by decide)
    · exact h1
theorem shl_bit : ∀ k, k < 31 → ((1 : Int32) <<< (nI k &&& 31)).toBitVec = BitVec.twoPow 32 k := by decide +kernel
theorem bit_or {x : Int32} {j k : Nat} (hj : j < 32) (hk : k < 31) : (((x ||| ((1 : Int32) <<< (nI k &&& 31))) >>> (nI j &&& 31)) &&& 1 = 1) ↔ (j = k ∨ (x >>> (nI j &&& 31)) &&& 1 = 1) := by
  rw [bit_iff hj, bit_iff hj, Int32.toBitVec_or, BitVec.getLsbD_or, shl_bit k hk, BitVec.getLsbD_twoPow, Bool.or_eq_true]
  constructor
  · rintro (h | h)
    · exact Or.inr h
    · simp at h; exact Or.inl h.2.symm
  · rintro (rfl | h)
    · exact Or.inr (by simp [hj])
    · exact Or.inl h
theorem bit_0 {j : Nat} (hj : j < 32) : ¬ ((0 : Int32) >>> (nI j &&& 31)) &&& 1 = 1 := by rw [bit_iff hj]; simp
/-- what strikes what: a strike's target is ahead of it -/
def stOk (st : Nat → Int32) (m : Nat) : Prop := ∀ i, i < m → st i = -1 ∨ ∃ t : Nat, t < i ∧ st i = nI t
/-- who is known, by the rows -/
theorem knB_bits {st : Nat → Int32} {j : Nat} (hj : j < 32) : ∀ (m : Nat) (b s : Int32), m ≤ 24 → m ≤ j → (((knB st m b s) >>> (nI j &&& 31)) &&& 1 = 1 ↔ (b >>> (nI j &&& 31)) &&& 1 = 1)
  | 0, b, s, _, _ => Iff.rfl
  | m + 1, b, s, h1, h2 => by
    unfold knB
    split
    · exact knB_bits hj m b s (by omega) (by omega)
    · split
      · rw [knB_bits hj m _ s (by omega) (by omega), bit_or hj (by omega)]
        exact ⟨fun h => h.resolve_left (by omega), Or.inr⟩
      · exact knB_bits hj m b _ (by omega) (by omega)
/-- none is known from m on -/
theorem knB_hi {st : Nat → Int32} {m j : Nat} (hj : j < 32) (hm : m ≤ 24) (h : m ≤ j) : ¬ ((knB st m 0 0) >>> (nI j &&& 31)) &&& 1 = 1 := fun e => bit_0 hj ((knB_bits hj m 0 0 hm h).mp e)
theorem tX12_knownMany {G : Gx} {l : Launch} {ly : Ly} {M : Mm}  (hR : RW ly M.2.2) : Mt G l mX12_knownMany (1, 0, 0, false) [.ref 149] ly M (Is (some (.int (knN (M.1 149 71) (M.1 149 70)))) ly M) := by
  refine Mt.is (fun Q hQ => ?_)
  refine Mt.of (lv := [some (.ref 149)]) rfl ?_
  refine Rn.aload_n dX12_knownMany_0 rfl ?_
  refine Rn.getI dX12_knownMany_1 fX12_144 rfl (rc149 hR) ?_
  refine Rn.iconstv (v := -1) dX12_knownMany_4 ic_m1 ?_
  refine Rn.icmp_ne dX12_knownMany_5 (fun h5 => ?_) (fun h5 => ?_)
  · skip
    refine Rn.aload_n dX12_knownMany_15 rfl ?_
    refine Rn.getI dX12_knownMany_16 fX12_144 rfl (rc149 hR) ?_
    have hv : knN (M.1 149 71) (M.1 149 70) = M.1 149 71 := by simp only [knN, h5, ↓reduceIte]
    rw [hv] at hQ
    exact Rn.iret (ty := .int) dX12_knownMany_19 rfl rfl hQ
  · skip
    refine Rn.aload_n dX12_knownMany_8 rfl ?_
    refine Rn.getI dX12_knownMany_9 fX12_334 rfl (rc149 hR) ?_
    refine Rn.goto dX12_knownMany_12 ?_
    have hv : knN (M.1 149 71) (M.1 149 70) = M.1 149 70 := by simp only [knN, h5, ↓reduceIte]
    rw [hv] at hQ
    exact Rn.iret (ty := .int) dX12_knownMany_19 rfl rfl hQ
def gnR (x y : Int32) : Int32 := if x = 0 then (if y = -1 then 1 else 0) else 0
theorem tX12_isGroan {G : Gx} {l : Launch} {ly : Ly} {M : Mm} {k : Nat} (hk : k < 24) (hR : RW ly M.2.2) : Mt G l mX12_isGroan (1, 0, 0, false) [.ref 149, .int (nI k)] ly M (Is (some (.int (gnR (M.1 195 k) (M.1 194 k)))) ly M) := by
  refine Mt.is (fun Q hQ => ?_)
  refine Mt.of (lv := [some (.ref 149), some (.int (nI k))]) rfl ?_
  refine Rn.aload_n dX12_isGroan_0 rfl ?_
  refine Rn.getR dX12_isGroan_1 fX12_162 rfl (rc149 hR) (show M.2.2 149 77 = some 195 from (rpt77 hR)) ?_
  refine Rn.iload_n dX12_isGroan_4 rfl ?_
  refine Rn.zaldN (k0 := k) dX12_isGroan_5 (rc195 hR) (by omega) (by decide) ?_
  refine Rn.if_ne dX12_isGroan_6 (fun h6 => ?_) (fun h6 => ?_)
  · skip
    refine Rn.iconstv (v := 0) dX12_isGroan_23 ic_0 ?_
    have hv : gnR (M.1 195 k) (M.1 194 k) = 0 := by simp only [gnR, h6, ↓reduceIte]
    rw [hv] at hQ
    exact Rn.iret (ty := .boolean) dX12_isGroan_24 rfl rfl hQ
  · skip
    refine Rn.aload_n dX12_isGroan_9 rfl ?_
    refine Rn.getR dX12_isGroan_10 fX12_159 rfl (rc149 hR) (show M.2.2 149 76 = some 194 from (rpt76 hR)) ?_
    refine Rn.iload_n dX12_isGroan_13 rfl ?_
    refine Rn.ialdN (k0 := k) dX12_isGroan_14 (rc194 hR) (by omega) (by decide) ?_
    refine Rn.iconstv (v := -1) dX12_isGroan_15 ic_m1 ?_
    refine Rn.icmp_ne dX12_isGroan_16 (fun h16 => ?_) (fun h16 => ?_)
    · skip
      refine Rn.iconstv (v := 0) dX12_isGroan_23 ic_0 ?_
      have hv : gnR (M.1 195 k) (M.1 194 k) = 0 := by simp only [gnR, h6, h16, ↓reduceIte]
      rw [hv] at hQ
      exact Rn.iret (ty := .boolean) dX12_isGroan_24 rfl rfl hQ
    · skip
      refine Rn.iconstv (v := 1) dX12_isGroan_19 ic_1 ?_
      refine Rn.goto dX12_isGroan_20 ?_
      have hv : gnR (M.1 195 k) (M.1 194 k) = 1 := by simp only [gnR, h6, h16, ↓reduceIte]
      rw [hv] at hQ
      exact Rn.iret (ty := .boolean) dX12_isGroan_24 rfl rfl hQ
/-- the struck row z is what who is known wants -/
def skR (z st : Nat → Int32) (m : Nat) : Prop := ∀ i, i < m → ((gnR (z i) (st i) = 1 ↔ ((knB st m 0 0) >>> (nI i &&& 31)) &&& 1 = 1) ∧ (gnR (z i) (st i) = 0 ∨ gnR (z i) (st i) = 1))
theorem gn01 (x y : Int32) : gnR x y = 0 ∨ gnR x y = 1 := by unfold gnR; split; split; exact Or.inr rfl; exact Or.inl rfl; exact Or.inl rfl
theorem gn1 {x y : Int32} : gnR x y = 1 ↔ (x = 0 ∧ y = -1) := by
  unfold gnR
  by_cases h : x = 0
  · rw [if_pos h]
    by_cases h2 : y = -1
    · rw [if_pos h2]; exact ⟨fun _ => ⟨h, h2⟩, fun _ => rfl⟩
    · rw [if_neg h2]; exact ⟨fun e => absurd e (by decide), fun e => absurd e.2 h2⟩
  · rw [if_neg h]; exact ⟨fun e => absurd e (by decide), fun e => absurd e.1 h⟩
theorem tX12_layStruck {G : Gx} {l : Launch} {ly : Ly} {M : Mm} {m : Nat} (hm : knN (M.1 149 71) (M.1 149 70) = nI m) (hm24 : m ≤ 24) (hst : stOk (M.1 194) m) (hR : RW ly M.2.2) {Q : Qt} (hQ : ∀ z, skR z (M.1 194) m → Q none ly (sI M 195 z)) : Mt G l mX12_layStruck (2, 0, 0, false) [.ref 149] ly M Q := by
  refine Mt.of (lv := [some (.ref 149), none]) rfl ?_
  refine Rn.iconstv (v := 0) dX12_layStruck_0 ic_0 ?_
  refine Rn.istore_n (lv' := [some (.ref 149), some (.int 0)]) dX12_layStruck_1 (by decide) rfl ?_
  refine Rn.meq (M2 := sI M 195 (pre 0 (fun _ => 0) (M.1 195))) (by rw [pre_0, sI_self]) ?_
  have loop : ∀ (k i : Nat), i + k = m → Rn G l mX12_layStruck (2, 0, 0, false) 2 [some (.ref 149), some (.int (nI i))] [] ly (sI M 195 (pre i (fun _ => 0) (M.1 195))) Q := by
    intro k
    induction k with
    | zero =>
      intro i hi
      refine Rn.iload_n dX12_layStruck_2 rfl ?_
      refine Rn.aload_n dX12_layStruck_3 rfl ?_
      refine Rn.callV0 dX12_layStruck_4 vX12_514 (rc149 hR) (by decide) rfl (tX12_knownMany (M := sI M 195 (pre i (fun _ => 0) (M.1 195))) hR) (by decide) ⟨(Nat.le_of_ble_eq_true rfl), (Nat.le_of_ble_eq_true rfl), (Nat.le_of_ble_eq_true rfl)⟩ (fun h => by cases h) (fun v1 ly1 M1 ⟨q1, q2, q3⟩ => ?_)
      rw [q1, q2, q3]
      refine Rn.topI (y := nI m) (hm) ?_
      refine Rn.icmp_ge dX12_layStruck_7 (fun hc => ?_) (fun hc => ?_)
      · skip
        have ei : m = i := by omega
        subst ei
        refine Rn.aload_n dX12_layStruck_23 rfl ?_
        refine Rn.callV0 dX12_layStruck_24 vX12_514 (rc149 hR) (by decide) rfl (tX12_knownMany (M := sI M 195 (pre m (fun _ => 0) (M.1 195))) hR) (by decide) ⟨(Nat.le_of_ble_eq_true rfl), (Nat.le_of_ble_eq_true rfl), (Nat.le_of_ble_eq_true rfl)⟩ (fun h => by cases h) (fun v1 ly1 M1 ⟨q1, q2, q3⟩ => ?_)
        rw [q1, q2, q3]
        refine Rn.topI (y := nI m) (hm) ?_
        refine Rn.iconstv (v := 1) dX12_layStruck_27 ic_1 ?_
        refine Rn.isub dX12_layStruck_28 ?_
        obtain ⟨q, hq⟩ : ∃ q : Int32, q = nI m - 1 := ⟨_, rfl⟩
        rw [← hq]
        refine Rn.istore_n (lv' := [some (.ref 149), some (.int q)]) dX12_layStruck_29 (by decide) rfl ?_
        have loop2 : ∀ (i : Nat) (q b s : Int32) (z : Nat → Int32), i ≤ m → q + 1 = nI i → (∀ j, j < m → ((s >>> (nI j &&& 31)) &&& 1 = 1 ↔ ¬ z j = 0)) → (∀ j, i ≤ j → j < m → (gnR (z j) (M.1 194 j) = 1 ↔ (b >>> (nI j &&& 31)) &&& 1 = 1)) → (∀ j, j < i → ¬ (b >>> (nI j &&& 31)) &&& 1 = 1) → knB (M.1 194) m 0 0 = knB (M.1 194) i b s → Rn G l mX12_layStruck (2, 0, 0, false) 30 [some (.ref 149), some (.int q)] [] ly (sI M 195 z) Q := by
          intro i
          induction i with
          | zero =>
            intro q b s z hi hq hs hb hbl hk
            have eq1 : q = -1 := by rw [← Int32.add_sub_cancel q 1, hq]; rfl
            subst eq1
            refine Rn.iload_n dX12_layStruck_30 rfl ?_
            refine Rn.if_lt dX12_layStruck_31 (fun h1 => ?_) (fun h1 => ?_)
            · skip
              refine Rn.vret dX12_layStruck_71 rfl (hQ z (fun i hi => ⟨?_, gn01 _ _⟩))
              rw [hk]; exact hb i (by omega) hi
            · skip
              exact absurd (by decide) h1
          | succ i ih2 =>
            intro q b s z hi hq hs hb hbl hk
            have eq1 : q = nI i := by rw [← Int32.add_sub_cancel q 1, hq]; exact nI_subk i 1
            subst eq1
            have hi24 : i < 24 := by omega
            refine Rn.iload_n dX12_layStruck_30 rfl ?_
            refine Rn.if_lt dX12_layStruck_31 (fun h1 => ?_) (fun h1 => ?_)
            · skip
              exact absurd h1 (nI_pos (by omega))
            · skip
              refine Rn.aload_n dX12_layStruck_34 rfl ?_
              refine Rn.getR dX12_layStruck_35 fX12_162 rfl (rc149 hR) (show M.2.2 149 77 = some 195 from (rpt77 hR)) ?_
              refine Rn.iload_n dX12_layStruck_38 rfl ?_
              refine Rn.zaldN (k0 := i) dX12_layStruck_39 (rc195 hR) (by omega) (by decide) ?_
              refine Rn.if_ne dX12_layStruck_40 (fun h2 => ?_) (fun h2 => ?_)
              · skip
                have hsb : (s >>> (nI i &&& 31)) &&& 1 = 1 := (hs i (by omega)).mpr h2
                rw [show knB (M.1 194) (i + 1) b s = knB (M.1 194) i b s from if_pos hsb] at hk
                refine Rn.iincv (j' := -1) (lv' := [some (.ref 149), some (.int (nI i + (-1)))]) dX12_layStruck_65 rfl rfl (by decide) rfl ?_
                refine Rn.goto dX12_layStruck_68 ?_
                exact ih2 _ b s z (by omega) (by rw [Int32.add_assoc]; exact Int32.add_zero _) hs (fun j h1j h2j => if e : j = i then by rw [e, gn1]; exact ⟨fun h => absurd h.1 h2, fun h => absurd h (hbl i (Nat.lt_succ_self i))⟩ else hb j (by omega) h2j) (fun j hj => hbl j (by omega)) hk
              · skip
                have hsb : ¬ (s >>> (nI i &&& 31)) &&& 1 = 1 := fun h => (hs i (by omega)).mp h h2
                refine Rn.aload_n dX12_layStruck_43 rfl ?_
                refine Rn.getR dX12_layStruck_44 fX12_159 rfl (rc149 hR) (show M.2.2 149 76 = some 194 from (rpt76 hR)) ?_
                refine Rn.iload_n dX12_layStruck_47 rfl ?_
                refine Rn.ialdN (k0 := i) dX12_layStruck_48 (rc194 hR) (by omega) (by decide) ?_
                refine Rn.iconstv (v := -1) dX12_layStruck_49 ic_m1 ?_
                refine Rn.icmp_eq dX12_layStruck_50 (fun h3 => ?_) (fun h3 => ?_)
                · skip
                  rw [show knB (M.1 194) (i + 1) b s = knB (M.1 194) i (b ||| ((1 : Int32) <<< (nI i &&& 31))) s from (if_neg hsb).trans (if_pos h3)] at hk
                  refine Rn.iincv (j' := -1) (lv' := [some (.ref 149), some (.int (nI i + (-1)))]) dX12_layStruck_65 rfl rfl (by decide) rfl ?_
                  refine Rn.goto dX12_layStruck_68 ?_
                  exact ih2 _ (b ||| ((1 : Int32) <<< (nI i &&& 31))) s z (by omega) (by rw [Int32.add_assoc]; exact Int32.add_zero _) hs (fun j h1j h2j => by rw [bit_or (by omega) (by omega)]; exact if e : j = i then by rw [e, gn1]; exact ⟨fun _ => Or.inl rfl, fun _ => ⟨h2, h3⟩⟩ else (hb j (by omega) h2j).trans ⟨Or.inr, fun h => h.resolve_left e⟩) (fun j hj h => (bit_or (by omega) (by omega)).mp h |>.elim (fun e => absurd e (by omega)) (hbl j (by omega))) hk
                · skip
                  obtain ⟨t, ht, hte⟩ := (hst i (by omega)).resolve_left h3
                  rw [show knB (M.1 194) (i + 1) b s = knB (M.1 194) i b (s ||| ((1 : Int32) <<< (M.1 194 i &&& 31))) from (if_neg hsb).trans (if_neg h3), hte] at hk
                  refine Rn.aload_n dX12_layStruck_53 rfl ?_
                  refine Rn.getR dX12_layStruck_54 fX12_162 rfl (rc149 hR) (show M.2.2 149 77 = some 195 from (rpt77 hR)) ?_
                  refine Rn.aload_n dX12_layStruck_57 rfl ?_
                  refine Rn.getR dX12_layStruck_58 fX12_159 rfl (rc149 hR) (show M.2.2 149 76 = some 194 from (rpt76 hR)) ?_
                  refine Rn.iload_n dX12_layStruck_61 rfl ?_
                  refine Rn.ialdN (k0 := i) dX12_layStruck_62 (rc194 hR) (by omega) (by decide) ?_
                  refine Rn.topI (y := nI t) (hte) ?_
                  refine Rn.iconstv (v := 1) dX12_layStruck_63 ic_1 ?_
                  refine Rn.zastN (k0 := t) dX12_layStruck_64 (rc195 hR) (by omega) (by decide) ?_
                  refine Rn.meq (M2 := sI M 195 (upd z t (vp_nar .boolean 1))) (sI_sI _ _ _ _) ?_
                  refine Rn.meq (M2 := sI M 195 (upd z t 1)) (congrArg (fun r9 => sI M 195 r9) (rfl)) ?_
                  refine Rn.iincv (j' := -1) (lv' := [some (.ref 149), some (.int (nI i + (-1)))]) dX12_layStruck_65 rfl rfl (by decide) rfl ?_
                  refine Rn.goto dX12_layStruck_68 ?_
                  exact ih2 _ b (s ||| ((1 : Int32) <<< (nI t &&& 31))) (upd z t 1) (by omega) (by rw [Int32.add_assoc]; exact Int32.add_zero _) (fun j hj => by rw [bit_or (by omega) (by omega)]; exact if e : j = t then by rw [e, pk_us]; exact ⟨fun _ => by decide, fun _ => Or.inl rfl⟩ else by rw [pk_un e]; exact (⟨fun h => h.resolve_left e, Or.inr⟩ : _ ↔ _).trans (hs j hj)) (fun j h1j h2j => by rw [pk_un (show j ≠ t by omega)]; exact if e : j = i then by rw [e, gn1]; exact ⟨fun h => absurd h.2 h3, fun h => absurd h (hbl i (Nat.lt_succ_self i))⟩ else hb j (by omega) h2j) (fun j hj => hbl j (by omega)) hk
        exact loop2 m q 0 0 _ (Nat.le_refl m) (by rw [hq]; exact Int32.sub_add_cancel _ _) (fun j hj => ⟨fun h => absurd h (bit_0 (by omega)), fun h => absurd (pre_lt hj) h⟩) (fun j h1 h2 => absurd h1 (by omega)) (fun j hj => bit_0 (by omega)) rfl
      · skip
        exact absurd (nI_le (a := m) (b := i) (by omega) (by omega)) hc
    | succ k ih =>
      intro i hi
      refine Rn.iload_n dX12_layStruck_2 rfl ?_
      refine Rn.aload_n dX12_layStruck_3 rfl ?_
      refine Rn.callV0 dX12_layStruck_4 vX12_514 (rc149 hR) (by decide) rfl (tX12_knownMany (M := sI M 195 (pre i (fun _ => 0) (M.1 195))) hR) (by decide) ⟨(Nat.le_of_ble_eq_true rfl), (Nat.le_of_ble_eq_true rfl), (Nat.le_of_ble_eq_true rfl)⟩ (fun h => by cases h) (fun v1 ly1 M1 ⟨q1, q2, q3⟩ => ?_)
      rw [q1, q2, q3]
      refine Rn.topI (y := nI m) (hm) ?_
      refine Rn.icmp_ge dX12_layStruck_7 (fun hc => ?_) (fun hc => ?_)
      · skip
        exact absurd hc (nI_ge (a := i) (b := m) (by omega) (by omega))
      · skip
        refine Rn.aload_n dX12_layStruck_10 rfl ?_
        refine Rn.getR dX12_layStruck_11 fX12_162 rfl (rc149 hR) (show M.2.2 149 77 = some 195 from (rpt77 hR)) ?_
        refine Rn.iload_n dX12_layStruck_14 rfl ?_
        refine Rn.iconstv (v := 0) dX12_layStruck_15 ic_0 ?_
        refine Rn.zastN (k0 := i) dX12_layStruck_16 (rc195 hR) (by omega) (by decide) ?_
        refine Rn.meq (M2 := sI M 195 (upd (pre i (fun _ => 0) (M.1 195)) i (vp_nar .boolean 0))) (sI_sI _ _ _ _) ?_
        refine Rn.meq (M2 := sI M 195 (pre (i + 1) (fun _ => 0) (M.1 195))) (congrArg (fun r9 => sI M 195 r9) (pre_up i (fun _ => 0) (M.1 195))) ?_
        refine Rn.iincN (lv' := [some (.ref 149), some (.int (nI (i + 1)))]) dX12_layStruck_17 rfl (by decide) rfl ?_
        refine Rn.goto dX12_layStruck_20 ?_
        exact ih (i + 1) (by omega)
  exact loop m 0 (by omega)
