theorem scN_up {P : Int32 → Bool} {f : Nat → Int32} {k i : Nat} (hk : 0 < k) (h : P (f i) = true) : i < scN P f k i := by
  obtain ⟨m, rfl⟩ : ∃ m, k = m + 1 := ⟨k - 1, by omega⟩
  unfold scN
  rw [if_pos h]
  have := (scN_le (P := P) (f := f) m (i + 1)).1
  omega
theorem sgV_hi {c h : Int32} (hc : c < 256) (hv : 256 ≤ sgV c h) : ¬ h = -1 := by
  intro e
  unfold sgV at hv
  rw [e, if_neg (fun x => absurd x.2 (by decide)), if_neg (fun x => absurd x.2 (by decide)), if_neg (fun x => absurd x.2 (by decide))] at hv
  exact Int32.not_lt.mpr hv hc
theorem tkT_le {f : Nat → Int32} {n p : Nat} {v0 : Int32} (hb : byA f n) (hp : p ≤ n) : (tkT f n p v0).1 ≤ n ∧ (p < n → p < (tkT f n p v0).1) := by
  unfold tkT
  by_cases h : n ≤ p
  · rw [if_pos h]; exact ⟨hp, fun h2 => absurd h2 (by omega)⟩
  · rw [if_neg h]
    by_cases h1 : isS (f p) = true
    · have e1 := scN_le (P := isS) (f := f) (n - p) p
      have e2 := scN_up (P := isS) (f := f) (k := n - p) (i := p) (by omega) h1
      rw [if_pos h1]
      split
      · exact ⟨by show scN isS f (n - p) p ≤ n; omega, fun _ => e2⟩
      · split
        · exact ⟨by show scN isS f (n - p) p ≤ n; omega, fun _ => e2⟩
        · exact ⟨by show scN isS f (n - p) p ≤ n; omega, fun _ => e2⟩
    · rw [if_neg h1]
      by_cases h2 : isD (f p) = true
      · have e1 := scN_le (P := isD) (f := f) (n - p) p
        have e2 := scN_up (P := isD) (f := f) (k := n - p) (i := p) (by omega) h2
        rw [if_pos h2]
        exact ⟨by show scN isD f (n - p) p ≤ n; omega, fun _ => e2⟩
      · rw [if_neg h2]
        show (if _ then p + 2 else p + 1) ≤ n ∧ (p < n → p < (if _ then p + 2 else p + 1))
        by_cases h3 : 256 ≤ sgV (f p) (hrF f n (p + 1))
        · rw [if_pos h3]
          have h4 := sgV_hi (hb p (by omega)).2 h3
          have h5 : p + 1 < n := Nat.lt_of_not_le (fun h6 => h4 (if_neg (by omega)))
          omega
        · rw [if_neg h3]; omega
theorem tkP_le {f : Nat → Int32} {n i : Nat} (hi : i ≤ n) : i ≤ tkP f n i ∧ tkP f n i ≤ n := by
  have := scN_le (P := isB) (f := f) (n - i) i
  unfold tkP; omega
/-- where the token behind the token at i begins -/
def nx (f : Nat → Int32) (n i : Nat) : Nat := (tkT f n (tkP f n i) 0).1
theorem tkT_1 {f : Nat → Int32} {n p : Nat} {v0 : Int32} : (tkT f n p v0).1 = (tkT f n p 0).1 := by
  unfold tkT
  by_cases h : n ≤ p
  · rw [if_pos h, if_pos h]
  · rw [if_neg h, if_neg h]
/-- the reference's reader: the token that begins behind i is at hand -/
def RD (M : Mm) (n i : Nat) : Prop := (M.1 149 24 = nI n ∧ n ≤ 700) ∧ i ≤ n ∧ byA (M.1 150) n ∧ M.1 149 26 = nI (tkP (M.1 150) n i) ∧ M.1 149 25 = nI (nx (M.1 150) n i) ∧ ∃ v0, M.1 149 27 = (tkT (M.1 150) n (tkP (M.1 150) n i) v0).2.1 ∧ M.1 149 28 = (tkT (M.1 150) n (tkP (M.1 150) n i) v0).2.2
theorem nx_le {f : Nat → Int32} {n i : Nat} (hb : byA f n) (hi : i ≤ n) : nx f n i ≤ n ∧ (tkP f n i < n → i < nx f n i) := by
  have h1 := tkP_le (f := f) hi
  have h2 := tkT_le (v0 := 0) hb h1.2
  unfold nx
  exact ⟨h2.1, fun h => by have := h2.2 h; omega⟩
theorem rdTok {G : Gx} {l : Launch} {ly : Ly} {M : Mm} {n i : Nat} (h : RD M n i) (hR : RW ly M.2.2) {Q : Qt} (hQ : ∀ K, tkF M K → RD K n (nx (M.1 150) n i) → Q none ly K) : Mt G l mX12_token (6, 0, 0, false) [.ref 149] ly M Q := by
  obtain ⟨h1, h2, h3, h4, h5, h6⟩ := h
  have h7 := nx_le h3 h2
  refine tX12_token h1 ⟨h5, h7.1⟩ h3 hR (fun K t1 t2 t3 t4 t5 => hQ K t1 ?_)
  have e : K.1 150 = M.1 150 := t1.2.1 150 (by decide)
  refine ⟨⟨(t1.2.2 24 (by omega)).trans h1.1, h1.2⟩, h7.1, by rw [e]; exact h3, by rw [e]; exact t2, by rw [e, t3, tkT_1]; rfl, M.1 149 28, by rw [e]; exact t4, by rw [e]; exact t5⟩
def isT (a b c d e : Int32) : Int32 := if a = 0 then (if b = d then (if c = e then 1 else 0) else 0) else 0
theorem tX12_wrong {G : Gx} {l : Launch} {ly : Ly} {M : Mm} {x : Int32} (hR : RW ly M.2.2) {Q : Qt} (hQ : (¬ M.1 149 29 = 0 → Q none ly M) ∧ (M.1 149 29 = 0 → Q none ly (sI M 149 (upd (upd (M.1 149) 29 x) 30 (M.1 149 26))))) : Mt G l mX12_wrong (0, 0, 0, false) [.ref 149, .int x] ly M Q := by
  refine Mt.of (lv := [some (.ref 149), some (.int x)]) rfl ?_
  refine Rn.aload_n dX12_wrong_0 rfl ?_
  refine Rn.getI dX12_wrong_1 fX12_222 rfl (rc149 hR) ?_
  refine Rn.if_eq dX12_wrong_4 (fun g => ?_) (fun g => ?_)
  · skip
    refine Rn.aload_n dX12_wrong_8 rfl ?_
    refine Rn.iload_n dX12_wrong_9 rfl ?_
    refine Rn.putI dX12_wrong_10 fX12_222 rfl rfl rfl (rc149 hR) ?_
    refine Rn.aload_n dX12_wrong_13 rfl ?_
    refine Rn.aload_n dX12_wrong_14 rfl ?_
    refine Rn.getI dX12_wrong_15 fX12_185 rfl (rc149 hR) ?_
    refine Rn.putI dX12_wrong_18 fX12_225 rfl rfl rfl (rc149 hR) ?_
    refine Rn.meq (M2 := sI M 149 (upd (upd (M.1 149) 29 x) 30 (M.1 149 26))) (sI_sI _ _ _ _) ?_
    exact Rn.vret dX12_wrong_21 rfl (hQ.2 g)
  · skip
    exact Rn.vret dX12_wrong_7 rfl (hQ.1 g)
theorem tX12_isWord {G : Gx} {l : Launch} {ly : Ly} {M : Mm} {x : Int32} (hR : RW ly M.2.2) : Mt G l mX12_isWord (0, 0, 0, false) [.ref 149, .int x] ly M (Is (some (.int (isT (M.1 149 29) (M.1 149 27) (M.1 149 28) 0 x))) ly M) := by
  refine Mt.is (fun Q hQ => ?_)
  refine Mt.of (lv := [some (.ref 149), some (.int x)]) rfl ?_
  unfold isT at hQ
  refine Rn.aload_n dX12_isWord_0 rfl ?_
  refine Rn.getI dX12_isWord_1 fX12_222 rfl (rc149 hR) ?_
  refine Rn.if_ne dX12_isWord_4 (fun g1 => ?_) (fun g1 => ?_)
  · skip
    rw [if_neg g1] at hQ
    refine Rn.iconstv (v := 0) dX12_isWord_26 ic_0 ?_
    exact Rn.iret (ty := .boolean) dX12_isWord_27 rfl rfl hQ
  · skip
    rw [if_pos g1] at hQ
    refine Rn.aload_n dX12_isWord_7 rfl ?_
    refine Rn.getI dX12_isWord_8 fX12_188 rfl (rc149 hR) ?_
    refine Rn.if_ne dX12_isWord_11 (fun g2 => ?_) (fun g2 => ?_)
    · skip
      rw [if_neg g2] at hQ
      refine Rn.iconstv (v := 0) dX12_isWord_26 ic_0 ?_
      exact Rn.iret (ty := .boolean) dX12_isWord_27 rfl rfl hQ
    · skip
      rw [if_pos g2] at hQ
      refine Rn.aload_n dX12_isWord_14 rfl ?_
      refine Rn.getI dX12_isWord_15 fX12_198 rfl (rc149 hR) ?_
      refine Rn.iload_n dX12_isWord_18 rfl ?_
      refine Rn.icmp_ne dX12_isWord_19 (fun g3 => ?_) (fun g3 => ?_)
      · skip
        rw [if_neg g3] at hQ
        refine Rn.iconstv (v := 0) dX12_isWord_26 ic_0 ?_
        exact Rn.iret (ty := .boolean) dX12_isWord_27 rfl rfl hQ
      · skip
        rw [if_pos g3] at hQ
        refine Rn.iconstv (v := 1) dX12_isWord_22 ic_1 ?_
        refine Rn.goto dX12_isWord_23 ?_
        exact Rn.iret (ty := .boolean) dX12_isWord_27 rfl rfl hQ
theorem tX12_isSign {G : Gx} {l : Launch} {ly : Ly} {M : Mm} {x : Int32} (hR : RW ly M.2.2) : Mt G l mX12_isSign (0, 0, 0, false) [.ref 149, .int x] ly M (Is (some (.int (isT (M.1 149 29) (M.1 149 27) (M.1 149 28) 3 x))) ly M) := by
  refine Mt.is (fun Q hQ => ?_)
  refine Mt.of (lv := [some (.ref 149), some (.int x)]) rfl ?_
  unfold isT at hQ
  refine Rn.aload_n dX12_isSign_0 rfl ?_
  refine Rn.getI dX12_isSign_1 fX12_222 rfl (rc149 hR) ?_
  refine Rn.if_ne dX12_isSign_4 (fun g1 => ?_) (fun g1 => ?_)
  · skip
    rw [if_neg g1] at hQ
    refine Rn.iconstv (v := 0) dX12_isSign_27 ic_0 ?_
    exact Rn.iret (ty := .boolean) dX12_isSign_28 rfl rfl hQ
  · skip
    rw [if_pos g1] at hQ
    refine Rn.aload_n dX12_isSign_7 rfl ?_
    refine Rn.getI dX12_isSign_8 fX12_188 rfl (rc149 hR) ?_
    refine Rn.iconstv (v := 3) dX12_isSign_11 ic_3 ?_
    refine Rn.icmp_ne dX12_isSign_12 (fun g2 => ?_) (fun g2 => ?_)
    · skip
      rw [if_neg g2] at hQ
      refine Rn.iconstv (v := 0) dX12_isSign_27 ic_0 ?_
      exact Rn.iret (ty := .boolean) dX12_isSign_28 rfl rfl hQ
    · skip
      rw [if_pos g2] at hQ
      refine Rn.aload_n dX12_isSign_15 rfl ?_
      refine Rn.getI dX12_isSign_16 fX12_198 rfl (rc149 hR) ?_
      refine Rn.iload_n dX12_isSign_19 rfl ?_
      refine Rn.icmp_ne dX12_isSign_20 (fun g3 => ?_) (fun g3 => ?_)
      · skip
        rw [if_neg g3] at hQ
        refine Rn.iconstv (v := 0) dX12_isSign_27 ic_0 ?_
        exact Rn.iret (ty := .boolean) dX12_isSign_28 rfl rfl hQ
      · skip
        rw [if_pos g3] at hQ
        refine Rn.iconstv (v := 1) dX12_isSign_23 ic_1 ?_
        refine Rn.goto dX12_isSign_24 ?_
        exact Rn.iret (ty := .boolean) dX12_isSign_28 rfl rfl hQ
theorem tX12_goOn {G : Gx} {l : Launch} {ly : Ly} {M : Mm} {n i : Nat} (h : RD M n i) (hR : RW ly M.2.2) {Q : Qt} (hQ : (¬ M.1 149 29 = 0 → Q none ly M) ∧ (M.1 149 29 = 0 → ∀ K, tkF M K → RD K n (nx (M.1 150) n i) → Q none ly K)) : Mt G l mX12_goOn (7, 0, 0, false) [.ref 149] ly M Q := by
  refine Mt.of (lv := [some (.ref 149)]) rfl ?_
  refine Rn.aload_n dX12_goOn_0 rfl ?_
  refine Rn.getI dX12_goOn_1 fX12_222 rfl (rc149 hR) ?_
  refine Rn.if_ne dX12_goOn_4 (fun g => ?_) (fun g => ?_)
  · skip
    exact Rn.vret dX12_goOn_11 rfl (hQ.1 g)
  · skip
    refine Rn.aload_n dX12_goOn_7 rfl ?_
    refine Rn.callV0 dX12_goOn_8 vX12_228 (rc149 hR) (by decide) rfl (rdTok (M := M) (n := n) (i := i) (Q := fun v0 ly0 K => v0 = none ∧ ly0 = ly ∧ tkF M K ∧ RD K n (nx (M.1 150) n i)) h hR (fun K t1 t2 => ⟨rfl, rfl, t1, t2⟩)) (by decide) ⟨(Nat.le_of_ble_eq_true rfl), (Nat.le_of_ble_eq_true rfl), (Nat.le_of_ble_eq_true rfl)⟩ (fun h => by cases h) (fun v1 ly1 N1 ⟨q1, q2, t1, t2⟩ => ?_)
    rw [q1, q2]
    exact Rn.vret dX12_goOn_11 rfl (hQ.2 g N1 t1 t2)
theorem tX12_fresher {G : Gx} {l : Launch} {ly : Ly} {M : Mm} {k : Nat} (hk : k < 13) (hR : RW ly M.2.2) : Mt G l mX12_fresher (0, 0, 0, false) [.ref 149, .int (nI k)] ly M (Is (some (.int (M.1 151 (13 + k)))) ly M) := by
  refine Mt.is (fun Q hQ => ?_)
  refine Mt.of (lv := [some (.ref 149), some (.int (nI k))]) rfl ?_
  refine Rn.aload_n dX12_fresher_0 rfl ?_
  refine Rn.getR dX12_fresher_1 fX12_15 rfl (rc149 hR) (show M.2.2 149 3 = some 151 from (rpt3 hR)) ?_
  refine Rn.bipushv (v := 13) dX12_fresher_4 bp_13 ?_
  refine Rn.iload_n dX12_fresher_6 rfl ?_
  refine Rn.iadd dX12_fresher_7 ?_
  refine Rn.topI (y := nI (13 + k)) (nI_add 13 k) ?_
  refine Rn.ialdN (k0 := (13 + k)) dX12_fresher_8 (rc151 hR) (by omega) (by decide) ?_
  exact Rn.iret (ty := .int) dX12_fresher_9 rfl rfl hQ
theorem tX12_reads {G : Gx} {l : Launch} {ly : Ly} {M : Mm} {k : Nat} {x : Int32} (hk : k < 13) (hR : RW ly M.2.2) : Mt G l mX12_reads (0, 0, 0, false) [.ref 149, .int (nI k), .int x] ly M (Is none ly (sI M 151 (upd (M.1 151) (13 + k) x))) := by
  refine Mt.is (fun Q hQ => ?_)
  refine Mt.of (lv := [some (.ref 149), some (.int (nI k)), some (.int x)]) rfl ?_
  refine Rn.aload_n dX12_reads_0 rfl ?_
  refine Rn.getR dX12_reads_1 fX12_15 rfl (rc149 hR) (show M.2.2 149 3 = some 151 from (rpt3 hR)) ?_
  refine Rn.bipushv (v := 13) dX12_reads_4 bp_13 ?_
  refine Rn.iload_n dX12_reads_6 rfl ?_
  refine Rn.iadd dX12_reads_7 ?_
  refine Rn.topI (y := nI (13 + k)) (nI_add 13 k) ?_
  refine Rn.iload_n dX12_reads_8 rfl ?_
  refine Rn.iastN (k0 := (13 + k)) dX12_reads_9 (rc151 hR) (by omega) (by decide) ?_
  exact Rn.vret dX12_reads_10 rfl hQ
theorem tX12_knot {G : Gx} {l : Launch} {ly : Ly} {M : Mm} {c : Nat} (hcn : M.1 149 34 = nI c ∧ c ≤ 64) (hR : RW ly M.2.2) {Q : Qt} (hQ : (¬ M.1 149 29 = 0 → Q none ly M) ∧ (M.1 149 29 = 0 → c = 64 → Q none ly (sI M 149 (upd (upd (M.1 149) 29 2) 30 (M.1 149 26)))) ∧ (M.1 149 29 = 0 → c < 64 → Q none ly (sI M 149 (upd (M.1 149) 34 (nI (c + 1)))))) : Mt G l mX12_knot (1, 0, 0, false) [.ref 149] ly M Q := by
  refine Mt.of (lv := [some (.ref 149)]) rfl ?_
  refine Rn.aload_n dX12_knot_0 rfl ?_
  refine Rn.getI dX12_knot_1 fX12_222 rfl (rc149 hR) ?_
  refine Rn.if_eq dX12_knot_4 (fun g => ?_) (fun g => ?_)
  · skip
    refine Rn.aload_n dX12_knot_8 rfl ?_
    refine Rn.getI dX12_knot_9 fX12_294 rfl (rc149 hR) ?_
    refine Rn.topI (y := nI c) (hcn.1) ?_
    refine Rn.bipushv (v := 64) dX12_knot_12 bp_64 ?_
    refine Rn.icmp_ne dX12_knot_14 (fun g2 => ?_) (fun g2 => ?_)
    · skip
      refine Rn.aload_n dX12_knot_25 rfl ?_
      refine Rn.dup dX12_knot_26 rfl ?_
      refine Rn.getI dX12_knot_27 fX12_294 rfl (rc149 hR) ?_
      refine Rn.topI (y := nI c) (hcn.1) ?_
      refine Rn.iconstv (v := 1) dX12_knot_30 ic_1 ?_
      refine Rn.iadd dX12_knot_31 ?_
      refine Rn.topI (y := nI (c + 1)) (nI_add c 1) ?_
      refine Rn.putI dX12_knot_32 fX12_294 rfl rfl rfl (rc149 hR) ?_
      exact Rn.vret dX12_knot_35 rfl (hQ.2.2 g (Nat.lt_of_le_of_ne hcn.2 (fun e => g2 (by rw [e]; rfl))))
    · skip
      refine Rn.aload_n dX12_knot_17 rfl ?_
      refine Rn.iconstv (v := 2) dX12_knot_18 ic_2 ?_
      refine Rn.callV1 dX12_knot_19 vX12_231 (rc149 hR) (by decide) rfl (tX12_wrong (M := M) (x := 2) (Q := fun v0 ly0 K => v0 = none ∧ ly0 = ly ∧ K = sI M 149 (upd (upd (M.1 149) 29 2) 30 (M.1 149 26))) hR ⟨fun h => absurd g h, fun _ => ⟨rfl, rfl, rfl⟩⟩) (by decide) ⟨(Nat.le_of_ble_eq_true rfl), (Nat.le_of_ble_eq_true rfl), (Nat.le_of_ble_eq_true rfl)⟩ (fun h => by cases h) (fun v1 ly1 N1 ⟨q1, q2, q3⟩ => ?_)
      rw [q1, q2, q3]
      refine Rn.goto dX12_knot_22 ?_
      exact Rn.vret dX12_knot_35 rfl (hQ.2.1 g ((nI_eq (b := 64) (by omega) (by decide)).mp g2))
  · skip
    exact Rn.vret dX12_knot_7 rfl (hQ.1 g)
theorem tX12_isOnce {G : Gx} {l : Launch} {ly : Ly} {M : Mm} {x : Int32} : Mt G l mX12_isOnce (0, 0, 0, false) [.int x] ly M (Is (some (.int (if x ≤ 3 ∨ x = 7 ∨ x = 8 then 1 else 0))) ly M) := by
  refine Mt.is (fun Q hQ => ?_)
  refine Mt.of (lv := [some (.int x)]) rfl ?_
  refine Rn.iload_n dX12_isOnce_0 rfl ?_
  refine Rn.iconstv (v := 3) dX12_isOnce_1 ic_3 ?_
  refine Rn.icmp_le dX12_isOnce_2 (fun g1 => ?_) (fun g1 => ?_)
  · skip
    rw [if_pos (Or.inl g1)] at hQ
    refine Rn.iconstv (v := 1) dX12_isOnce_17 ic_1 ?_
    refine Rn.goto dX12_isOnce_18 ?_
    exact Rn.iret (ty := .boolean) dX12_isOnce_22 rfl rfl hQ
  · skip
    refine Rn.iload_n dX12_isOnce_5 rfl ?_
    refine Rn.bipushv (v := 7) dX12_isOnce_6 bp_7 ?_
    refine Rn.icmp_eq dX12_isOnce_8 (fun g2 => ?_) (fun g2 => ?_)
    · skip
      rw [if_pos (Or.inr (Or.inl g2))] at hQ
      refine Rn.iconstv (v := 1) dX12_isOnce_17 ic_1 ?_
      refine Rn.goto dX12_isOnce_18 ?_
      exact Rn.iret (ty := .boolean) dX12_isOnce_22 rfl rfl hQ
    · skip
      refine Rn.iload_n dX12_isOnce_11 rfl ?_
      refine Rn.bipushv (v := 8) dX12_isOnce_12 bp_8 ?_
      refine Rn.icmp_ne dX12_isOnce_14 (fun g3 => ?_) (fun g3 => ?_)
      · skip
        rw [if_neg (fun e => e.elim g1 (fun e => e.elim g2 g3))] at hQ
        refine Rn.iconstv (v := 0) dX12_isOnce_21 ic_0 ?_
        exact Rn.iret (ty := .boolean) dX12_isOnce_22 rfl rfl hQ
      · skip
        rw [if_pos (Or.inr (Or.inr g3))] at hQ
        refine Rn.iconstv (v := 1) dX12_isOnce_17 ic_1 ?_
        refine Rn.goto dX12_isOnce_18 ?_
        exact Rn.iret (ty := .boolean) dX12_isOnce_22 rfl rfl hQ
