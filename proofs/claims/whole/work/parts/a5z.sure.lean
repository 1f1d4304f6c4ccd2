/-- in the set i, not in it -/
def svW (B : Nat → Bool) (w i : Nat) : Bool := B i && decide (inW i w = 1)
def svN (B : Nat → Bool) (w i : Nat) : Bool := B i && decide (inW i w = 0)
def svF (n : Nat) : Int32 := if n = 0 then 0 else 1
theorem svF_s (n : Nat) : svF (n + 1) = 1 := if_neg (by omega)
theorem svF_01 (n : Nat) : svF n = 0 ∨ svF n = 1 := by unfold svF; split; exact Or.inl rfl; exact Or.inr rfl
theorem sv_t {D : Nat → Bool} {i : Nat} (h : D i = true) : cnB D (i + 1) = cnB D i + 1 := if_pos h
theorem sv_f {D : Nat → Bool} {i : Nat} (h : D i = false) : cnB D (i + 1) = cnB D i := if_neg (by rw [h]; decide)
theorem svW_t {B : Nat → Bool} {w i : Nat} (hB : B i = true) (h : inW i w = 1) : svW B w i = true := by unfold svW; rw [hB, h]; decide
theorem svW_f {B : Nat → Bool} {w i : Nat} (h : inW i w = 0) : svW B w i = false := by unfold svW; rw [h]; cases B i <;> decide
theorem svN_t {B : Nat → Bool} {w i : Nat} (hB : B i = true) (h : inW i w = 0) : svN B w i = true := by unfold svN; rw [hB, h]; decide
theorem svN_f {B : Nat → Bool} {w i : Nat} (h : inW i w = 1) : svN B w i = false := by unfold svN; rw [h]; cases B i <;> decide
theorem svW_n {B : Nat → Bool} {w i : Nat} (hB : ¬ B i = true) : svW B w i = false := by unfold svW; rw [Bool.eq_false_iff.mpr hB]; rfl
theorem svN_n {B : Nat → Bool} {w i : Nat} (hB : ¬ B i = true) : svN B w i = false := by unfold svN; rw [Bool.eq_false_iff.mpr hB]; rfl
/-- one set more -/
theorem sv_add {B : Nat → Bool} {w i : Nat} (hB : B i = true) : nI (cnB (svW B w) i) + (((nI i) >>> ((nI w) &&& 31)) &&& 1) = nI (cnB (svW B w) (i + 1)) := by
  rcases and1i ((nI i) >>> ((nI w) &&& 31)) with h | h
  · have q : inW i w = 0 := if_neg (by rw [h]; decide)
    rw [h, sv_f (svW_f q), Int32.add_zero]
  · have q : inW i w = 1 := if_pos h
    rw [h, sv_t (svW_t hB q), nI_succ]
theorem sv_split {B : Nat → Bool} {w : Nat} : ∀ k : Nat, cnB (svW B w) k + cnB (svN B w) k = cnB B k
  | 0 => rfl
  | k + 1 => by
    have ih := sv_split (B := B) (w := w) k
    by_cases hB : B k = true
    · have e : cnB B (k + 1) = cnB B k + 1 := if_pos hB
      rcases inW01 k w with q | q
      · rw [sv_f (svW_f q), sv_t (svN_t hB q), e]; omega
      · rw [sv_t (svW_t hB q), sv_f (svN_f q), e]; omega
    · have e : cnB B (k + 1) = cnB B k := if_neg hB
      rw [sv_f (svW_n hB), sv_f (svN_n hB), e]; exact ih
theorem sv_lo {B : Nat → Bool} {N : Nat} : ∀ k : Nat, k ≤ N → cnB (sB B N) k = cnB B k
  | 0, _ => rfl
  | k + 1, hk => by
    have ih := sv_lo (B := B) (N := N) k (by omega)
    have e : sB B N k = B k := by unfold sB; rw [decide_eq_true (show k < N by omega)]; rfl
    by_cases hB : B k = true
    · rw [sv_t (D := sB B N) (e.trans hB), sv_t hB, ih]
    · rw [sv_f (D := sB B N) (e.trans (Bool.eq_false_iff.mpr hB)), sv_f (Bool.eq_false_iff.mpr hB), ih]
theorem sv_hi {B : Nat → Bool} {N : Nat} : ∀ k : Nat, cnB (sB B N) (N + k) = cnB B N
  | 0 => sv_lo N (Nat.le_refl N)
  | k + 1 => by
    have ih := sv_hi (B := B) (N := N) k
    have e : sB B N (N + k) = false := by unfold sB; rw [decide_eq_false (show ¬ N + k < N by omega)]; rfl
    show cnB (sB B N) (N + k + 1) = _
    rw [sv_f (D := sB B N) e, ih]
theorem sv_sB {B : Nat → Bool} {N : Nat} (hN : N ≤ 64) : cnB (sB B N) 64 = cnB B N := by
  have h := sv_hi (B := B) (N := N) (64 - N)
  rw [show N + (64 - N) = 64 by omega] at h
  exact h
theorem sv_k {B : Nat → Bool} {w : Nat} : ∀ (f i : Nat), srK B w f i (svF (cnB (svW B w) i)) (svF (cnB (svN B w) i)) = (svF (cnB (svW B w) (i + f)), svF (cnB (svN B w) (i + f)))
  | 0, _ => rfl
  | f + 1, i => by
    have ih := sv_k (B := B) (w := w) f (i + 1)
    rw [show i + 1 + f = i + (f + 1) by omega] at ih
    by_cases hB : B i = true
    · rw [srK, if_pos hB, ← ih]
      rcases inW01 i w with q | q
      · rw [q, sv_f (svW_f q), sv_t (svN_t hB q), svF_s]
        rcases svF_01 (cnB (svW B w) i) with u | u <;> rcases svF_01 (cnB (svN B w) i) with v | v <;> rw [u, v] <;> rfl
      · rw [q, sv_t (svW_t hB q), sv_f (svN_f q), svF_s]
        rcases svF_01 (cnB (svW B w) i) with u | u <;> rcases svF_01 (cnB (svN B w) i) with v | v <;> rw [u, v] <;> rfl
    · rw [srK, if_neg hB, ← ih, sv_f (svW_n hB), sv_f (svN_n hB)]
theorem sv_nz {n : Nat} (h : ¬ n = 0) : ¬ svF n = 0 := by unfold svF; rw [if_neg h]; decide
/-- the answer by the counts -/
theorem sv_0 {B : Nat → Bool} {w : Nat} (h : cnB (svW B w) 64 = 0) : srA (srK B w 64 0 0 0) = 0 := by
  have e : srK B w 64 0 0 0 = (svF (cnB (svW B w) 64), svF (cnB (svN B w) 64)) := sv_k 64 0
  rw [e, h]
  exact if_pos rfl
theorem sv_1 {B : Nat → Bool} {w : Nat} (h : ¬ cnB (svW B w) 64 = 0) (h2 : cnB (svN B w) 64 = 0) : srA (srK B w 64 0 0 0) = 1 := by
  have e : srK B w 64 0 0 0 = (svF (cnB (svW B w) 64), svF (cnB (svN B w) 64)) := sv_k 64 0
  rw [e, h2]
  exact (if_neg (sv_nz h)).trans (if_pos rfl)
theorem sv_2 {B : Nat → Bool} {w : Nat} (h : ¬ cnB (svW B w) 64 = 0) (h2 : ¬ cnB (svN B w) 64 = 0) : srA (srK B w 64 0 0 0) = 2 := by
  have e : srK B w 64 0 0 0 = (svF (cnB (svW B w) 64), svF (cnB (svN B w) 64)) := sv_k 64 0
  rw [e]
  exact (if_neg (sv_nz h)).trans (if_neg (sv_nz h2))
theorem tX11_sure {G : Gx} {l : Launch} {ly : Ly} {M : Mm} {pl n nw nu nv nf : Nat} {ng m L : Nat} {x : Int32} (hg : gOk M ng m L) (hXS : XS ly M pl n nw nu nv) (hF : M.1 87 0 = nI nf ∧ nf ≤ 8 ∧ ∀ i, i < nf → vp_in (M.1 88 i) 12) {Q : Qt} (hQ : (¬ (∃ j : Nat, j < nw ∧ x = nI j) → Q (some (.int (-1))) ly M) ∧ (∀ w : Nat, w < nw → x = nI w → ∀ M' : Mm, quX M M' → Q (some (.int (if bgS (fun i => soB (TG M.1 pl n nw (fun k => M.1 (pl + 7 + k)) (pl + 18) nu (pl + 21) nv (M.1 75 4) 0 1 (M.1 90)) (zsc (M.1 75 15) (lvO (nI i) (fun _ => 0) 6)) (kbX M m) (M.1 129) (M.1 130) (M.1 131) (M.1 132) ng L) (2 ^ nw) = 0 then -2 else srA (srK (sB (fun i => soB (TG M.1 pl n nw (fun k => M.1 (pl + 7 + k)) (pl + 18) nu (pl + 21) nv (M.1 75 4) 0 1 (M.1 90)) (zsc (M.1 75 15) (lvO (nI i) (fun _ => 0) 6)) (kbX M m) (M.1 129) (M.1 130) (M.1 131) (M.1 132) ng L) (2 ^ nw)) w 64 0 0 0)))) ly M')) : Mt G l mX11_sure (8, 0, 0, false) [.ref 0, .int x] ly M Q := by
  have hXS0 := hXS
  obtain ⟨hX, hpl, hp7, ⟨n0, n1, n2, n3⟩, ⟨hn, hn2, hn12⟩, ⟨hw1, hw2, hw6⟩, ⟨hu1, hu2, hv1, hv2⟩, hgl, hbb⟩ := hXS
  refine Mt.of (lv := [some (.ref 0), some (.int x), none, none, none, none]) rfl ?_
  refine Rn.aload_n dX11_sure_0 rfl ?_
  refine Rn.iload_n dX11_sure_1 rfl ?_
  refine Rn.callV1 dX11_sure_2 vX11_125 (xc0 hX) (by decide) rfl (tX11_isWalker hX hpl hp7) (by decide) ⟨(Nat.le_of_ble_eq_true rfl), (Nat.le_of_ble_eq_true rfl), (Nat.le_of_ble_eq_true rfl)⟩ (fun h => by cases h) (fun v1 ly1 M1 ⟨q1, q2, q3⟩ => ?_)
  rw [q1, q2, q3]
  refine Rn.topI (y := inN x (nI nw)) (by rw [hw1]) ?_
  refine Rn.if_ne dX11_sure_5 (fun g1 => ?_) (fun g1 => ?_)
  · skip
    obtain ⟨w, hw, rfl⟩ : ∃ j : Nat, j < nw ∧ x = nI j := (inN_1 (x := x) (k := nw) (lt31 hw6)).elim (fun k => absurd k.1 g1) (fun k => k.2)
    have hR := hQ.2 w hw rfl
    clear hQ
    refine Rn.aload_n dX11_sure_10 rfl ?_
    refine Rn.callV0 dX11_sure_11 vX11_365 (xc0 hX) (by decide) rfl (tX11_beginners (Q := fun v0 ly0 M0 => v0 = some (.long (bgS (fun i => soB (TG M.1 pl n nw (fun k => M.1 (pl + 7 + k)) (pl + 18) nu (pl + 21) nv (M.1 75 4) 0 1 (M.1 90)) (zsc (M.1 75 15) (lvO (nI i) (fun _ => 0) 6)) (kbX M m) (M.1 129) (M.1 130) (M.1 131) (M.1 132) ng L) (2 ^ nw))) ∧ ly0 = ly ∧ quX M M0) hg hXS0 hF (fun K h => ⟨rfl, rfl, h⟩)) (by decide) ⟨(Nat.le_of_ble_eq_true rfl), (Nat.le_of_ble_eq_true rfl), (Nat.le_of_ble_eq_true rfl)⟩ (fun h => by cases h) (fun v1 ly1 N1 ⟨q1, q2, hq1⟩ => ?_)
    rw [q1, q2]
    have hXN1 := (hq1).xw hX
    have hplN1 : N1.2.2 0 3 = some pl := ((hq1).2.2 0 3 (by decide)).trans hpl
    have hnN1 : N1.1 pl 0 = nI n := (congrFun ((hq1).p0 hp7) 0).trans hn
    have hw1N1 : N1.1 (pl + 1) 0 = nI nw := (congrFun ((hq1).pk hp7 (k := 1) (by decide)) 0).trans hw1
    have hR1 := hR N1 hq1
    clear hR
    have hpw := pow6 hw6
    generalize (fun i => soB (TG M.1 pl n nw (fun k => M.1 (pl + 7 + k)) (pl + 18) nu (pl + 21) nv (M.1 75 4) 0 1 (M.1 90)) (zsc (M.1 75 15) (lvO (nI i) (fun _ => 0) 6)) (kbX M m) (M.1 129) (M.1 130) (M.1 131) (M.1 132) ng L) = B at hR1 ⊢
    generalize 2 ^ nw = A at hR1 hpw ⊢
    refine Rn.lstore_n (lv' := [some (.ref 0), some (.int (nI w)), some (.long (bgS B A)), none, none, none]) dX11_sure_14 (by decide) rfl ?_
    refine Rn.lload_n dX11_sure_15 rfl ?_
    refine Rn.lconstv (v := 0) dX11_sure_16 rfl ?_
    refine Rn.lcmp dX11_sure_17 ?_
    refine Rn.if_ne dX11_sure_18 (fun h0 => ?_) (fun h0 => ?_)
    · skip
      rw [lg_cmp_eq] at h0
      rw [if_neg h0] at hR1
      have hc1 := sv_split (B := sB B A) (w := w) 64
      have hcA := sv_sB (B := B) (N := A) hpw
      have hcl := cnB_le (B := sB B A) 64
      refine Rn.iconstv (v := 0) dX11_sure_24 ic_0 ?_
      refine Rn.istore (lv' := [some (.ref 0), some (.int (nI w)), some (.long (bgS B A)), none, some (.int 0), none]) dX11_sure_25 (by decide) rfl ?_
      refine Rn.iconstv (v := 0) dX11_sure_27 ic_0 ?_
      refine Rn.istore (lv' := [some (.ref 0), some (.int (nI w)), some (.long (bgS B A)), none, some (.int 0), some (.int 0)]) dX11_sure_28 (by decide) rfl ?_
      have loop : ∀ (f i : Nat), i + f = 64 → Rn G l mX11_sure (8, 0, 0, false) 30 [some (.ref 0), some (.int (nI w)), some (.long (bgS B A)), none, some (.int (nI (cnB (svW (sB B A) w) i))), some (.int (nI i))] [] ly N1 Q := by
        intro f
        induction f with
        | zero =>
          intro i hi
          refine Rn.iload dX11_sure_30 rfl ?_
          refine Rn.bipushv (v := 64) dX11_sure_32 bp_64 ?_
          refine Rn.icmp_ge dX11_sure_34 (fun hc => ?_) (fun hc => ?_)
          · skip
            have hi6 : i = 64 := by omega
            rw [hi6]
            refine Rn.iload dX11_sure_65 rfl ?_
            refine Rn.if_ne dX11_sure_67 (fun e1 => ?_) (fun e1 => ?_)
            · skip
              have n1 : ¬ cnB (svW (sB B A) w) 64 = 0 := fun h => e1 (by rw [h]; rfl)
              refine Rn.iload dX11_sure_72 rfl ?_
              refine Rn.lload_n dX11_sure_74 rfl ?_
              refine Rn.callS1 dX11_sure_75 vX11_369 (tJ13_bitCount) (by decide) ⟨(Nat.le_of_ble_eq_true rfl), (Nat.le_of_ble_eq_true rfl), (Nat.le_of_ble_eq_true rfl)⟩ (fun h => by cases h) (fun v1 ly1 M1 ⟨q1, q2, q3⟩ => ?_)
              rw [q1, q2, q3]
              refine Rn.topI (y := nI (cnB B A)) (pc_cn hpw) ?_
              refine Rn.icmp_ne dX11_sure_78 (fun e2 => ?_) (fun e2 => ?_)
              · skip
                have n2 : ¬ cnB (svN (sB B A) w) 64 = 0 := fun h => e2 (congrArg nI (by omega))
                rw [sv_2 n1 n2] at hR1
                refine Rn.iconstv (v := 2) dX11_sure_85 ic_2 ?_
                exact Rn.iret (ty := .int) dX11_sure_86 rfl rfl hR1
              · skip
                have n2 : cnB (svW (sB B A) w) 64 = cnB B A := nI_inj (by omega) (by omega) e2
                rw [sv_1 n1 (by omega)] at hR1
                refine Rn.iconstv (v := 1) dX11_sure_81 ic_1 ?_
                refine Rn.goto dX11_sure_82 ?_
                exact Rn.iret (ty := .int) dX11_sure_86 rfl rfl hR1
            · skip
              have n1 : cnB (svW (sB B A) w) 64 = 0 := nI_inj (b := 0) (by omega) (by omega) e1
              rw [sv_0 n1] at hR1
              refine Rn.iconstv (v := 0) dX11_sure_70 ic_0 ?_
              exact Rn.iret (ty := .int) dX11_sure_71 rfl rfl hR1
          · skip
            exact absurd (nI_le (a := 64) (b := i) (by omega) (by omega)) hc
        | succ f ih =>
          intro i hi
          refine Rn.iload dX11_sure_30 rfl ?_
          refine Rn.bipushv (v := 64) dX11_sure_32 bp_64 ?_
          refine Rn.icmp_ge dX11_sure_34 (fun hc => ?_) (fun hc => ?_)
          · skip
            exact absurd hc (nI_ge (a := i) (b := 64) (by omega) (by omega))
          · skip
            refine Rn.lload_n dX11_sure_37 rfl ?_
            refine Rn.iload dX11_sure_38 rfl ?_
            refine Rn.lushr dX11_sure_40 ?_
            refine Rn.lconstv (v := 1) dX11_sure_41 rfl ?_
            refine Rn.land dX11_sure_42 ?_
            refine Rn.lconstv (v := 1) dX11_sure_43 rfl ?_
            refine Rn.lcmp dX11_sure_44 ?_
            refine Rn.if_ne dX11_sure_45 (fun hd => ?_) (fun hd => ?_)
            · skip
              rw [lg_cmp_eq] at hd
              rw [bg1 hpw (by omega)] at hd
              have e : cnB (svW (sB B A) w) (i + 1) = cnB (svW (sB B A) w) i := sv_f (svW_n hd)
              rw [← e]
              refine Rn.iincN (lv' := [some (.ref 0), some (.int (nI w)), some (.long (bgS B A)), none, some (.int (nI (cnB (svW (sB B A) w) (i + 1)))), some (.int (nI (i + 1)))]) dX11_sure_59 rfl (by decide) rfl ?_
              refine Rn.goto dX11_sure_62 ?_
              exact ih (i + 1) (by omega)
            · skip
              rw [lg_cmp_eq] at hd
              rw [bg1 hpw (by omega)] at hd
              refine Rn.iload dX11_sure_48 rfl ?_
              refine Rn.iload dX11_sure_50 rfl ?_
              refine Rn.iload_n dX11_sure_52 rfl ?_
              refine Rn.ishr dX11_sure_53 ?_
              refine Rn.iconstv (v := 1) dX11_sure_54 ic_1 ?_
              refine Rn.iand dX11_sure_55 ?_
              refine Rn.iadd dX11_sure_56 ?_
              refine Rn.topI (y := nI (cnB (svW (sB B A) w) (i + 1))) (sv_add hd) ?_
              refine Rn.istore (lv' := [some (.ref 0), some (.int (nI w)), some (.long (bgS B A)), none, some (.int (nI (cnB (svW (sB B A) w) (i + 1)))), some (.int (nI i))]) dX11_sure_57 (by decide) rfl ?_
              refine Rn.iincN (lv' := [some (.ref 0), some (.int (nI w)), some (.long (bgS B A)), none, some (.int (nI (cnB (svW (sB B A) w) (i + 1)))), some (.int (nI (i + 1)))]) dX11_sure_59 rfl (by decide) rfl ?_
              refine Rn.goto dX11_sure_62 ?_
              exact ih (i + 1) (by omega)
      exact loop 64 0 (by omega)
    · skip
      rw [lg_cmp_eq] at h0
      rw [if_pos h0] at hR1
      refine Rn.bipushv (v := -2) dX11_sure_21 bp_m2 ?_
      exact Rn.iret (ty := .int) dX11_sure_23 rfl rfl hR1
  · skip
    refine Rn.iconstv (v := -1) dX11_sure_8 ic_m1 ?_
    exact Rn.iret (ty := .int) dX11_sure_9 rfl rfl (hQ.1 (fun h => (inN_1 (x := x) (k := nw) (lt31 hw6)).elim (fun k => k.2 h) (fun k => absurd (k.1.symm.trans g1) (by decide))))
