theorem wT_n : ∀ w, w < 25 → wOf (w + 1) = wOf w + wLn w + 1 ∧ wOf w + wLn w ≤ 126 ∧ lgB (wOf w + wLn w) = 32 ∧ ∀ j, j < wLn w → lgB (wOf w + j) ≠ 32 := by decide +kernel
theorem wT_x : wOf 25 = 127 ∧ wLn 25 = 0 ∧ wOf 0 = 0 := by decide +kernel
theorem ctX8_init {G : Gx} {l : Launch} {M0 M : Mm} (hZ : Zr M0 M 0 4 (zu z0 2 1 (-1)) [(0, 0, 1)]) : Mt G l mX8_init (6, 1, 25, true) [.ref 3, .ref 1] [.inr 11, .inl (1, 700), .inr 6, .inr 8] M (fun v ly2 K => v = none ∧ ly2 = [.inr 11, .inl (1, 700), .inr 6, .inr 8, .inl (0, 25)] ∧ ∃ Y, Zr M0 K 0 5 Y [(3, 4, 1), (3, 7, 4), (0, 0, 1)] ∧ (∀ i, i < 4 → Y i = (zu z0 2 1 (-1)) i) ∧ ∀ w, w < 25 → Y 4 w = wdP w) := by
  have hl : ([] : Ly).length = 0 := rfl
  refine Mt.of (lv := [some (.ref (0 + 3)), some (.ref (0 + 1)), none, none, none, none, none]) rfl ?_
  refine Rn.aload_n dX8_init_0 rfl ?_
  refine Rn.objInit dX8_init_1 jX8_3 jw_objInit ⟨(Nat.le_of_ble_eq_true rfl), (Nat.le_of_ble_eq_true rfl)⟩ ?_
  refine Rn.aload_n dX8_init_4 rfl ?_
  refine Rn.bipushv (v := 25) dX8_init_5 bp_25 ?_
  refine Rn.newaIZ (N0 := 25) (k := 4) (C := [.inr 11, .inl (1, 700), .inr 6, .inr 8]) (C2 := [.inr 11, .inl (1, 700), .inr 6, .inr 8, .inl (0, 25)]) (ca := 0) (sa := 0) dX8_init_7 rfl (by decide) hl rfl rfl hZ rfl (by decide) (fun N1 z1 => ?_)
  refine Rn.putZR (i := 3) (j := 7) (r := 4) dX8_init_9 fX8_9 rfl rfl rfl rfl (by decide +kernel) hl rfl z1 (by decide) (fun N2 z2 => ?_)
  refine Rn.aload_n dX8_init_12 rfl ?_
  refine Rn.aload_n dX8_init_13 rfl ?_
  refine Rn.putZR (i := 3) (j := 4) (r := 1) dX8_init_14 fX8_15 rfl rfl rfl rfl (by decide +kernel) hl rfl z2 (by decide) (fun N3 z3 => ?_)
  have hx : (2 : UInt32) = 2 ∨ (2 : UInt32) = 3 := Or.inl rfl
  have c3 : ([.inr 11, .inl (1, 700), .inr 6, .inr 8, .inl (0, 25)] : Ly)[3]? = some (.inr 8) := rfl
  have c4 : ([.inr 11, .inl (1, 700), .inr 6, .inr 8, .inl (0, 25)] : Ly)[4]? = some (.inl (0, 25)) := rfl
  have p37 : N3.2.2 3 7 = some 4 := (z3.2.2 (3, 7, 4) (by decide))
  have H : ∀ (k i w : Nat) (g : Nat → Int32), i + k = 127 → w ≤ 25 → wOf w ≤ i → i ≤ wOf w + wLn w → (∀ v, v < w → g v = wdP v) → Rn G l mX8_init (6, 0, 0, true) 27 [some (.ref 3), some (.ref 1), some (.int (nI w)), some (.int (lbS lgB (wOf w) (i - wOf w))), some (.int (nI (i - wOf w))), some (.int (nI i)), none] [] [.inr 11, .inl (1, 700), .inr 6, .inr 8, .inl (0, 25)] (sI N3 4 g) (fun v ly2 K => v = none ∧ ly2 = [.inr 11, .inl (1, 700), .inr 6, .inr 8, .inl (0, 25)] ∧ ∃ Y, Zr M0 K 0 5 Y [(3, 4, 1), (3, 7, 4), (0, 0, 1)] ∧ (∀ i, i < 4 → Y i = (zu z0 2 1 (-1)) i) ∧ ∀ w, w < 25 → Y 4 w = wdP w) := by
    intro k
    induction k with
    | zero =>
      intro i w g hi hw h1 h2 hg
      refine Rn.iload dX8_init_27 rfl ?_
      refine Rn.ldcR dX8_init_29 rfl ?_
      refine Rn.callVE0 dX8_init_31 vX8_21 hx rfl (tJ0_length (x := 2) hx) (by decide) ⟨(Nat.le_of_ble_eq_true rfl), (Nat.le_of_ble_eq_true rfl), (Nat.le_of_ble_eq_true rfl)⟩ (fun _ v9 ly9 M9 hq9 => by rw [hq9.2.1]) (fun v1 ly1 M1 ⟨q1, q2, q3⟩ => ?_)
      rw [q1, q2, q3]
      refine Rn.icmp_ge dX8_init_34 (fun hc => ?_) (fun hc => ?_)
      · skip
        have ew : w = 25 := by
          rcases Nat.lt_or_ge w 25 with h | h
          · have := (wT_n w h).2.1; omega
          · omega
        subst ew
        refine Rn.vret dX8_init_96 rfl ⟨rfl, rfl, fun i => if i = 4 then g else (zu z0 2 1 (-1)) i, ?_, ?_, hg⟩
        · refine ((z3.int (i := 4) (f := g) (Y := fun i => if i = 4 then g else (zu z0 2 1 (-1)) i) (if_pos rfl) (fun k hk hne => if_neg hne)))
        · intro i hi
          exact if_neg (by omega)
      · exact absurd (show (127 : Int32) ≤ nI i from by rw [show i = 127 by omega]; decide) hc
    | succ k ih =>
      intro i w g hi hw h1 h2 hg
      refine Rn.iload dX8_init_27 rfl ?_
      refine Rn.ldcR dX8_init_29 rfl ?_
      refine Rn.callVE0 dX8_init_31 vX8_21 hx rfl (tJ0_length (x := 2) hx) (by decide) ⟨(Nat.le_of_ble_eq_true rfl), (Nat.le_of_ble_eq_true rfl), (Nat.le_of_ble_eq_true rfl)⟩ (fun _ v9 ly9 M9 hq9 => by rw [hq9.2.1]) (fun v1 ly1 M1 ⟨q1, q2, q3⟩ => ?_)
      rw [q1, q2, q3]
      refine Rn.icmp_ge dX8_init_34 (fun hc => ?_) (fun hc => ?_)
      · exact absurd hc (Int32.not_le.mpr ((nI_ltI (a := i) (b := 127) (by omega) (by decide)).mpr (by omega)))
      · skip
        have hw25 : w < 25 := by
          rcases Nat.lt_or_ge w 25 with h | h
          · exact h
          · have e : w = 25 := by omega
            subst e
            have := wT_x.1; omega
        have hT := wT_n w hw25
        refine Rn.iload_n dX8_init_37 rfl ?_
        refine Rn.bipushv (v := 25) dX8_init_38 bp_25 ?_
        refine Rn.icmp_ge dX8_init_40 (fun hd => ?_) (fun hd => ?_)
        · exact absurd hd (Int32.not_le.mpr ((nI_ltI (a := w) (b := 25) (by omega) (by decide)).mpr hw25))
        · skip
          refine Rn.ldcR dX8_init_43 rfl ?_
          refine Rn.iload dX8_init_45 rfl ?_
          refine Rn.callVE1 dX8_init_47 vX8_27 hx rfl (tJ0_charAt (x := 2) (k := i) hx (by omega)) (by decide) ⟨(Nat.le_of_ble_eq_true rfl), (Nat.le_of_ble_eq_true rfl), (Nat.le_of_ble_eq_true rfl)⟩ (fun _ v9 ly9 M9 hq9 => by rw [hq9.2.1]) (fun v1 ly1 M1 ⟨q1, q2, q3⟩ => ?_)
          rw [q1, q2, q3]
          refine Rn.istore (lv' := [some (.ref 3), some (.ref 1), some (.int (nI w)), some (.int (lbS lgB (wOf w) (i - wOf w))), some (.int (nI (i - wOf w))), some (.int (nI i)), some (.int (lgB i))]) dX8_init_50 (by decide) rfl ?_
          refine Rn.iload dX8_init_52 rfl ?_
          refine Rn.bipushv (v := 32) dX8_init_54 bp_32 ?_
          refine Rn.icmp_ne dX8_init_56 (fun he => ?_) (fun he => ?_)
          · skip
            have hlt : i < wOf w + wLn w := by
              rcases Nat.lt_or_ge i (wOf w + wLn w) with h | h
              · exact h
              · have e : i = wOf w + wLn w := by omega
                rw [e] at he
                exact absurd hT.2.2.1 he
            refine Rn.iload_n dX8_init_77 rfl ?_
            refine Rn.iload dX8_init_78 rfl ?_
            refine Rn.iload dX8_init_80 rfl ?_
            refine Rn.callS2 dX8_init_82 vX8_31 (tX8_letterBits (x := lgB i) (k := i - wOf w) (by omega)) (by decide) ⟨(Nat.le_of_ble_eq_true rfl), (Nat.le_of_ble_eq_true rfl), (Nat.le_of_ble_eq_true rfl)⟩ (fun _ v9 ly9 M9 hq9 => by rw [hq9.2.1]) (fun v1 ly1 M1 ⟨q1, q2, q3⟩ => ?_)
            rw [q1, q2, q3]
            refine Rn.ior dX8_init_85 ?_
            refine Rn.istore_n (lv' := [some (.ref 3), some (.ref 1), some (.int (nI w)), some (.int ((lbS lgB (wOf w) (i - wOf w)) ||| (ltB (lgB i) (i - wOf w)))), some (.int (nI (i - wOf w))), some (.int (nI i)), some (.int (lgB i))]) dX8_init_86 (by decide) rfl ?_
            refine Rn.iincN (lv' := [some (.ref 3), some (.ref 1), some (.int (nI w)), some (.int ((lbS lgB (wOf w) (i - wOf w)) ||| (ltB (lgB i) (i - wOf w)))), some (.int (nI ((i - wOf w) + 1))), some (.int (nI i)), some (.int (lgB i))]) dX8_init_87 rfl (by decide) rfl ?_
            refine Rn.iincN (lv' := [some (.ref 3), some (.ref 1), some (.int (nI w)), some (.int ((lbS lgB (wOf w) (i - wOf w)) ||| (ltB (lgB i) (i - wOf w)))), some (.int (nI ((i - wOf w) + 1))), some (.int (nI (i + 1))), some (.int (lgB i))]) dX8_init_90 rfl (by decide) rfl ?_
            refine Rn.goto dX8_init_93 ?_
            refine Rn.forget (lv' := [some (.ref 3), some (.ref 1), some (.int (nI w)), some (.int ((lbS lgB (wOf w) (i - wOf w)) ||| (ltB (lgB i) (i - wOf w)))), some (.int (nI ((i - wOf w) + 1))), some (.int (nI (i + 1))), none]) (⟨rfl, ⟨rfl, ⟨rfl, ⟨rfl, ⟨rfl, ⟨rfl, trivial⟩⟩⟩⟩⟩⟩) ?_
            have e1 : i - wOf w + 1 = i + 1 - wOf w := by omega
            have e2 : lbS lgB (wOf w) (i - wOf w) ||| ltB (lgB i) (i - wOf w) = lbS lgB (wOf w) (i + 1 - wOf w) := by
              rw [← e1]
              show _ = lbS lgB (wOf w) (i - wOf w) ||| ltB (lgB (wOf w + (i - wOf w))) (i - wOf w)
              rw [show wOf w + (i - wOf w) = i by omega]
            rw [e1, e2]
            exact ih (i + 1) w g (by omega) hw (by omega) (by omega) hg
          · skip
            have heq : i = wOf w + wLn w := by
              rcases Nat.lt_or_ge i (wOf w + wLn w) with h | h
              · have := hT.2.2.2 (i - wOf w) (by omega)
                rw [show wOf w + (i - wOf w) = i by omega] at this
                exact absurd he this
              · omega
            refine Rn.aload_n dX8_init_59 rfl ?_
            refine Rn.getR dX8_init_60 fX8_9 rfl c3 (show N3.2.2 3 7 = some 4 from p37) ?_
            refine Rn.iload_n dX8_init_63 rfl ?_
            refine Rn.iload_n dX8_init_64 rfl ?_
            refine Rn.iastN (k0 := w) dX8_init_65 c4 (by omega) (by decide) ?_
            refine Rn.meq (M2 := sI N3 4 (upd g w (lbS lgB (wOf w) (i - wOf w)))) (sI_sI _ _ _ _) ?_
            refine Rn.iincN (lv' := [some (.ref 3), some (.ref 1), some (.int (nI (w + 1))), some (.int (lbS lgB (wOf w) (i - wOf w))), some (.int (nI (i - wOf w))), some (.int (nI i)), some (.int (lgB i))]) dX8_init_66 rfl (by decide) rfl ?_
            refine Rn.iconstv (v := 0) dX8_init_69 ic_0 ?_
            refine Rn.istore_n (lv' := [some (.ref 3), some (.ref 1), some (.int (nI (w + 1))), some (.int 0), some (.int (nI (i - wOf w))), some (.int (nI i)), some (.int (lgB i))]) dX8_init_70 (by decide) rfl ?_
            refine Rn.iconstv (v := 0) dX8_init_71 ic_0 ?_
            refine Rn.istore (lv' := [some (.ref 3), some (.ref 1), some (.int (nI (w + 1))), some (.int 0), some (.int 0), some (.int (nI i)), some (.int (lgB i))]) dX8_init_72 (by decide) rfl ?_
            refine Rn.goto dX8_init_74 ?_
            refine Rn.iincN (lv' := [some (.ref 3), some (.ref 1), some (.int (nI (w + 1))), some (.int 0), some (.int 0), some (.int (nI (i + 1))), some (.int (lgB i))]) dX8_init_90 rfl (by decide) rfl ?_
            refine Rn.goto dX8_init_93 ?_
            refine Rn.forget (lv' := [some (.ref 3), some (.ref 1), some (.int (nI (w + 1))), some (.int 0), some (.int 0), some (.int (nI (i + 1))), none]) (⟨rfl, ⟨rfl, ⟨rfl, ⟨rfl, ⟨rfl, ⟨rfl, trivial⟩⟩⟩⟩⟩⟩) ?_
            have hh := ih (i + 1) (w + 1) (upd g w (lbS lgB (wOf w) (i - wOf w))) (by omega) (by omega) (by omega) (by omega) (fun v hv => by
              by_cases e : v = w
              · subst e
                rw [pk_us, show i - wOf v = wLn v by omega]
                rfl
              · rw [pk_un e]; exact hg v (by omega))
            rw [show i + 1 - wOf (w + 1) = 0 by omega] at hh
            exact hh
  refine Rn.iconstv (v := 0) dX8_init_17 ic_0 ?_
  refine Rn.istore_n (lv' := [some (.ref 3), some (.ref 1), some (.int 0), none, none, none, none]) dX8_init_18 (by decide) rfl ?_
  refine Rn.iconstv (v := 0) dX8_init_19 ic_0 ?_
  refine Rn.istore_n (lv' := [some (.ref 3), some (.ref 1), some (.int 0), some (.int 0), none, none, none]) dX8_init_20 (by decide) rfl ?_
  refine Rn.iconstv (v := 0) dX8_init_21 ic_0 ?_
  refine Rn.istore (lv' := [some (.ref 3), some (.ref 1), some (.int 0), some (.int 0), some (.int 0), none, none]) dX8_init_22 (by decide) rfl ?_
  refine Rn.iconstv (v := 0) dX8_init_24 ic_0 ?_
  refine Rn.istore (lv' := [some (.ref 3), some (.ref 1), some (.int 0), some (.int 0), some (.int 0), some (.int 0), none]) dX8_init_25 (by decide) rfl ?_
  refine Rn.meq (M2 := sI N3 4 (N3.1 4)) (Eq.symm (sI_sf rfl)) ?_
  have hh := H 127 0 0 (N3.1 4) rfl (by decide) (by rw [wT_x.2.2]; exact Nat.le_refl 0) (Nat.zero_le _) (fun v hv => absurd hv (Nat.not_lt_zero v))
  rw [show 0 - wOf 0 = 0 from Nat.zero_sub _] at hh
  exact hh
theorem Zr.more {M0 M : Mm} {a n : Nat} {Z : Nat → Nat → Int32} {P R : List (Nat × Nat × Nat)} (h : Zr M0 M a n Z P) (g : ∀ q ∈ R, M.2.2 (a + q.1) q.2.1 = some (a + q.2.2)) : Zr M0 M a n Z (R ++ P) := ⟨h.1, h.2.1, fun q hq => (List.mem_append.mp hq).elim (g q) (h.2.2 q)⟩
theorem Zr.sub {M0 M : Mm} {a n : Nat} {Z : Nat → Nat → Int32} {P R : List (Nat × Nat × Nat)} (h : Zr M0 M a n Z P) (g : ∀ q ∈ R, q ∈ P) : Zr M0 M a n Z R := ⟨h.1, h.2.1, fun q hq => h.2.2 q (g q hq)⟩
theorem ctX3_init {G : Gx} {l : Launch} {M0 M : Mm} {Y : Nat → Nat → Int32} (hZ : Zr M0 M 0 6 (zj 0 5 z0 Y) [(2, 2, 3), (3, 4, 1), (3, 7, 4), (0, 0, 1)]) : Mt G l mX3_init (1, 1, 72, true) [.ref 5, .ref 3] [.inr 11, .inl (1, 700), .inr 6, .inr 8, .inl (0, 25), .inr 3] M (fun v ly2 K => v = none ∧ ly2 = [.inr 11, .inl (1, 700), .inr 6, .inr 8, .inl (0, 25), .inr 3, .inl (0, 72)] ∧ Zr M0 K 0 7 (zj 0 5 z0 Y) [(5, 0, 3), (5, 3, 6), (2, 2, 3), (3, 4, 1), (3, 7, 4), (0, 0, 1)]) := by
  have hl : ([] : Ly).length = 0 := rfl
  refine Mt.of (lv := [some (.ref (0 + 5)), some (.ref (0 + 3))]) rfl ?_
  refine Rn.aload_n dX3_init_0 rfl ?_
  refine Rn.objInit dX3_init_1 jX3_3 jw_objInit ⟨(Nat.le_of_ble_eq_true rfl), (Nat.le_of_ble_eq_true rfl)⟩ ?_
  refine Rn.aload_n dX3_init_4 rfl ?_
  refine Rn.bipushv (v := 72) dX3_init_5 bp_72 ?_
  refine Rn.newaIZ (N0 := 72) (k := 6) (C := [.inr 11, .inl (1, 700), .inr 6, .inr 8, .inl (0, 25), .inr 3]) (C2 := [.inr 11, .inl (1, 700), .inr 6, .inr 8, .inl (0, 25), .inr 3, .inl (0, 72)]) (ca := 0) (sa := 0) dX3_init_7 rfl (by decide) hl rfl rfl hZ rfl (by decide) (fun N1 z1 => ?_)
  refine Rn.putZR (i := 5) (j := 3) (r := 6) dX3_init_9 fX3_9 rfl rfl rfl rfl (by decide +kernel) hl rfl z1 (by decide) (fun N2 z2 => ?_)
  refine Rn.aload_n dX3_init_12 rfl ?_
  refine Rn.aload_n dX3_init_13 rfl ?_
  refine Rn.putZR (i := 5) (j := 0) (r := 3) dX3_init_14 fX3_15 rfl rfl rfl rfl (by decide +kernel) hl rfl z2 (by decide) (fun N3 z3 => ?_)
  exact Rn.vret dX3_init_17 rfl ⟨rfl, rfl, z3⟩
theorem ctX6_init {G : Gx} {l : Launch} {M0 M : Mm} (hZ : Zr M0 M 0 3 z0 [(0, 0, 1)]) : Mt G l mX6_init (7, 4, 114, true) [.ref 2, .ref 1] [.inr 11, .inl (1, 700), .inr 6] M (fun v ly2 K => v = none ∧ ly2 = [.inr 11, .inl (1, 700), .inr 6, .inr 8, .inl (0, 25), .inr 3, .inl (0, 72)] ∧ ∃ Y, Zr M0 K 0 7 Y [(2, 3, 5), (5, 0, 3), (5, 3, 6), (2, 2, 3), (3, 4, 1), (3, 7, 4), (0, 0, 1)] ∧ (∀ i, i < 7 → i ≠ 4 → Y i = (zu z0 2 1 (-1)) i) ∧ ∀ w, w < 25 → Y 4 w = wdP w) := by
  have hl : ([] : Ly).length = 0 := rfl
  refine Mt.of (lv := [some (.ref (0 + 2)), some (.ref (0 + 1))]) rfl ?_
  refine Rn.aload_n dX6_init_0 rfl ?_
  refine Rn.objInit dX6_init_1 jX6_3 jw_objInit ⟨(Nat.le_of_ble_eq_true rfl), (Nat.le_of_ble_eq_true rfl)⟩ ?_
  refine Rn.aload_n dX6_init_4 rfl ?_
  refine Rn.iconstv (v := -1) dX6_init_5 ic_m1 ?_
  refine Rn.putZI (i := 2) (j := 1) (Y := zu z0 2 1 (-1)) dX6_init_6 fX6_9 rfl rfl rfl hl rfl hZ (by decide) rfl (by intro q h1 h2; unfold zu; rw [if_neg h2]) (fun N1 z1 => ?_)
  refine Rn.aload_n dX6_init_9 rfl ?_
  refine Rn.newZ (ci := 8) (k := 3) (C := [.inr 11, .inl (1, 700), .inr 6]) (C2 := [.inr 11, .inl (1, 700), .inr 6, .inr 8]) (ca := 3) (sa := 106) dX6_init_10 nX6_15 hl rfl rfl z1 rfl (by decide) (fun N2 z2 u2 => ?_)
  refine Rn.dup dX6_init_13 rfl ?_
  refine Rn.aload_n dX6_init_14 rfl ?_
  refine Rn.callIn1 (ca := 2) (sa := 81) (ca' := 1) (sa' := 25) dX6_init_15 vX6_17 (ctX8_init z2) rfl (by decide) ⟨(Nat.le_of_ble_eq_true rfl), (Nat.le_of_ble_eq_true rfl), (Nat.le_of_ble_eq_true rfl)⟩ (fun h => h) (fun _ v9 ly9 M9 hq9 => by rw [hq9.2.1]; rfl) (fun v ly1 K hq => ?_)
  obtain ⟨rfl, rfl, Y, hY, hy1, hy2⟩ := hq
  have hY5 : Zr M0 K 0 5 (zj 0 5 z0 Y) [(3, 4, 1), (3, 7, 4), (0, 0, 1)] := hY.eqv (fun i hi => by show Y i = (if i < 0 then _ else if i < 0 + 5 then Y (i - 0) else _); rw [if_neg (by omega), if_pos (by omega)]; rfl)
  show Rn G l mX6_init (7, 2, 81, true) 18 [some (.ref (0 + 2)), some (.ref (0 + 1))] [.ref (0 + 3), .ref (0 + 2)] ([] ++ [.inr 11, .inl (1, 700), .inr 6, .inr 8, .inl (0, 25)]) K _
  refine Rn.putZR (i := 2) (j := 2) (r := 3) dX6_init_18 fX6_20 rfl rfl rfl rfl (by decide +kernel) hl rfl hY5 (by decide) (fun N3 z3 => ?_)
  refine Rn.aload_n dX6_init_21 rfl ?_
  refine Rn.newZ (ci := 3) (k := 5) (C := [.inr 11, .inl (1, 700), .inr 6, .inr 8, .inl (0, 25)]) (C2 := [.inr 11, .inl (1, 700), .inr 6, .inr 8, .inl (0, 25), .inr 3]) (ca := 1) (sa := 72) dX6_init_22 nX6_24 hl rfl rfl z3 rfl (by decide) (fun N4 z4 u4 => ?_)
  refine Rn.dup dX6_init_25 rfl ?_
  refine Rn.aload_n dX6_init_26 rfl ?_
  refine Rn.getZR (i := 2) (j := 2) (r := 3) dX6_init_27 fX6_20 rfl hl rfl z4 (by decide) ?_
  refine Rn.callIn1 (ca := 0) (sa := 0) (ca' := 1) (sa' := 72) dX6_init_30 vX6_26 (ctX3_init z4) rfl (by decide) ⟨(Nat.le_of_ble_eq_true rfl), (Nat.le_of_ble_eq_true rfl), (Nat.le_of_ble_eq_true rfl)⟩ (fun h => h) (fun _ v9 ly9 M9 hq9 => by rw [hq9.2.1]; rfl) (fun v ly1 K2 hq => ?_)
  obtain ⟨rfl, rfl, hF⟩ := hq
  show Rn G l mX6_init (7, 0, 0, true) 33 [some (.ref (0 + 2)), some (.ref (0 + 1))] [.ref (0 + 5), .ref (0 + 2)] ([] ++ [.inr 11, .inl (1, 700), .inr 6, .inr 8, .inl (0, 25), .inr 3, .inl (0, 72)]) K2 _
  refine Rn.putZR (i := 2) (j := 3) (r := 5) dX6_init_33 fX6_29 rfl rfl rfl rfl (by decide +kernel) hl rfl hF (by decide) (fun N5 z5 => ?_)
  refine Rn.vret dX6_init_36 rfl ⟨rfl, rfl, zj 0 5 z0 Y, z5, ?_, ?_⟩
  · intro i hi hne
    by_cases h5 : i < 5
    · show (if i < 0 then _ else if i < 0 + 5 then Y (i - 0) else _) = _; rw [if_neg (by omega), if_pos (by omega)]; exact hy1 i (by omega)
    · show (if i < 0 then _ else if i < 0 + 5 then Y (i - 0) else _) = (if i = 2 then _ else z0 i); rw [if_neg (by omega), if_neg (by omega), if_neg (by omega)]; rfl
  · exact fun w hw => hy2 w hw
