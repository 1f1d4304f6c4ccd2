/-- where walkers are, steps, stages, what pushes up and sideways -/
abbrev W5 : Type := (Nat → Int32) × (Nat → Int32) × (Nat → Int32) × (Nat → Int32) × (Nat → Int32)
/-- the cell of a step that is the k-th -/
def cellW (n wy sy at_ k : Int32) : Int32 := if k = 1 then fstC wy sy n else at_ + wy
def offW (n c lost : Int32) : Prop := c < 0 ∨ n ≤ c ∨ (lost >>> (c &&& 31)) &&& 1 = 1
/-- a step goes off -/
def goW (w : Nat) (s : W5) : W5 := (s.1, upd s.2.1 w (s.2.1 w + 1), upd s.2.2.1 w 2, s.2.2.2.1, s.2.2.2.2)
/-- a step to the cell c: pu, pv what it pushes -/
def onW (w c : Nat) (upo pu pv : Int32) (s : W5) : W5 := (upd s.1 w (nI c), upd s.2.1 w (s.2.1 w + 1), upd s.2.2.1 w 1, upd s.2.2.2.1 c (s.2.2.2.1 c - pu), if upo = 0 then upd s.2.2.2.2 c (s.2.2.2.2 c + (if (s.2.1 w + 1) &&& 1 = 1 then pv else -pv)) else s.2.2.2.2)
theorem valL_congr {nm nm' kn : Nat → Int32} {n : Nat} (h : ∀ j, j < 6 → nm j = nm' j) : valL nm kn n = valL nm' kn n := by
  have hs : ∀ (k : Int32) (s : List Int64), stepL nm k s = stepL nm' k s := by
    intro k s
    unfold stepL
    by_cases h1 : (-1) - k < 0
    · rw [if_pos h1, if_pos h1]
    · rw [if_neg h1, if_neg h1]
      by_cases h2 : 19 ≤ (-1) - k ∧ (-1) - k ≤ 24
      · rw [if_pos h2, if_pos h2, h]
        have := nm_in h2.1 h2.2
        exact Nat.not_le.mp fun q => this (Or.inr q)
      · rw [if_neg h2, if_neg h2]
  have he : (fun i => stepL nm (kn i)) = (fun i => stepL nm' (kn i)) := by
    funext i s
    exact hs (kn i) s
  unfold valL evL
  rw [he]
def vW (I : Nat → Nat → Int32) (a : Nat) : W5 := (I (a + 9), I (a + 10), I (a + 11), I (a + 4), I (a + 8))
/-- what a step makes of the walkers' rows -/
def stW (n tim het lost upo : Int32) (ou wt wy sy : Nat → Int32) (pv sv : (Nat → Int32) → Int64) (w : Nat) (s s' : W5) : Prop :=
  (offW n (cellW n (wy w) (sy w) (s.1 w) (s.2.1 w + 1)) lost ∧ s' = goW w s) ∨
  (¬ offW n (cellW n (wy w) (sy w) (s.1 w) (s.2.1 w + 1)) lost ∧ ∃ c : Nat, c < 12 ∧ cellW n (wy w) (sy w) (s.1 w) (s.2.1 w + 1) = nI c ∧ s' = onW w c upo (frc (pv (nmv (wt w) tim (nI c) (ou c) ((s.2.1 w + 1) &&& 1) het)) (wt w)) (frc (sv (nmv (wt w) tim (nI c) (ou c) ((s.2.1 w + 1) &&& 1) het)) 0) s)
theorem sd_pos {upo pv k : Int32} {f : Nat → Int32} {c : Nat} (h : upo = 0) (hk : k = 1) : upd f c (f c + pv) = (if upo = 0 then upd f c (f c + (if k = 1 then pv else -pv)) else f) := by rw [if_pos h, if_pos hk]
theorem sd_neg {upo pv k : Int32} {f : Nat → Int32} {c : Nat} (h : upo = 0) (hk : ¬ k = 1) : upd f c (f c + -pv) = (if upo = 0 then upd f c (f c + (if k = 1 then pv else -pv)) else f) := by rw [if_pos h, if_neg hk]
theorem W5_eq {a b c d e a' b' c' d' e' : Nat → Int32} (h1 : a = a') (h2 : b = b') (h3 : c = c') (h4 : d = d') (h5 : e = e') : ((a, b, c, d, e) : W5) = (a', b', c', d', e') := by
  rw [h1, h2, h3, h4, h5]
theorem nmv_up {g : Nat → Int32} {x0 x1 x2 x3 x4 x5 : Int32} : ∀ j, j < 6 → upd (upd (upd (upd (upd (upd g 0 x0) 1 x1) 2 x2) 3 x3) 4 x4) 5 x5 j = nmv x0 x1 x2 x3 x4 x5 j
  | 0, _ => rfl
  | 1, _ => rfl
  | 2, _ => rfl
  | 3, _ => rfl
  | 4, _ => rfl
  | 5, _ => rfl
  | n + 6, h => absurd h (by omega)
theorem tX9_step {G : Gx} {l : Launch} {ly : Ly} {M : Mm} {a p c u v n nu nv w : Nat} (hS : iScene ly M a) (hw : w < 6) (h0 : M.2.2 a 0 = some p) (hp : ly[p]? = some (.inr 7)) (hpa : p < a ∨ a + 16 < p) (hn : M.1 p 0 = nI n) (hn12 : n ≤ 12) (h1 : M.2.2 a 1 = some c) (hcr : iCrowd ly M c) (hca : c + 5 < a ∨ a + 16 < c) (h2 : M.2.2 a 2 = some u) (hlu : iLaw ly M u) (hua : u + 2 < a ∨ a + 16 < u) (h3 : M.2.2 a 3 = some v) (hlv : iLaw ly M v) (hva : v + 2 < a ∨ a + 16 < v) (hnu : M.1 u 0 = nI nu) (hnu64 : nu ≤ 64) (hnv : M.1 v 0 = nI nv) (hnv64 : nv ≤ 64) {Q : Qt} (hQ : ∀ (I : Nat → Nat → Int32) (L : Nat → Nat → Int64), (∀ k, (k < a ∨ a + 16 < k ∨ k = a ∨ k = a + 2 ∨ k = a + 3 ∨ k = a + 6 ∨ k = a + 7 ∨ k = a + 12 ∨ k = a + 13 ∨ k = a + 14 ∨ k = a + 15) → I k = M.1 k) → stW (nI n) (M.1 a 14) (M.1 a 4) (M.1 a 7) (M.1 a 17) (M.1 (a + 2)) (M.1 (c + 1)) (M.1 (c + 4)) (M.1 (c + 5)) (fun m => valL m (M.1 (u + 1)) nu) (fun m => valL m (M.1 (v + 1)) nv) w (vW M.1 a) (vW I a) → Q none ly (I, L, M.2.2)) : Mt G l mX9_step (4, 0, 0, false) [.ref a, .int (nI w)] ly M Q := by
  have hS0 := hS
  obtain ⟨s0, s1, s2, s3, s4, s5, s6, s7, s8, s9, s10, s11, s12, s13, s14, s15, s16, e0_5, e0_6, e0_8, e0_9, e0_10, e0_11, e0_12, e0_13, e1_0, e1_1, e1_2, e5_0, e5_1, e5_2, e12_1, e12_2⟩ := hS
  have hcr0 := hcr
  obtain ⟨c0, c1, c2, c3, c4, c5, d0, d1, d2, d3, d4⟩ := hcr
  refine Mt.of (lv := [some (.ref a), some (.int (nI w)), none, none, none, none]) rfl ?_
  refine Rn.aload_n dX9_step_0 rfl ?_
  refine Rn.getR dX9_step_1 fX9_25 rfl s0 e0_9 ?_
  refine Rn.iload_n dX9_step_4 rfl ?_
  refine Rn.dup2 dX9_step_5 rfl rfl ?_
  refine Rn.ialdN (k0 := w) dX9_step_6 s10 hw (by decide) ?_
  refine Rn.iconstv (v := 1) dX9_step_7 ic_1 ?_
  refine Rn.iadd dX9_step_8 ?_
  refine Rn.iastN (k0 := w) dX9_step_9 s10 hw (by decide) ?_
  refine Rn.aload_n dX9_step_10 rfl ?_
  refine Rn.getR dX9_step_11 fX9_25 rfl s0 e0_9 ?_
  refine Rn.iload_n dX9_step_14 rfl ?_
  refine Rn.ialdN (k0 := w) dX9_step_15 s10 hw (by decide) ?_
  refine Rn.topI (y := (M.1 (a + 10) w) + 1) ((congrFun (sI_at _ _ _) w).trans (pk_us)) ?_
  refine Rn.iconstv (v := 1) dX9_step_16 ic_1 ?_
  have join : ∀ x : Int32, x = cellW (nI n) (M.1 (c + 4) w) (M.1 (c + 5) w) (M.1 (a + 9) w) (M.1 (a + 10) w + 1) → Rn G l mX9_step (4, 0, 0, false) 54 [some (.ref a), some (.int (nI w)), none, none, none, none] [.int x] ly (sI M (a + 10) (upd (M.1 (a + 10)) w ((M.1 (a + 10) w) + 1))) Q := by
    intro x hx
    refine Rn.istore_n (lv' := [some (.ref a), some (.int (nI w)), some (.int x), none, none, none]) dX9_step_54 (by decide) rfl ?_
    refine Rn.iload_n dX9_step_55 rfl ?_
    refine Rn.if_lt dX9_step_56 (fun g1 => ?_) (fun g1 => ?_)
    · skip
      refine Rn.aload_n dX9_step_82 rfl ?_
      refine Rn.getR dX9_step_83 fX9_28 rfl s0 e0_10 ?_
      refine Rn.iload_n dX9_step_86 rfl ?_
      refine Rn.iconstv (v := 2) dX9_step_87 ic_2 ?_
      refine Rn.iastN (k0 := w) dX9_step_88 s11 hw (by decide) ?_
      refine Rn.meq (M2 := sI (sI M (a + 10) (upd (M.1 (a + 10)) w ((M.1 (a + 10) w) + 1))) (a + 11) (upd (M.1 (a + 11)) w 2)) (congrArg (fun r9 => sI (sI M (a + 10) (upd (M.1 (a + 10)) w ((M.1 (a + 10) w) + 1))) (a + 11) (upd r9 w 2)) (sI_ne (show a + 11 ≠ a + 10 by omega))) ?_
      refine Rn.vret dX9_step_89 rfl (hQ _ _ (fun k hk => ?_) (Or.inl ⟨by show offW (nI n) (cellW (nI n) (M.1 (c + 4) w) (M.1 (c + 5) w) (M.1 (a + 9) w) (M.1 (a + 10) w + 1)) (M.1 a 7); rw [← hx]; exact Or.inl g1, ?_⟩))
      · exact (sI_ne (by omega)).trans (sI_ne (by omega))
      · show (_, _, _, _, _) = (_, _, _, _, _)
        exact W5_eq ((sI_ne (show a + 9 ≠ a + 11 by omega)).trans (sI_ne (show a + 9 ≠ a + 10 by omega))) ((sI_ne (show a + 10 ≠ a + 11 by omega)).trans (sI_at _ _ _)) (sI_at _ _ _) ((sI_ne (show a + 4 ≠ a + 11 by omega)).trans (sI_ne (show a + 4 ≠ a + 10 by omega))) ((sI_ne (show a + 8 ≠ a + 11 by omega)).trans (sI_ne (show a + 8 ≠ a + 10 by omega)))
    · skip
      refine Rn.iload_n dX9_step_59 rfl ?_
      refine Rn.aload_n dX9_step_60 rfl ?_
      refine Rn.getR dX9_step_61 fX9_48 rfl s0 h0 ?_
      refine Rn.getI dX9_step_64 fX9_144 rfl hp ?_
      refine Rn.topI (y := M.1 p 0) ((congrFun (sI_ne (show p ≠ a + 10 by omega)) 0)) ?_
      refine Rn.topI (y := nI n) (hn) ?_
      refine Rn.icmp_ge dX9_step_67 (fun g2 => ?_) (fun g2 => ?_)
      · skip
        refine Rn.aload_n dX9_step_82 rfl ?_
        refine Rn.getR dX9_step_83 fX9_28 rfl s0 e0_10 ?_
        refine Rn.iload_n dX9_step_86 rfl ?_
        refine Rn.iconstv (v := 2) dX9_step_87 ic_2 ?_
        refine Rn.iastN (k0 := w) dX9_step_88 s11 hw (by decide) ?_
        refine Rn.meq (M2 := sI (sI M (a + 10) (upd (M.1 (a + 10)) w ((M.1 (a + 10) w) + 1))) (a + 11) (upd (M.1 (a + 11)) w 2)) (congrArg (fun r9 => sI (sI M (a + 10) (upd (M.1 (a + 10)) w ((M.1 (a + 10) w) + 1))) (a + 11) (upd r9 w 2)) (sI_ne (show a + 11 ≠ a + 10 by omega))) ?_
        refine Rn.vret dX9_step_89 rfl (hQ _ _ (fun k hk => ?_) (Or.inl ⟨by show offW (nI n) (cellW (nI n) (M.1 (c + 4) w) (M.1 (c + 5) w) (M.1 (a + 9) w) (M.1 (a + 10) w + 1)) (M.1 a 7); rw [← hx]; exact Or.inr (Or.inl g2), ?_⟩))
        · exact (sI_ne (by omega)).trans (sI_ne (by omega))
        · show (_, _, _, _, _) = (_, _, _, _, _)
          exact W5_eq ((sI_ne (show a + 9 ≠ a + 11 by omega)).trans (sI_ne (show a + 9 ≠ a + 10 by omega))) ((sI_ne (show a + 10 ≠ a + 11 by omega)).trans (sI_at _ _ _)) (sI_at _ _ _) ((sI_ne (show a + 4 ≠ a + 11 by omega)).trans (sI_ne (show a + 4 ≠ a + 10 by omega))) ((sI_ne (show a + 8 ≠ a + 11 by omega)).trans (sI_ne (show a + 8 ≠ a + 10 by omega)))
      · skip
        refine Rn.aload_n dX9_step_70 rfl ?_
        refine Rn.getI dX9_step_71 fX9_98 rfl s0 ?_
        refine Rn.topI (y := M.1 a 7) ((congrFun (sI_ne (show a ≠ a + 10 by omega)) 7)) ?_
        refine Rn.iload_n dX9_step_74 rfl ?_
        refine Rn.ishr dX9_step_75 ?_
        refine Rn.iconstv (v := 1) dX9_step_76 ic_1 ?_
        refine Rn.iand dX9_step_77 ?_
        refine Rn.iconstv (v := 1) dX9_step_78 ic_1 ?_
        refine Rn.icmp_ne dX9_step_79 (fun g3 => ?_) (fun g3 => ?_)
        · skip
          obtain ⟨ce, hce, rfl⟩ : ∃ ce : Nat, ce < n ∧ x = nI ce := by
            rcases pk_ix x (n := n) (by omega) with h | h | h
            · exact absurd h g1
            · exact absurd h g2
            · exact h
          have hoff : ¬ offW (nI n) (cellW (nI n) (M.1 (c + 4) w) (M.1 (c + 5) w) (M.1 (a + 9) w) (M.1 (a + 10) w + 1)) (M.1 a 7) := by rw [← hx]; exact fun h => h.elim g1 (fun h => h.elim g2 g3)
          refine Rn.aload_n dX9_step_90 rfl ?_
          refine Rn.getR dX9_step_91 fX9_21 rfl s0 e0_8 ?_
          refine Rn.iload_n dX9_step_94 rfl ?_
          refine Rn.iload_n dX9_step_95 rfl ?_
          refine Rn.iastN (k0 := w) dX9_step_96 s9 hw (by decide) ?_
          refine Rn.meq (M2 := sI (sI M (a + 10) (upd (M.1 (a + 10)) w ((M.1 (a + 10) w) + 1))) (a + 9) (upd (M.1 (a + 9)) w (nI ce))) (congrArg (fun r9 => sI (sI M (a + 10) (upd (M.1 (a + 10)) w ((M.1 (a + 10) w) + 1))) (a + 9) (upd r9 w (nI ce))) (sI_ne (show a + 9 ≠ a + 10 by omega))) ?_
          refine Rn.aload_n dX9_step_97 rfl ?_
          refine Rn.getR dX9_step_98 fX9_28 rfl s0 e0_10 ?_
          refine Rn.iload_n dX9_step_101 rfl ?_
          refine Rn.iconstv (v := 1) dX9_step_102 ic_1 ?_
          refine Rn.iastN (k0 := w) dX9_step_103 s11 hw (by decide) ?_
          refine Rn.meq (M2 := sI (sI (sI M (a + 10) (upd (M.1 (a + 10)) w ((M.1 (a + 10) w) + 1))) (a + 9) (upd (M.1 (a + 9)) w (nI ce))) (a + 11) (upd (M.1 (a + 11)) w 1)) (congrArg (fun r9 => sI (sI (sI M (a + 10) (upd (M.1 (a + 10)) w ((M.1 (a + 10) w) + 1))) (a + 9) (upd (M.1 (a + 9)) w (nI ce))) (a + 11) (upd r9 w 1)) ((sI_ne (show a + 11 ≠ a + 9 by omega)).trans (sI_ne (show a + 11 ≠ a + 10 by omega)))) ?_
          refine Rn.aload_n dX9_step_104 rfl ?_
          refine Rn.getR dX9_step_105 fX9_58 rfl s0 h1 ?_
          refine Rn.getR dX9_step_108 fX9_190 rfl c0 d0 ?_
          refine Rn.iload_n dX9_step_111 rfl ?_
          refine Rn.ialdN (k0 := w) dX9_step_112 c1 hw (by decide) ?_
          refine Rn.topI (y := M.1 (c + 1) w) ((congrFun ((sI_ne (show c + 1 ≠ a + 11 by omega)).trans ((sI_ne (show c + 1 ≠ a + 9 by omega)).trans (sI_ne (show c + 1 ≠ a + 10 by omega)))) w)) ?_
          refine Rn.istore_n (lv' := [some (.ref a), some (.int (nI w)), some (.int (nI ce)), some (.int (M.1 (c + 1) w)), none, none]) dX9_step_113 (by decide) rfl ?_
          refine Rn.aload_n dX9_step_114 rfl ?_
          refine Rn.getR dX9_step_115 fX9_25 rfl s0 e0_9 ?_
          refine Rn.iload_n dX9_step_118 rfl ?_
          refine Rn.ialdN (k0 := w) dX9_step_119 s10 hw (by decide) ?_
          refine Rn.topI (y := (M.1 (a + 10) w) + 1) ((congrFun ((sI_ne (show a + 10 ≠ a + 11 by omega)).trans ((sI_ne (show a + 10 ≠ a + 9 by omega)).trans (sI_at _ _ _))) w).trans (pk_us)) ?_
          refine Rn.iconstv (v := 1) dX9_step_120 ic_1 ?_
          refine Rn.iand dX9_step_121 ?_
          refine Rn.istore (lv' := [some (.ref a), some (.int (nI w)), some (.int (nI ce)), some (.int (M.1 (c + 1) w)), some (.int (((M.1 (a + 10) w) + 1) &&& 1)), none]) dX9_step_122 (by decide) rfl ?_
          refine Rn.aload_n dX9_step_124 rfl ?_
          refine Rn.iload_n dX9_step_125 rfl ?_
          refine Rn.iload_n dX9_step_126 rfl ?_
          refine Rn.iload dX9_step_127 rfl ?_
          have y0 : (sI (sI (sI M (a + 10) (upd (M.1 (a + 10)) w ((M.1 (a + 10) w) + 1))) (a + 9) (upd (M.1 (a + 9)) w (nI ce))) (a + 11) (upd (M.1 (a + 11)) w 1)).1 a = M.1 a := (sI_ne (show a ≠ a + 11 by omega)).trans ((sI_ne (show a ≠ a + 9 by omega)).trans (sI_ne (show a ≠ a + 10 by omega)))
          have y2 : (sI (sI (sI M (a + 10) (upd (M.1 (a + 10)) w ((M.1 (a + 10) w) + 1))) (a + 9) (upd (M.1 (a + 9)) w (nI ce))) (a + 11) (upd (M.1 (a + 11)) w 1)).1 (a + 2) = M.1 (a + 2) := (sI_ne (show a + 2 ≠ a + 11 by omega)).trans ((sI_ne (show a + 2 ≠ a + 9 by omega)).trans (sI_ne (show a + 2 ≠ a + 10 by omega)))
          have y16 : (sI (sI (sI M (a + 10) (upd (M.1 (a + 10)) w ((M.1 (a + 10) w) + 1))) (a + 9) (upd (M.1 (a + 9)) w (nI ce))) (a + 11) (upd (M.1 (a + 11)) w 1)).1 (a + 16) = M.1 (a + 16) := (sI_ne (show a + 16 ≠ a + 11 by omega)).trans ((sI_ne (show a + 16 ≠ a + 9 by omega)).trans (sI_ne (show a + 16 ≠ a + 10 by omega)))
          refine Rn.callV3 dX9_step_129 vX9_193 s0 (by decide) rfl (tX9_nameValues hS0 (by omega)) (by decide) ⟨(Nat.le_of_ble_eq_true rfl), (Nat.le_of_ble_eq_true rfl), (Nat.le_of_ble_eq_true rfl)⟩ (fun h => by cases h) (fun v1 ly1 M1 ⟨q1, q2, q3⟩ => ?_)
          rw [q1, q2, q3]
          refine Rn.meq (M2 := sI (sI (sI (sI M (a + 10) (upd (M.1 (a + 10)) w ((M.1 (a + 10) w) + 1))) (a + 9) (upd (M.1 (a + 9)) w (nI ce))) (a + 11) (upd (M.1 (a + 11)) w 1)) (a + 16) (upd (upd (upd (upd (upd (upd (M.1 (a + 16)) 0 (M.1 (c + 1) w)) 1 (M.1 a 14)) 2 (nI ce)) 3 (M.1 (a + 2) ce)) 4 ((M.1 (a + 10) w + 1) &&& 1)) 5 (M.1 a 4))) (by rw [y0, y2, y16]) ?_
          refine Rn.aload_n dX9_step_132 rfl ?_
          refine Rn.getR dX9_step_133 fX9_12 rfl s0 e0_5 ?_
          refine Rn.getR dX9_step_136 fX9_197 rfl s1 e1_2 ?_
          refine Rn.iload_n dX9_step_139 rfl ?_
          refine Rn.dup2 dX9_step_140 rfl rfl ?_
          refine Rn.ialdN (k0 := ce) dX9_step_141 s4 (by omega) (by decide) ?_
          refine Rn.topI (y := M.1 (a + 4) ce) ((congrFun ((sI_ne (show a + 4 ≠ a + 16 by omega)).trans ((sI_ne (show a + 4 ≠ a + 11 by omega)).trans ((sI_ne (show a + 4 ≠ a + 9 by omega)).trans (sI_ne (show a + 4 ≠ a + 10 by omega))))) ce)) ?_
          refine Rn.aload_n dX9_step_142 rfl ?_
          refine Rn.getR dX9_step_143 fX9_63 rfl s0 h2 ?_
          refine Rn.aload_n dX9_step_146 rfl ?_
          refine Rn.getR dX9_step_147 fX9_41 rfl s0 e0_13 ?_
          have z1u : (sI (sI (sI (sI M (a + 10) (upd (M.1 (a + 10)) w ((M.1 (a + 10) w) + 1))) (a + 9) (upd (M.1 (a + 9)) w (nI ce))) (a + 11) (upd (M.1 (a + 11)) w 1)) (a + 16) (upd (upd (upd (upd (upd (upd (M.1 (a + 16)) 0 (M.1 (c + 1) w)) 1 (M.1 a 14)) 2 (nI ce)) 3 (M.1 (a + 2) ce)) 4 ((M.1 (a + 10) w + 1) &&& 1)) 5 (M.1 a 4))).1 u 0 = nI nu := (congrFun ((sI_ne (show u ≠ a + 16 by omega)).trans ((sI_ne (show u ≠ a + 11 by omega)).trans ((sI_ne (show u ≠ a + 9 by omega)).trans (sI_ne (show u ≠ a + 10 by omega))))) 0).trans hnu
          have z1k : (sI (sI (sI (sI M (a + 10) (upd (M.1 (a + 10)) w ((M.1 (a + 10) w) + 1))) (a + 9) (upd (M.1 (a + 9)) w (nI ce))) (a + 11) (upd (M.1 (a + 11)) w 1)) (a + 16) (upd (upd (upd (upd (upd (upd (M.1 (a + 16)) 0 (M.1 (c + 1) w)) 1 (M.1 a 14)) 2 (nI ce)) 3 (M.1 (a + 2) ce)) 4 ((M.1 (a + 10) w + 1) &&& 1)) 5 (M.1 a 4))).1 (u + 1) = M.1 (u + 1) := (sI_ne (show u + 1 ≠ a + 16 by omega)).trans ((sI_ne (show u + 1 ≠ a + 11 by omega)).trans ((sI_ne (show u + 1 ≠ a + 9 by omega)).trans (sI_ne (show u + 1 ≠ a + 10 by omega))))
          have z1v : valL ((sI (sI (sI (sI M (a + 10) (upd (M.1 (a + 10)) w ((M.1 (a + 10) w) + 1))) (a + 9) (upd (M.1 (a + 9)) w (nI ce))) (a + 11) (upd (M.1 (a + 11)) w 1)) (a + 16) (upd (upd (upd (upd (upd (upd (M.1 (a + 16)) 0 (M.1 (c + 1) w)) 1 (M.1 a 14)) 2 (nI ce)) 3 (M.1 (a + 2) ce)) 4 ((M.1 (a + 10) w + 1) &&& 1)) 5 (M.1 a 4))).1 (a + 16)) ((sI (sI (sI (sI M (a + 10) (upd (M.1 (a + 10)) w ((M.1 (a + 10) w) + 1))) (a + 9) (upd (M.1 (a + 9)) w (nI ce))) (a + 11) (upd (M.1 (a + 11)) w 1)) (a + 16) (upd (upd (upd (upd (upd (upd (M.1 (a + 16)) 0 (M.1 (c + 1) w)) 1 (M.1 a 14)) 2 (nI ce)) 3 (M.1 (a + 2) ce)) 4 ((M.1 (a + 10) w + 1) &&& 1)) 5 (M.1 a 4))).1 (u + 1)) nu = valL (nmv (M.1 (c + 1) w) (M.1 a 14) (nI ce) (M.1 (a + 2) ce) ((M.1 (a + 10) w + 1) &&& 1) (M.1 a 4)) (M.1 (u + 1)) nu := by
            rw [z1k, show (sI (sI (sI (sI M (a + 10) (upd (M.1 (a + 10)) w ((M.1 (a + 10) w) + 1))) (a + 9) (upd (M.1 (a + 9)) w (nI ce))) (a + 11) (upd (M.1 (a + 11)) w 1)) (a + 16) (upd (upd (upd (upd (upd (upd (M.1 (a + 16)) 0 (M.1 (c + 1) w)) 1 (M.1 a 14)) 2 (nI ce)) 3 (M.1 (a + 2) ce)) 4 ((M.1 (a + 10) w + 1) &&& 1)) 5 (M.1 a 4))).1 (a + 16) = upd (upd (upd (upd (upd (upd (M.1 (a + 16)) 0 (M.1 (c + 1) w)) 1 (M.1 a 14)) 2 (nI ce)) 3 (M.1 (a + 2) ce)) 4 ((M.1 (a + 10) w + 1) &&& 1)) 5 (M.1 a 4) from sI_at _ _ _]
            exact valL_congr nmv_up
          refine Rn.callV1 dX9_step_150 vX9_199 hlu.1 (by decide) rfl (tX5_value (M := sI (sI (sI (sI M (a + 10) (upd (M.1 (a + 10)) w ((M.1 (a + 10) w) + 1))) (a + 9) (upd (M.1 (a + 9)) w (nI ce))) (a + 11) (upd (M.1 (a + 11)) w 1)) (a + 16) (upd (upd (upd (upd (upd (upd (M.1 (a + 16)) 0 (M.1 (c + 1) w)) 1 (M.1 a 14)) 2 (nI ce)) 3 (M.1 (a + 2) ce)) 4 ((M.1 (a + 10) w + 1) &&& 1)) 5 (M.1 a 4))) (Q := fun v0 ly0 M0 => v0 = some (.long (valL (nmv (M.1 (c + 1) w) (M.1 a 14) (nI ce) (M.1 (a + 2) ce) ((M.1 (a + 10) w + 1) &&& 1) (M.1 a 4)) (M.1 (u + 1)) nu)) ∧ ly0 = ly ∧ ∃ L : Nat → Nat → Int64, M0 = ((sI (sI (sI (sI M (a + 10) (upd (M.1 (a + 10)) w ((M.1 (a + 10) w) + 1))) (a + 9) (upd (M.1 (a + 9)) w (nI ce))) (a + 11) (upd (M.1 (a + 11)) w 1)) (a + 16) (upd (upd (upd (upd (upd (upd (M.1 (a + 16)) 0 (M.1 (c + 1) w)) 1 (M.1 a 14)) 2 (nI ce)) 3 (M.1 (a + 2) ce)) 4 ((M.1 (a + 10) w + 1) &&& 1)) 5 (M.1 a 4))).1, L, M.2.2)) (q := a + 16) hlu s16 z1u hnu64 (fun f => ⟨by rw [z1v], rfl, _, rfl⟩)) (by decide) ⟨(Nat.le_of_ble_eq_true rfl), (Nat.le_of_ble_eq_true rfl), (Nat.le_of_ble_eq_true rfl)⟩ (fun h => by cases h) (fun v1 ly1 M1 ⟨q1, q2, L1, q3⟩ => ?_)
          rw [q1, q2, q3]
          show Rn G l mX9_step (4, 0, 0, false) 153 [some (.ref a), some (.int (nI w)), some (.int (nI ce)), some (.int (M.1 (c + 1) w)), some (.int (((M.1 (a + 10) w) + 1) &&& 1)), none] [.long (valL (nmv (M.1 (c + 1) w) (M.1 a 14) (nI ce) (M.1 (a + 2) ce) ((M.1 (a + 10) w + 1) &&& 1) (M.1 a 4)) (M.1 (u + 1)) nu), .int (M.1 (a + 4) ce), .int (nI ce), .ref (a + 4)] ly ((sI (sI (sI (sI M (a + 10) (upd (M.1 (a + 10)) w ((M.1 (a + 10) w) + 1))) (a + 9) (upd (M.1 (a + 9)) w (nI ce))) (a + 11) (upd (M.1 (a + 11)) w 1)) (a + 16) (upd (upd (upd (upd (upd (upd (M.1 (a + 16)) 0 (M.1 (c + 1) w)) 1 (M.1 a 14)) 2 (nI ce)) 3 (M.1 (a + 2) ce)) 4 ((M.1 (a + 10) w + 1) &&& 1)) 5 (M.1 a 4))).1, L1, M.2.2) Q
          refine Rn.iload_n dX9_step_153 rfl ?_
          refine Rn.callS2 dX9_step_154 vX9_205 (tX9_force) (by decide) ⟨(Nat.le_of_ble_eq_true rfl), (Nat.le_of_ble_eq_true rfl), (Nat.le_of_ble_eq_true rfl)⟩ (fun h => by cases h) (fun v1 ly1 M1 ⟨q1, q2, q3⟩ => ?_)
          rw [q1, q2, q3]
          refine Rn.isub dX9_step_157 ?_
          refine Rn.iastN (k0 := ce) dX9_step_158 s4 (by omega) (by decide) ?_
          refine Rn.meq (M2 := sI ((sI (sI (sI (sI M (a + 10) (upd (M.1 (a + 10)) w ((M.1 (a + 10) w) + 1))) (a + 9) (upd (M.1 (a + 9)) w (nI ce))) (a + 11) (upd (M.1 (a + 11)) w 1)) (a + 16) (upd (upd (upd (upd (upd (upd (M.1 (a + 16)) 0 (M.1 (c + 1) w)) 1 (M.1 a 14)) 2 (nI ce)) 3 (M.1 (a + 2) ce)) 4 ((M.1 (a + 10) w + 1) &&& 1)) 5 (M.1 a 4))).1, L1, M.2.2) (a + 4) (upd (M.1 (a + 4)) ce ((M.1 (a + 4) ce) - (frc (valL (nmv (M.1 (c + 1) w) (M.1 a 14) (nI ce) (M.1 (a + 2) ce) ((M.1 (a + 10) w + 1) &&& 1) (M.1 a 4)) (M.1 (u + 1)) nu) (M.1 (c + 1) w))))) (congrArg (fun r9 => sI ((sI (sI (sI (sI M (a + 10) (upd (M.1 (a + 10)) w ((M.1 (a + 10) w) + 1))) (a + 9) (upd (M.1 (a + 9)) w (nI ce))) (a + 11) (upd (M.1 (a + 11)) w 1)) (a + 16) (upd (upd (upd (upd (upd (upd (M.1 (a + 16)) 0 (M.1 (c + 1) w)) 1 (M.1 a 14)) 2 (nI ce)) 3 (M.1 (a + 2) ce)) 4 ((M.1 (a + 10) w + 1) &&& 1)) 5 (M.1 a 4))).1, L1, M.2.2) (a + 4) (upd r9 ce ((M.1 (a + 4) ce) - (frc (valL (nmv (M.1 (c + 1) w) (M.1 a 14) (nI ce) (M.1 (a + 2) ce) ((M.1 (a + 10) w + 1) &&& 1) (M.1 a 4)) (M.1 (u + 1)) nu) (M.1 (c + 1) w))))) ((sI_ne (show a + 4 ≠ a + 16 by omega)).trans ((sI_ne (show a + 4 ≠ a + 11 by omega)).trans ((sI_ne (show a + 4 ≠ a + 9 by omega)).trans (sI_ne (show a + 4 ≠ a + 10 by omega)))))) ?_
          refine Rn.aload_n dX9_step_159 rfl ?_
          refine Rn.getI dX9_step_160 fX9_83 rfl s0 ?_
          refine Rn.topI (y := M.1 a 17) ((congrFun ((sI_ne (show a ≠ a + 4 by omega)).trans ((sI_ne (show a ≠ a + 16 by omega)).trans ((sI_ne (show a ≠ a + 11 by omega)).trans ((sI_ne (show a ≠ a + 9 by omega)).trans (sI_ne (show a ≠ a + 10 by omega)))))) 17)) ?_
          refine Rn.if_ne dX9_step_163 (fun g4 => ?_) (fun g4 => ?_)
          · skip
            refine Rn.vret dX9_step_209 rfl (hQ _ _ (fun k hk => ?_) (Or.inr ⟨hoff, ce, by omega, hx.symm, ?_⟩))
            · exact (sI_ne (by omega)).trans ((rfl).trans ((sI_ne (by omega)).trans ((sI_ne (by omega)).trans ((sI_ne (by omega)).trans (sI_ne (by omega))))))
            · show (_, _, _, _, _) = (_, _, _, _, _)
              exact W5_eq ((sI_ne (show a + 9 ≠ a + 4 by omega)).trans ((sI_ne (show a + 9 ≠ a + 16 by omega)).trans ((sI_ne (show a + 9 ≠ a + 11 by omega)).trans (sI_at _ _ _)))) ((sI_ne (show a + 10 ≠ a + 4 by omega)).trans ((sI_ne (show a + 10 ≠ a + 16 by omega)).trans ((sI_ne (show a + 10 ≠ a + 11 by omega)).trans ((sI_ne (show a + 10 ≠ a + 9 by omega)).trans (sI_at _ _ _))))) ((sI_ne (show a + 11 ≠ a + 4 by omega)).trans ((sI_ne (show a + 11 ≠ a + 16 by omega)).trans (sI_at _ _ _))) (sI_at _ _ _) (((sI_ne (show a + 8 ≠ a + 4 by omega)).trans ((sI_ne (show a + 8 ≠ a + 16 by omega)).trans ((sI_ne (show a + 8 ≠ a + 11 by omega)).trans ((sI_ne (show a + 8 ≠ a + 9 by omega)).trans (sI_ne (show a + 8 ≠ a + 10 by omega)))))).trans (if_neg g4).symm)
          · skip
            refine Rn.aload_n dX9_step_166 rfl ?_
            refine Rn.getR dX9_step_167 fX9_67 rfl s0 h3 ?_
            refine Rn.aload_n dX9_step_170 rfl ?_
            refine Rn.getR dX9_step_171 fX9_41 rfl s0 e0_13 ?_
            have z2u : (sI ((sI (sI (sI (sI M (a + 10) (upd (M.1 (a + 10)) w ((M.1 (a + 10) w) + 1))) (a + 9) (upd (M.1 (a + 9)) w (nI ce))) (a + 11) (upd (M.1 (a + 11)) w 1)) (a + 16) (upd (upd (upd (upd (upd (upd (M.1 (a + 16)) 0 (M.1 (c + 1) w)) 1 (M.1 a 14)) 2 (nI ce)) 3 (M.1 (a + 2) ce)) 4 ((M.1 (a + 10) w + 1) &&& 1)) 5 (M.1 a 4))).1, L1, M.2.2) (a + 4) (upd (M.1 (a + 4)) ce ((M.1 (a + 4) ce) - (frc (valL (nmv (M.1 (c + 1) w) (M.1 a 14) (nI ce) (M.1 (a + 2) ce) ((M.1 (a + 10) w + 1) &&& 1) (M.1 a 4)) (M.1 (u + 1)) nu) (M.1 (c + 1) w))))).1 v 0 = nI nv := (congrFun ((sI_ne (show v ≠ a + 4 by omega)).trans ((sI_ne (show v ≠ a + 16 by omega)).trans ((sI_ne (show v ≠ a + 11 by omega)).trans ((sI_ne (show v ≠ a + 9 by omega)).trans (sI_ne (show v ≠ a + 10 by omega)))))) 0).trans hnv
            have z2k : (sI ((sI (sI (sI (sI M (a + 10) (upd (M.1 (a + 10)) w ((M.1 (a + 10) w) + 1))) (a + 9) (upd (M.1 (a + 9)) w (nI ce))) (a + 11) (upd (M.1 (a + 11)) w 1)) (a + 16) (upd (upd (upd (upd (upd (upd (M.1 (a + 16)) 0 (M.1 (c + 1) w)) 1 (M.1 a 14)) 2 (nI ce)) 3 (M.1 (a + 2) ce)) 4 ((M.1 (a + 10) w + 1) &&& 1)) 5 (M.1 a 4))).1, L1, M.2.2) (a + 4) (upd (M.1 (a + 4)) ce ((M.1 (a + 4) ce) - (frc (valL (nmv (M.1 (c + 1) w) (M.1 a 14) (nI ce) (M.1 (a + 2) ce) ((M.1 (a + 10) w + 1) &&& 1) (M.1 a 4)) (M.1 (u + 1)) nu) (M.1 (c + 1) w))))).1 (v + 1) = M.1 (v + 1) := (sI_ne (show v + 1 ≠ a + 4 by omega)).trans ((sI_ne (show v + 1 ≠ a + 16 by omega)).trans ((sI_ne (show v + 1 ≠ a + 11 by omega)).trans ((sI_ne (show v + 1 ≠ a + 9 by omega)).trans (sI_ne (show v + 1 ≠ a + 10 by omega)))))
            have z2v : valL ((sI ((sI (sI (sI (sI M (a + 10) (upd (M.1 (a + 10)) w ((M.1 (a + 10) w) + 1))) (a + 9) (upd (M.1 (a + 9)) w (nI ce))) (a + 11) (upd (M.1 (a + 11)) w 1)) (a + 16) (upd (upd (upd (upd (upd (upd (M.1 (a + 16)) 0 (M.1 (c + 1) w)) 1 (M.1 a 14)) 2 (nI ce)) 3 (M.1 (a + 2) ce)) 4 ((M.1 (a + 10) w + 1) &&& 1)) 5 (M.1 a 4))).1, L1, M.2.2) (a + 4) (upd (M.1 (a + 4)) ce ((M.1 (a + 4) ce) - (frc (valL (nmv (M.1 (c + 1) w) (M.1 a 14) (nI ce) (M.1 (a + 2) ce) ((M.1 (a + 10) w + 1) &&& 1) (M.1 a 4)) (M.1 (u + 1)) nu) (M.1 (c + 1) w))))).1 (a + 16)) ((sI ((sI (sI (sI (sI M (a + 10) (upd (M.1 (a + 10)) w ((M.1 (a + 10) w) + 1))) (a + 9) (upd (M.1 (a + 9)) w (nI ce))) (a + 11) (upd (M.1 (a + 11)) w 1)) (a + 16) (upd (upd (upd (upd (upd (upd (M.1 (a + 16)) 0 (M.1 (c + 1) w)) 1 (M.1 a 14)) 2 (nI ce)) 3 (M.1 (a + 2) ce)) 4 ((M.1 (a + 10) w + 1) &&& 1)) 5 (M.1 a 4))).1, L1, M.2.2) (a + 4) (upd (M.1 (a + 4)) ce ((M.1 (a + 4) ce) - (frc (valL (nmv (M.1 (c + 1) w) (M.1 a 14) (nI ce) (M.1 (a + 2) ce) ((M.1 (a + 10) w + 1) &&& 1) (M.1 a 4)) (M.1 (u + 1)) nu) (M.1 (c + 1) w))))).1 (v + 1)) nv = valL (nmv (M.1 (c + 1) w) (M.1 a 14) (nI ce) (M.1 (a + 2) ce) ((M.1 (a + 10) w + 1) &&& 1) (M.1 a 4)) (M.1 (v + 1)) nv := by
              rw [z2k, show (sI ((sI (sI (sI (sI M (a + 10) (upd (M.1 (a + 10)) w ((M.1 (a + 10) w) + 1))) (a + 9) (upd (M.1 (a + 9)) w (nI ce))) (a + 11) (upd (M.1 (a + 11)) w 1)) (a + 16) (upd (upd (upd (upd (upd (upd (M.1 (a + 16)) 0 (M.1 (c + 1) w)) 1 (M.1 a 14)) 2 (nI ce)) 3 (M.1 (a + 2) ce)) 4 ((M.1 (a + 10) w + 1) &&& 1)) 5 (M.1 a 4))).1, L1, M.2.2) (a + 4) (upd (M.1 (a + 4)) ce ((M.1 (a + 4) ce) - (frc (valL (nmv (M.1 (c + 1) w) (M.1 a 14) (nI ce) (M.1 (a + 2) ce) ((M.1 (a + 10) w + 1) &&& 1) (M.1 a 4)) (M.1 (u + 1)) nu) (M.1 (c + 1) w))))).1 (a + 16) = upd (upd (upd (upd (upd (upd (M.1 (a + 16)) 0 (M.1 (c + 1) w)) 1 (M.1 a 14)) 2 (nI ce)) 3 (M.1 (a + 2) ce)) 4 ((M.1 (a + 10) w + 1) &&& 1)) 5 (M.1 a 4) from (sI_ne (show a + 16 ≠ a + 4 by omega)).trans (sI_at _ _ _)]
              exact valL_congr nmv_up
            refine Rn.callV1 dX9_step_174 vX9_199 hlv.1 (by decide) rfl (tX5_value (M := sI ((sI (sI (sI (sI M (a + 10) (upd (M.1 (a + 10)) w ((M.1 (a + 10) w) + 1))) (a + 9) (upd (M.1 (a + 9)) w (nI ce))) (a + 11) (upd (M.1 (a + 11)) w 1)) (a + 16) (upd (upd (upd (upd (upd (upd (M.1 (a + 16)) 0 (M.1 (c + 1) w)) 1 (M.1 a 14)) 2 (nI ce)) 3 (M.1 (a + 2) ce)) 4 ((M.1 (a + 10) w + 1) &&& 1)) 5 (M.1 a 4))).1, L1, M.2.2) (a + 4) (upd (M.1 (a + 4)) ce ((M.1 (a + 4) ce) - (frc (valL (nmv (M.1 (c + 1) w) (M.1 a 14) (nI ce) (M.1 (a + 2) ce) ((M.1 (a + 10) w + 1) &&& 1) (M.1 a 4)) (M.1 (u + 1)) nu) (M.1 (c + 1) w))))) (Q := fun v0 ly0 M0 => v0 = some (.long (valL (nmv (M.1 (c + 1) w) (M.1 a 14) (nI ce) (M.1 (a + 2) ce) ((M.1 (a + 10) w + 1) &&& 1) (M.1 a 4)) (M.1 (v + 1)) nv)) ∧ ly0 = ly ∧ ∃ L : Nat → Nat → Int64, M0 = ((sI ((sI (sI (sI (sI M (a + 10) (upd (M.1 (a + 10)) w ((M.1 (a + 10) w) + 1))) (a + 9) (upd (M.1 (a + 9)) w (nI ce))) (a + 11) (upd (M.1 (a + 11)) w 1)) (a + 16) (upd (upd (upd (upd (upd (upd (M.1 (a + 16)) 0 (M.1 (c + 1) w)) 1 (M.1 a 14)) 2 (nI ce)) 3 (M.1 (a + 2) ce)) 4 ((M.1 (a + 10) w + 1) &&& 1)) 5 (M.1 a 4))).1, L1, M.2.2) (a + 4) (upd (M.1 (a + 4)) ce ((M.1 (a + 4) ce) - (frc (valL (nmv (M.1 (c + 1) w) (M.1 a 14) (nI ce) (M.1 (a + 2) ce) ((M.1 (a + 10) w + 1) &&& 1) (M.1 a 4)) (M.1 (u + 1)) nu) (M.1 (c + 1) w))))).1, L, M.2.2)) (q := a + 16) hlv s16 z2u hnv64 (fun f => ⟨by rw [z2v], rfl, _, rfl⟩)) (by decide) ⟨(Nat.le_of_ble_eq_true rfl), (Nat.le_of_ble_eq_true rfl), (Nat.le_of_ble_eq_true rfl)⟩ (fun h => by cases h) (fun v1 ly1 M1 ⟨q1, q2, L2, q3⟩ => ?_)
            rw [q1, q2, q3]
            show Rn G l mX9_step (4, 0, 0, false) 177 [some (.ref a), some (.int (nI w)), some (.int (nI ce)), some (.int (M.1 (c + 1) w)), some (.int (((M.1 (a + 10) w) + 1) &&& 1)), none] [.long (valL (nmv (M.1 (c + 1) w) (M.1 a 14) (nI ce) (M.1 (a + 2) ce) ((M.1 (a + 10) w + 1) &&& 1) (M.1 a 4)) (M.1 (v + 1)) nv)] ly ((sI ((sI (sI (sI (sI M (a + 10) (upd (M.1 (a + 10)) w ((M.1 (a + 10) w) + 1))) (a + 9) (upd (M.1 (a + 9)) w (nI ce))) (a + 11) (upd (M.1 (a + 11)) w 1)) (a + 16) (upd (upd (upd (upd (upd (upd (M.1 (a + 16)) 0 (M.1 (c + 1) w)) 1 (M.1 a 14)) 2 (nI ce)) 3 (M.1 (a + 2) ce)) 4 ((M.1 (a + 10) w + 1) &&& 1)) 5 (M.1 a 4))).1, L1, M.2.2) (a + 4) (upd (M.1 (a + 4)) ce ((M.1 (a + 4) ce) - (frc (valL (nmv (M.1 (c + 1) w) (M.1 a 14) (nI ce) (M.1 (a + 2) ce) ((M.1 (a + 10) w + 1) &&& 1) (M.1 a 4)) (M.1 (u + 1)) nu) (M.1 (c + 1) w))))).1, L2, M.2.2) Q
            refine Rn.iconstv (v := 0) dX9_step_177 ic_0 ?_
            refine Rn.callS2 dX9_step_178 vX9_205 (tX9_force) (by decide) ⟨(Nat.le_of_ble_eq_true rfl), (Nat.le_of_ble_eq_true rfl), (Nat.le_of_ble_eq_true rfl)⟩ (fun h => by cases h) (fun v1 ly1 M1 ⟨q1, q2, q3⟩ => ?_)
            rw [q1, q2, q3]
            refine Rn.istore (lv' := [some (.ref a), some (.int (nI w)), some (.int (nI ce)), some (.int (M.1 (c + 1) w)), some (.int (((M.1 (a + 10) w) + 1) &&& 1)), some (.int (frc (valL (nmv (M.1 (c + 1) w) (M.1 a 14) (nI ce) (M.1 (a + 2) ce) ((M.1 (a + 10) w + 1) &&& 1) (M.1 a 4)) (M.1 (v + 1)) nv) 0))]) dX9_step_181 (by decide) rfl ?_
            refine Rn.aload_n dX9_step_183 rfl ?_
            refine Rn.getR dX9_step_184 fX9_18 rfl s0 e0_6 ?_
            refine Rn.getR dX9_step_187 fX9_197 rfl s5 e5_2 ?_
            refine Rn.iload_n dX9_step_190 rfl ?_
            refine Rn.dup2 dX9_step_191 rfl rfl ?_
            refine Rn.ialdN (k0 := ce) dX9_step_192 s8 (by omega) (by decide) ?_
            refine Rn.topI (y := M.1 (a + 8) ce) ((congrFun ((sI_ne (show a + 8 ≠ a + 4 by omega)).trans ((sI_ne (show a + 8 ≠ a + 16 by omega)).trans ((sI_ne (show a + 8 ≠ a + 11 by omega)).trans ((sI_ne (show a + 8 ≠ a + 9 by omega)).trans (sI_ne (show a + 8 ≠ a + 10 by omega)))))) ce)) ?_
            refine Rn.iload dX9_step_193 rfl ?_
            refine Rn.iconstv (v := 1) dX9_step_195 ic_1 ?_
            refine Rn.icmp_ne dX9_step_196 (fun g5 => ?_) (fun g5 => ?_)
            · skip
              refine Rn.iload dX9_step_204 rfl ?_
              refine Rn.ineg dX9_step_206 ?_
              refine Rn.iadd dX9_step_207 ?_
              refine Rn.iastN (k0 := ce) dX9_step_208 s8 (by omega) (by decide) ?_
              refine Rn.meq (M2 := sI ((sI ((sI (sI (sI (sI M (a + 10) (upd (M.1 (a + 10)) w ((M.1 (a + 10) w) + 1))) (a + 9) (upd (M.1 (a + 9)) w (nI ce))) (a + 11) (upd (M.1 (a + 11)) w 1)) (a + 16) (upd (upd (upd (upd (upd (upd (M.1 (a + 16)) 0 (M.1 (c + 1) w)) 1 (M.1 a 14)) 2 (nI ce)) 3 (M.1 (a + 2) ce)) 4 ((M.1 (a + 10) w + 1) &&& 1)) 5 (M.1 a 4))).1, L1, M.2.2) (a + 4) (upd (M.1 (a + 4)) ce ((M.1 (a + 4) ce) - (frc (valL (nmv (M.1 (c + 1) w) (M.1 a 14) (nI ce) (M.1 (a + 2) ce) ((M.1 (a + 10) w + 1) &&& 1) (M.1 a 4)) (M.1 (u + 1)) nu) (M.1 (c + 1) w))))).1, L2, M.2.2) (a + 8) (upd (M.1 (a + 8)) ce ((M.1 (a + 8) ce) + (-(frc (valL (nmv (M.1 (c + 1) w) (M.1 a 14) (nI ce) (M.1 (a + 2) ce) ((M.1 (a + 10) w + 1) &&& 1) (M.1 a 4)) (M.1 (v + 1)) nv) 0))))) (congrArg (fun r9 => sI ((sI ((sI (sI (sI (sI M (a + 10) (upd (M.1 (a + 10)) w ((M.1 (a + 10) w) + 1))) (a + 9) (upd (M.1 (a + 9)) w (nI ce))) (a + 11) (upd (M.1 (a + 11)) w 1)) (a + 16) (upd (upd (upd (upd (upd (upd (M.1 (a + 16)) 0 (M.1 (c + 1) w)) 1 (M.1 a 14)) 2 (nI ce)) 3 (M.1 (a + 2) ce)) 4 ((M.1 (a + 10) w + 1) &&& 1)) 5 (M.1 a 4))).1, L1, M.2.2) (a + 4) (upd (M.1 (a + 4)) ce ((M.1 (a + 4) ce) - (frc (valL (nmv (M.1 (c + 1) w) (M.1 a 14) (nI ce) (M.1 (a + 2) ce) ((M.1 (a + 10) w + 1) &&& 1) (M.1 a 4)) (M.1 (u + 1)) nu) (M.1 (c + 1) w))))).1, L2, M.2.2) (a + 8) (upd r9 ce ((M.1 (a + 8) ce) + (-(frc (valL (nmv (M.1 (c + 1) w) (M.1 a 14) (nI ce) (M.1 (a + 2) ce) ((M.1 (a + 10) w + 1) &&& 1) (M.1 a 4)) (M.1 (v + 1)) nv) 0))))) ((sI_ne (show a + 8 ≠ a + 4 by omega)).trans ((sI_ne (show a + 8 ≠ a + 16 by omega)).trans ((sI_ne (show a + 8 ≠ a + 11 by omega)).trans ((sI_ne (show a + 8 ≠ a + 9 by omega)).trans (sI_ne (show a + 8 ≠ a + 10 by omega))))))) ?_
              refine Rn.vret dX9_step_209 rfl (hQ _ _ (fun k hk => ?_) (Or.inr ⟨hoff, ce, by omega, hx.symm, ?_⟩))
              · exact (sI_ne (by omega)).trans ((rfl).trans ((sI_ne (by omega)).trans ((rfl).trans ((sI_ne (by omega)).trans ((sI_ne (by omega)).trans ((sI_ne (by omega)).trans (sI_ne (by omega))))))))
              · show (_, _, _, _, _) = (_, _, _, _, _)
                exact W5_eq ((sI_ne (show a + 9 ≠ a + 8 by omega)).trans ((sI_ne (show a + 9 ≠ a + 4 by omega)).trans ((sI_ne (show a + 9 ≠ a + 16 by omega)).trans ((sI_ne (show a + 9 ≠ a + 11 by omega)).trans (sI_at _ _ _))))) ((sI_ne (show a + 10 ≠ a + 8 by omega)).trans ((sI_ne (show a + 10 ≠ a + 4 by omega)).trans ((sI_ne (show a + 10 ≠ a + 16 by omega)).trans ((sI_ne (show a + 10 ≠ a + 11 by omega)).trans ((sI_ne (show a + 10 ≠ a + 9 by omega)).trans (sI_at _ _ _)))))) ((sI_ne (show a + 11 ≠ a + 8 by omega)).trans ((sI_ne (show a + 11 ≠ a + 4 by omega)).trans ((sI_ne (show a + 11 ≠ a + 16 by omega)).trans (sI_at _ _ _)))) ((sI_ne (show a + 4 ≠ a + 8 by omega)).trans (sI_at _ _ _)) ((sI_at _ _ _).trans (sd_neg g4 g5))
            · skip
              refine Rn.iload dX9_step_199 rfl ?_
              refine Rn.goto dX9_step_201 ?_
              refine Rn.iadd dX9_step_207 ?_
              refine Rn.iastN (k0 := ce) dX9_step_208 s8 (by omega) (by decide) ?_
              refine Rn.meq (M2 := sI ((sI ((sI (sI (sI (sI M (a + 10) (upd (M.1 (a + 10)) w ((M.1 (a + 10) w) + 1))) (a + 9) (upd (M.1 (a + 9)) w (nI ce))) (a + 11) (upd (M.1 (a + 11)) w 1)) (a + 16) (upd (upd (upd (upd (upd (upd (M.1 (a + 16)) 0 (M.1 (c + 1) w)) 1 (M.1 a 14)) 2 (nI ce)) 3 (M.1 (a + 2) ce)) 4 ((M.1 (a + 10) w + 1) &&& 1)) 5 (M.1 a 4))).1, L1, M.2.2) (a + 4) (upd (M.1 (a + 4)) ce ((M.1 (a + 4) ce) - (frc (valL (nmv (M.1 (c + 1) w) (M.1 a 14) (nI ce) (M.1 (a + 2) ce) ((M.1 (a + 10) w + 1) &&& 1) (M.1 a 4)) (M.1 (u + 1)) nu) (M.1 (c + 1) w))))).1, L2, M.2.2) (a + 8) (upd (M.1 (a + 8)) ce ((M.1 (a + 8) ce) + (frc (valL (nmv (M.1 (c + 1) w) (M.1 a 14) (nI ce) (M.1 (a + 2) ce) ((M.1 (a + 10) w + 1) &&& 1) (M.1 a 4)) (M.1 (v + 1)) nv) 0)))) (congrArg (fun r9 => sI ((sI ((sI (sI (sI (sI M (a + 10) (upd (M.1 (a + 10)) w ((M.1 (a + 10) w) + 1))) (a + 9) (upd (M.1 (a + 9)) w (nI ce))) (a + 11) (upd (M.1 (a + 11)) w 1)) (a + 16) (upd (upd (upd (upd (upd (upd (M.1 (a + 16)) 0 (M.1 (c + 1) w)) 1 (M.1 a 14)) 2 (nI ce)) 3 (M.1 (a + 2) ce)) 4 ((M.1 (a + 10) w + 1) &&& 1)) 5 (M.1 a 4))).1, L1, M.2.2) (a + 4) (upd (M.1 (a + 4)) ce ((M.1 (a + 4) ce) - (frc (valL (nmv (M.1 (c + 1) w) (M.1 a 14) (nI ce) (M.1 (a + 2) ce) ((M.1 (a + 10) w + 1) &&& 1) (M.1 a 4)) (M.1 (u + 1)) nu) (M.1 (c + 1) w))))).1, L2, M.2.2) (a + 8) (upd r9 ce ((M.1 (a + 8) ce) + (frc (valL (nmv (M.1 (c + 1) w) (M.1 a 14) (nI ce) (M.1 (a + 2) ce) ((M.1 (a + 10) w + 1) &&& 1) (M.1 a 4)) (M.1 (v + 1)) nv) 0)))) ((sI_ne (show a + 8 ≠ a + 4 by omega)).trans ((sI_ne (show a + 8 ≠ a + 16 by omega)).trans ((sI_ne (show a + 8 ≠ a + 11 by omega)).trans ((sI_ne (show a + 8 ≠ a + 9 by omega)).trans (sI_ne (show a + 8 ≠ a + 10 by omega))))))) ?_
              refine Rn.vret dX9_step_209 rfl (hQ _ _ (fun k hk => ?_) (Or.inr ⟨hoff, ce, by omega, hx.symm, ?_⟩))
              · exact (sI_ne (by omega)).trans ((rfl).trans ((sI_ne (by omega)).trans ((rfl).trans ((sI_ne (by omega)).trans ((sI_ne (by omega)).trans ((sI_ne (by omega)).trans (sI_ne (by omega))))))))
              · show (_, _, _, _, _) = (_, _, _, _, _)
                exact W5_eq ((sI_ne (show a + 9 ≠ a + 8 by omega)).trans ((sI_ne (show a + 9 ≠ a + 4 by omega)).trans ((sI_ne (show a + 9 ≠ a + 16 by omega)).trans ((sI_ne (show a + 9 ≠ a + 11 by omega)).trans (sI_at _ _ _))))) ((sI_ne (show a + 10 ≠ a + 8 by omega)).trans ((sI_ne (show a + 10 ≠ a + 4 by omega)).trans ((sI_ne (show a + 10 ≠ a + 16 by omega)).trans ((sI_ne (show a + 10 ≠ a + 11 by omega)).trans ((sI_ne (show a + 10 ≠ a + 9 by omega)).trans (sI_at _ _ _)))))) ((sI_ne (show a + 11 ≠ a + 8 by omega)).trans ((sI_ne (show a + 11 ≠ a + 4 by omega)).trans ((sI_ne (show a + 11 ≠ a + 16 by omega)).trans (sI_at _ _ _)))) ((sI_ne (show a + 4 ≠ a + 8 by omega)).trans (sI_at _ _ _)) ((sI_at _ _ _).trans (sd_pos g4 g5))
        · skip
          refine Rn.aload_n dX9_step_82 rfl ?_
          refine Rn.getR dX9_step_83 fX9_28 rfl s0 e0_10 ?_
          refine Rn.iload_n dX9_step_86 rfl ?_
          refine Rn.iconstv (v := 2) dX9_step_87 ic_2 ?_
          refine Rn.iastN (k0 := w) dX9_step_88 s11 hw (by decide) ?_
          refine Rn.meq (M2 := sI (sI M (a + 10) (upd (M.1 (a + 10)) w ((M.1 (a + 10) w) + 1))) (a + 11) (upd (M.1 (a + 11)) w 2)) (congrArg (fun r9 => sI (sI M (a + 10) (upd (M.1 (a + 10)) w ((M.1 (a + 10) w) + 1))) (a + 11) (upd r9 w 2)) (sI_ne (show a + 11 ≠ a + 10 by omega))) ?_
          refine Rn.vret dX9_step_89 rfl (hQ _ _ (fun k hk => ?_) (Or.inl ⟨by show offW (nI n) (cellW (nI n) (M.1 (c + 4) w) (M.1 (c + 5) w) (M.1 (a + 9) w) (M.1 (a + 10) w + 1)) (M.1 a 7); rw [← hx]; exact Or.inr (Or.inr g3), ?_⟩))
          · exact (sI_ne (by omega)).trans (sI_ne (by omega))
          · show (_, _, _, _, _) = (_, _, _, _, _)
            exact W5_eq ((sI_ne (show a + 9 ≠ a + 11 by omega)).trans (sI_ne (show a + 9 ≠ a + 10 by omega))) ((sI_ne (show a + 10 ≠ a + 11 by omega)).trans (sI_at _ _ _)) (sI_at _ _ _) ((sI_ne (show a + 4 ≠ a + 11 by omega)).trans (sI_ne (show a + 4 ≠ a + 10 by omega))) ((sI_ne (show a + 8 ≠ a + 11 by omega)).trans (sI_ne (show a + 8 ≠ a + 10 by omega)))
  refine Rn.icmp_ne dX9_step_17 (fun gk => ?_) (fun gk => ?_)
  · skip
    refine Rn.aload_n dX9_step_38 rfl ?_
    refine Rn.getR dX9_step_39 fX9_21 rfl s0 e0_8 ?_
    refine Rn.iload_n dX9_step_42 rfl ?_
    refine Rn.ialdN (k0 := w) dX9_step_43 s9 hw (by decide) ?_
    refine Rn.topI (y := M.1 (a + 9) w) ((congrFun (sI_ne (show a + 9 ≠ a + 10 by omega)) w)) ?_
    refine Rn.aload_n dX9_step_44 rfl ?_
    refine Rn.getR dX9_step_45 fX9_58 rfl s0 h1 ?_
    refine Rn.getR dX9_step_48 fX9_187 rfl c0 d3 ?_
    refine Rn.iload_n dX9_step_51 rfl ?_
    refine Rn.ialdN (k0 := w) dX9_step_52 c4 hw (by decide) ?_
    refine Rn.topI (y := M.1 (c + 4) w) ((congrFun (sI_ne (show c + 4 ≠ a + 10 by omega)) w)) ?_
    refine Rn.iadd dX9_step_53 ?_
    exact join _ (by unfold cellW; rw [if_neg gk])
  · skip
    refine Rn.aload_n dX9_step_20 rfl ?_
    refine Rn.getR dX9_step_21 fX9_58 rfl s0 h1 ?_
    refine Rn.iload_n dX9_step_24 rfl ?_
    refine Rn.aload_n dX9_step_25 rfl ?_
    refine Rn.getR dX9_step_26 fX9_48 rfl s0 h0 ?_
    refine Rn.getI dX9_step_29 fX9_144 rfl hp ?_
    refine Rn.topI (y := M.1 p 0) ((congrFun (sI_ne (show p ≠ a + 10 by omega)) 0)) ?_
    refine Rn.topI (y := nI n) (hn) ?_
    have y4 : (sI M (a + 10) (upd (M.1 (a + 10)) w ((M.1 (a + 10) w) + 1))).1 (c + 4) = M.1 (c + 4) := sI_ne (show c + 4 ≠ a + 10 by omega)
    have y5 : (sI M (a + 10) (upd (M.1 (a + 10)) w ((M.1 (a + 10) w) + 1))).1 (c + 5) = M.1 (c + 5) := sI_ne (show c + 5 ≠ a + 10 by omega)
    refine Rn.callV2 dX9_step_32 vX9_184 c0 (by decide) rfl (tX0_firstCell hcr0 hw) (by decide) ⟨(Nat.le_of_ble_eq_true rfl), (Nat.le_of_ble_eq_true rfl), (Nat.le_of_ble_eq_true rfl)⟩ (fun h => by cases h) (fun v1 ly1 M1 ⟨q1, q2, q3⟩ => ?_)
    rw [q1, q2, q3]
    refine Rn.goto dX9_step_35 ?_
    exact join _ (by unfold cellW; rw [if_pos gk, y4, y5])
/-- a step, as a function -/
def stF (n tim het lost upo : Int32) (ou wt wy sy : Nat → Int32) (pv sv : (Nat → Int32) → Int64) (w : Nat) (s : W5) : W5 :=
  if cellW n (wy w) (sy w) (s.1 w) (s.2.1 w + 1) < 0 ∨ n ≤ cellW n (wy w) (sy w) (s.1 w) (s.2.1 w + 1) ∨ (lost >>> (cellW n (wy w) (sy w) (s.1 w) (s.2.1 w + 1) &&& 31)) &&& 1 = 1 then goW w s
  else onW w (cellW n (wy w) (sy w) (s.1 w) (s.2.1 w + 1)).toNatClampNeg upo (frc (pv (nmv (wt w) tim (cellW n (wy w) (sy w) (s.1 w) (s.2.1 w + 1)) (ou (cellW n (wy w) (sy w) (s.1 w) (s.2.1 w + 1)).toNatClampNeg) ((s.2.1 w + 1) &&& 1) het)) (wt w)) (frc (sv (nmv (wt w) tim (cellW n (wy w) (sy w) (s.1 w) (s.2.1 w + 1)) (ou (cellW n (wy w) (sy w) (s.1 w) (s.2.1 w + 1)).toNatClampNeg) ((s.2.1 w + 1) &&& 1) het)) 0) s
theorem stW_eq {n tim het lost upo : Int32} {ou wt wy sy : Nat → Int32} {pv sv : (Nat → Int32) → Int64} {w : Nat} {s s' : W5} (h : stW n tim het lost upo ou wt wy sy pv sv w s s') : s' = stF n tim het lost upo ou wt wy sy pv sv w s := by
  unfold stF
  unfold stW at h
  generalize cellW n (wy w) (sy w) (s.1 w) (s.2.1 w + 1) = x at h ⊢
  unfold offW at h
  rcases h with ⟨h1, h2⟩ | ⟨h1, c, hc, h2, h3⟩
  · rw [if_pos h1]; exact h2
  · rw [if_neg h1, h2, nI_clamp (by omega)]; exact h3
