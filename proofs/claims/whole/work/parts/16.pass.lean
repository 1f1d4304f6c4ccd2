def itF {α : Type} (g : Nat → α → α) : Nat → α → α
  | 0, s => s
  | i + 1, s => g i (itF g i s)
/-- a walker's turn -/
def wkG (n tim het lost upo : Int32) (ou wt bt fr wy sy : Nat → Int32) (pv sv : (Nat → Int32) → Int64) (w : Nat) (s : W5) : W5 :=
  if s.2.2.1 w = 2 then s else if stpAt tim (fr w) (bt w) = 0 then s else stF n tim het lost upo ou wt wy sy pv sv w s
theorem wkG_a {n tim het lost upo : Int32} {ou wt bt fr wy sy : Nat → Int32} {pv sv : (Nat → Int32) → Int64} {w : Nat} {s : W5} (h : s.2.2.1 w = 2) : wkG n tim het lost upo ou wt bt fr wy sy pv sv w s = s := if_pos h
theorem wkG_b {n tim het lost upo : Int32} {ou wt bt fr wy sy : Nat → Int32} {pv sv : (Nat → Int32) → Int64} {w : Nat} {s : W5} (h : ¬ s.2.2.1 w = 2) (h2 : stpAt tim (fr w) (bt w) = 0) : wkG n tim het lost upo ou wt bt fr wy sy pv sv w s = s := (if_neg h).trans (if_pos h2)
theorem wkG_c {n tim het lost upo : Int32} {ou wt bt fr wy sy : Nat → Int32} {pv sv : (Nat → Int32) → Int64} {w : Nat} {s : W5} (h : ¬ s.2.2.1 w = 2) (h2 : ¬ stpAt tim (fr w) (bt w) = 0) : wkG n tim het lost upo ou wt bt fr wy sy pv sv w s = stF n tim het lost upo ou wt wy sy pv sv w s := (if_neg h).trans (if_neg h2)
/-- a scene: up, its speed, side, its speed, the walkers' rows, planks lost, time, chance -/
abbrev Sc : Type := (Nat → Int32) × (Nat → Int32) × (Nat → Int32) × (Nat → Int32) × W5 × Int32 × Int32 × Int32
def vS (I : Nat → Nat → Int32) (a : Nat) : Sc := (I (a + 2), I (a + 3), I (a + 6), I (a + 7), vW I a, I a 7, I a 14, I a 15)
/-- the gale's part: the sideways push and the chance -/
def gsP (n : Nat) (bl gl ch : Int32) (sp : Nat → Int32) : Nat → Int32 := if bl = 0 then sp else if gl ≤ 0 then sp else pre n (fun j => sp j + gus (nxts ch (j + 1)) gl) sp
def gsC (n : Nat) (bl gl ch : Int32) : Int32 := if bl = 0 then ch else if gl ≤ 0 then ch else nxts ch n
/-- a time goes by: n cells, stiffnesses, hold, gale; heat, blows, up only; the calm; walkers; the laws -/
def pasF (n nw : Nat) (su ss hd gl het bl upo : Int32) (ca wt bt fr wy sy : Nat → Int32) (pv sv : (Nat → Int32) → Int64) (s : Sc) : Sc :=
  let w := itF (wkG (nI n) s.2.2.2.2.2.2.1 het s.2.2.2.2.2.1 upo s.1 wt bt fr wy sy pv sv) nw s.2.2.2.2.1
  let sp := gsP n bl gl s.2.2.2.2.2.2.2 w.2.2.2.2
  let uo := pre n (nou s.1 s.2.1 w.2.2.2.1 ca (mx 0 (su - het)) n) s.1
  (uo, pre n (nsp s.1 s.2.1 w.2.2.2.1 ca (mx 0 (su - het)) n) s.2.1,
   if upo = 0 then pre n (nou s.2.2.1 s.2.2.2.1 sp ca ss n) s.2.2.1 else s.2.2.1, if upo = 0 then pre n (nsp s.2.2.1 s.2.2.2.1 sp ca ss n) s.2.2.2.1 else s.2.2.2.1,
   (w.1, w.2.1, w.2.2.1, pre n (fun _ => 0) w.2.2.2.1, if upo = 0 then pre n (fun _ => 0) sp else sp),
   if hd ≤ 0 then s.2.2.2.2.2.1 else lsP uo hd s.2.2.2.2.2.1 n, s.2.2.2.2.2.2.1 + 1, gsC n bl gl s.2.2.2.2.2.2.2)
theorem tX9_pass {G : Gx} {l : Launch} {ly : Ly} {M : Mm} {a p c u v n nu nv nw : Nat} (hS : iScene ly M a) (h0 : M.2.2 a 0 = some p) (hp : ly[p]? = some (.inr 7)) (hpa : p < a ∨ a + 16 < p) (hn : M.1 p 0 = nI n) (hn12 : n ≤ 12) (h1 : M.2.2 a 1 = some c) (hcr : iCrowd ly M c) (hca : c + 5 < a ∨ a + 16 < c) (h2 : M.2.2 a 2 = some u) (hlu : iLaw ly M u) (hua : u + 2 < a ∨ a + 16 < u) (h3 : M.2.2 a 3 = some v) (hlv : iLaw ly M v) (hva : v + 2 < a ∨ a + 16 < v) (hnu : M.1 u 0 = nI nu) (hnu64 : nu ≤ 64) (hnv : M.1 v 0 = nI nv) (hnv64 : nv ≤ 64) (hnw : M.1 c 0 = nI nw) (hnw6 : nw ≤ 6) (hgl : ¬ 2 * M.1 p 6 + 1 = 0) {Q : Qt} (hQ : ∀ (I : Nat → Nat → Int32) (L : Nat → Nat → Int64), (∀ k, (k < a ∨ a + 16 < k ∨ k = a + 12 ∨ k = a + 13 ∨ k = a + 14 ∨ k = a + 15) → I k = M.1 k) → (∀ j, ¬ j = 7 → ¬ j = 14 → ¬ j = 15 → I a j = M.1 a j) → vS I a = pasF n nw (M.1 p 1) (M.1 p 2) (M.1 p 5) (M.1 p 6) (M.1 a 4) (M.1 a 16) (M.1 a 17) (M.1 (a + 15)) (M.1 (c + 1)) (M.1 (c + 2)) (M.1 (c + 3)) (M.1 (c + 4)) (M.1 (c + 5)) (fun m => valL m (M.1 (u + 1)) nu) (fun m => valL m (M.1 (v + 1)) nv) (vS M.1 a) → Q none ly (I, L, M.2.2)) : Mt G l mX9_pass (5, 0, 0, false) [.ref a] ly M Q := by
  have hS0 := hS
  obtain ⟨s0, s1, s2, s3, s4, s5, s6, s7, s8, s9, s10, s11, s12, s13, s14, s15, s16, e0_5, e0_6, e0_8, e0_9, e0_10, e0_11, e0_12, e0_13, e1_0, e1_1, e1_2, e5_0, e5_1, e5_2, e12_1, e12_2⟩ := hS
  have hcr0 := hcr
  obtain ⟨c0, c1, c2, c3, c4, c5, d0, d1, d2, d3, d4⟩ := hcr
  refine Mt.of (lv := [some (.ref a), none]) rfl ?_
  obtain ⟨W, hW⟩ : ∃ W : W5, W = itF (wkG (nI n) (M.1 a 14) (M.1 a 4) (M.1 a 7) (M.1 a 17) (M.1 (a + 2)) (M.1 (c + 1)) (M.1 (c + 2)) (M.1 (c + 3)) (M.1 (c + 4)) (M.1 (c + 5)) (fun m => valL m (M.1 (u + 1)) nu) (fun m => valL m (M.1 (v + 1)) nv)) nw (vW M.1 a) := ⟨_, rfl⟩
  obtain ⟨SP, hSP⟩ : ∃ SP : Nat → Int32, SP = gsP n (M.1 a 16) (M.1 p 6) (M.1 a 15) W.2.2.2.2 := ⟨_, rfl⟩
  obtain ⟨CH, hCH⟩ : ∃ CH : Int32, CH = gsC n (M.1 a 16) (M.1 p 6) (M.1 a 15) := ⟨_, rfl⟩
  have J150 : ∀ (I : Nat → Nat → Int32) (L : Nat → Nat → Int64), (∀ k, (k < a ∨ a + 16 < k ∨ k = a + 12 ∨ k = a + 13 ∨ k = a + 14 ∨ k = a + 15) → I k = M.1 k) → (∀ j, ¬ j = 7 → ¬ j = 15 → I a j = M.1 a j) → I a 7 = (if M.1 p 5 ≤ 0 then M.1 a 7 else lsP (pre n (nou (M.1 (a + 2)) (M.1 (a + 3)) W.2.2.2.1 (M.1 (a + 15)) (mx 0 (M.1 p 1 - M.1 a 4)) n) (M.1 (a + 2))) (M.1 p 5) (M.1 a 7) n) → I a 15 = CH → I (a + 2) = (pre n (nou (M.1 (a + 2)) (M.1 (a + 3)) W.2.2.2.1 (M.1 (a + 15)) (mx 0 (M.1 p 1 - M.1 a 4)) n) (M.1 (a + 2))) → I (a + 3) = (pre n (nsp (M.1 (a + 2)) (M.1 (a + 3)) W.2.2.2.1 (M.1 (a + 15)) (mx 0 (M.1 p 1 - M.1 a 4)) n) (M.1 (a + 3))) → I (a + 4) = (pre n (fun _ => 0) W.2.2.2.1) → I (a + 6) = (if M.1 a 17 = 0 then pre n (nou (M.1 (a + 6)) (M.1 (a + 7)) SP (M.1 (a + 15)) (M.1 p 2) n) (M.1 (a + 6)) else M.1 (a + 6)) → I (a + 7) = (if M.1 a 17 = 0 then pre n (nsp (M.1 (a + 6)) (M.1 (a + 7)) SP (M.1 (a + 15)) (M.1 p 2) n) (M.1 (a + 7)) else M.1 (a + 7)) → I (a + 8) = (if M.1 a 17 = 0 then pre n (fun _ => 0) SP else SP) → I (a + 9) = W.1 → I (a + 10) = W.2.1 → I (a + 11) = W.2.2.1 → Rn G l mX9_pass (5, 0, 0, false) 150 [some (.ref a), none] [] ly (I, L, M.2.2) Q := by
    intro I L hfr hsc c_7 c_15 r2 r3 r4 r6 r7 r8 r9 r10 r11
    refine Rn.aload_n dX9_pass_150 rfl ?_
    refine Rn.dup dX9_pass_151 rfl ?_
    refine Rn.getI dX9_pass_152 fX9_107 rfl s0 ?_
    refine Rn.topI (y := M.1 a 14) (hsc 14 (by decide) (by decide)) ?_
    refine Rn.iconstv (v := 1) dX9_pass_155 ic_1 ?_
    refine Rn.iadd dX9_pass_156 ?_
    refine Rn.putI dX9_pass_157 fX9_107 rfl rfl rfl s0 ?_
    refine Rn.vret dX9_pass_160 rfl (hQ (sI (I, L, M.2.2) a (upd (I a) 14 (M.1 a 14 + 1))).1 L (fun k hk => ?_) (fun j j1 j2 j3 => ?_) ?_)
    · exact (sI_ne (by omega)).trans (hfr k (by omega))
    · show (sI (I, L, M.2.2) a _).1 a j = _
      rw [sI_at, pk_un j2]
      exact hsc j j1 j3
    · have g : ∀ k, k ≠ a → (sI (I, L, M.2.2) a (upd (I a) 14 (M.1 a 14 + 1))).1 k = I k := fun k hk => sI_ne hk
      have ga : (sI (I, L, M.2.2) a (upd (I a) 14 (M.1 a 14 + 1))).1 a = upd (I a) 14 (M.1 a 14 + 1) := sI_at _ _ _
      unfold vS vW
      rw [g (a + 2) (by omega), g (a + 3) (by omega), g (a + 6) (by omega), g (a + 7) (by omega), g (a + 9) (by omega), g (a + 10) (by omega), g (a + 11) (by omega), g (a + 4) (by omega), g (a + 8) (by omega), ga, r2, r3, r4, r6, r7, r8, r9, r10, r11, pk_un (show 7 ≠ 14 by decide), pk_us, pk_un (show 15 ≠ 14 by decide), c_7, c_15, hSP, hCH, hW]
      rfl
  have J136 : ∀ (I : Nat → Nat → Int32) (L : Nat → Nat → Int64), (∀ k, (k < a ∨ a + 16 < k ∨ k = a + 12 ∨ k = a + 13 ∨ k = a + 14 ∨ k = a + 15) → I k = M.1 k) → (∀ j, ¬ j = 15 → I a j = M.1 a j) → I a 15 = CH → I (a + 2) = (pre n (nou (M.1 (a + 2)) (M.1 (a + 3)) W.2.2.2.1 (M.1 (a + 15)) (mx 0 (M.1 p 1 - M.1 a 4)) n) (M.1 (a + 2))) → I (a + 3) = (pre n (nsp (M.1 (a + 2)) (M.1 (a + 3)) W.2.2.2.1 (M.1 (a + 15)) (mx 0 (M.1 p 1 - M.1 a 4)) n) (M.1 (a + 3))) → I (a + 4) = (pre n (fun _ => 0) W.2.2.2.1) → I (a + 6) = (if M.1 a 17 = 0 then pre n (nou (M.1 (a + 6)) (M.1 (a + 7)) SP (M.1 (a + 15)) (M.1 p 2) n) (M.1 (a + 6)) else M.1 (a + 6)) → I (a + 7) = (if M.1 a 17 = 0 then pre n (nsp (M.1 (a + 6)) (M.1 (a + 7)) SP (M.1 (a + 15)) (M.1 p 2) n) (M.1 (a + 7)) else M.1 (a + 7)) → I (a + 8) = (if M.1 a 17 = 0 then pre n (fun _ => 0) SP else SP) → I (a + 9) = W.1 → I (a + 10) = W.2.1 → I (a + 11) = W.2.2.1 → Rn G l mX9_pass (5, 0, 0, false) 136 [some (.ref a), none] [] ly (I, L, M.2.2) Q := by
    intro I L hfr hsc c_15 r2 r3 r4 r6 r7 r8 r9 r10 r11
    refine Rn.aload_n dX9_pass_136 rfl ?_
    refine Rn.getR dX9_pass_137 fX9_48 rfl s0 h0 ?_
    refine Rn.getI dX9_pass_140 fX9_178 rfl hp ?_
    refine Rn.topI (y := M.1 p 5) ((congrFun (hfr p (by omega)) 5)) ?_
    refine Rn.if_le dX9_pass_143 (fun gh => ?_) (fun gh => ?_)
    · skip
      exact J150 I L hfr (fun j _ j3 => hsc j j3) (by rw [if_pos gh]; exact hsc 7 (by decide)) c_15 r2 r3 r4 r6 r7 r8 r9 r10 r11
    · skip
      refine Rn.aload_n dX9_pass_146 rfl ?_
      refine Rn.callV0 dX9_pass_147 vX9_181 s0 (by decide) rfl (tX9_losePlanks (M := (I, L, M.2.2)) (p := p) (n := n) hS0 h0 hp hpa ((congrFun (hfr p (by omega)) 0).trans hn) hn12) (by decide) ⟨(Nat.le_of_ble_eq_true rfl), (Nat.le_of_ble_eq_true rfl), (Nat.le_of_ble_eq_true rfl)⟩ (fun h => by cases h) (fun v1 ly1 M1 ⟨q1, q2, q3⟩ => ?_)
      rw [q1, q2, q3]
      refine J150 (sI (I, L, M.2.2) a (upd (I a) 7 (lsP (I (a + 2)) (I p 5) (I a 7) n))).1 L (fun k hk => (sI_ne (by omega)).trans (hfr k hk)) (fun j j1 j3 => ?_) ?_ ?_ ((sI_ne (show a + 2 ≠ a by omega)).trans r2) ((sI_ne (show a + 3 ≠ a by omega)).trans r3) ((sI_ne (show a + 4 ≠ a by omega)).trans r4) ((sI_ne (show a + 6 ≠ a by omega)).trans r6) ((sI_ne (show a + 7 ≠ a by omega)).trans r7) ((sI_ne (show a + 8 ≠ a by omega)).trans r8) ((sI_ne (show a + 9 ≠ a by omega)).trans r9) ((sI_ne (show a + 10 ≠ a by omega)).trans r10) ((sI_ne (show a + 11 ≠ a by omega)).trans r11)
      · rw [sI_at, pk_un j1]; exact hsc j j3
      · rw [sI_at, pk_us, if_neg gh, r2, hfr p (by omega), hsc 7 (by decide)]
      · rw [sI_at, pk_un (show 15 ≠ 7 by decide)]; exact c_15
  have J70 : ∀ (I : Nat → Nat → Int32) (L : Nat → Nat → Int64), (∀ k, (k < a ∨ a + 16 < k ∨ k = a + 12 ∨ k = a + 13 ∨ k = a + 14 ∨ k = a + 15) → I k = M.1 k) → (∀ j, ¬ j = 15 → I a j = M.1 a j) → I a 15 = CH → I (a + 2) = (M.1 (a + 2)) → I (a + 3) = (M.1 (a + 3)) → I (a + 4) = W.2.2.2.1 → I (a + 6) = (M.1 (a + 6)) → I (a + 7) = (M.1 (a + 7)) → I (a + 8) = SP → I (a + 9) = W.1 → I (a + 10) = W.2.1 → I (a + 11) = W.2.2.1 → Rn G l mX9_pass (5, 0, 0, false) 70 [some (.ref a), none] [] ly (I, L, M.2.2) Q := by
    intro I L hfr hsc c_15 r2 r3 r4 r6 r7 r8 r9 r10 r11
    refine Rn.aload_n dX9_pass_70 rfl ?_
    refine Rn.getR dX9_pass_71 fX9_12 rfl s0 e0_5 ?_
    refine Rn.aload_n dX9_pass_74 rfl ?_
    refine Rn.getR dX9_pass_75 fX9_48 rfl s0 h0 ?_
    refine Rn.getI dX9_pass_78 fX9_144 rfl hp ?_
    refine Rn.topI (y := M.1 p 0) ((congrFun (hfr p (by omega)) 0)) ?_
    refine Rn.topI (y := nI n) (hn) ?_
    refine Rn.iconstv (v := 0) dX9_pass_81 ic_0 ?_
    refine Rn.aload_n dX9_pass_82 rfl ?_
    refine Rn.getR dX9_pass_83 fX9_48 rfl s0 h0 ?_
    refine Rn.getI dX9_pass_86 fX9_168 rfl hp ?_
    refine Rn.topI (y := M.1 p 1) ((congrFun (hfr p (by omega)) 1)) ?_
    refine Rn.aload_n dX9_pass_89 rfl ?_
    refine Rn.getI dX9_pass_90 fX9_72 rfl s0 ?_
    refine Rn.topI (y := M.1 a 4) (hsc 4 (by decide)) ?_
    refine Rn.isub dX9_pass_93 ?_
    refine Rn.mmax dX9_pass_94 jX9_126 jw_mmax ⟨(Nat.le_of_ble_eq_true rfl), (Nat.le_of_ble_eq_true rfl)⟩ ?_
    refine Rn.aload_n dX9_pass_97 rfl ?_
    refine Rn.getR dX9_pass_98 fX9_38 rfl s0 e0_12 ?_
    refine Rn.callV3 dX9_pass_101 vX9_171 s1 (by decide) rfl (fX10_move (M := (I, L, M.2.2)) (q := a + 15) (n := n) ⟨s1, s2, s3, s4, e1_0, e1_1, e1_2⟩ s15 (by omega) hn12) (by decide) ⟨(Nat.le_of_ble_eq_true rfl), (Nat.le_of_ble_eq_true rfl), (Nat.le_of_ble_eq_true rfl)⟩ (fun h => by cases h) (fun v1 ly1 M1 ⟨q1, q2, I1, q3, fr1, w1_0, w1_1, w1_2⟩ => ?_)
    rw [q1, q2, q3]
    show Rn G l mX9_pass (5, 0, 0, false) 104 [some (.ref a), none] [] ly (I1, L, M.2.2) Q
    have sa1 : I1 a = I a := fr1 a (by omega)
    refine Rn.aload_n dX9_pass_104 rfl ?_
    refine Rn.getI dX9_pass_105 fX9_83 rfl s0 ?_
    refine Rn.topI (y := M.1 a 17) ((congrFun sa1 17).trans (hsc 17 (by decide))) ?_
    refine Rn.if_ne dX9_pass_108 (fun gu => ?_) (fun gu => ?_)
    · skip
      exact J136 I1 L (fun k hk => (fr1 k (by omega)).trans (hfr k hk)) (fun j j3 => (congrFun sa1 j).trans (hsc j j3)) ((congrFun sa1 15).trans c_15) (((((w1_0).trans (congrArg (fun r9 => pre n (nou r9 ((I, L, M.2.2).1 (a + 3)) ((I, L, M.2.2).1 (a + 4)) ((I, L, M.2.2).1 (a + 15)) (mx 0 (M.1 p 1 - M.1 a 4)) n) r9) (r2))).trans (congrArg (fun r9 => pre n (nou (M.1 (a + 2)) r9 ((I, L, M.2.2).1 (a + 4)) ((I, L, M.2.2).1 (a + 15)) (mx 0 (M.1 p 1 - M.1 a 4)) n) (M.1 (a + 2))) (r3))).trans (congrArg (fun r9 => pre n (nou (M.1 (a + 2)) (M.1 (a + 3)) r9 ((I, L, M.2.2).1 (a + 15)) (mx 0 (M.1 p 1 - M.1 a 4)) n) (M.1 (a + 2))) (r4))).trans (congrArg (fun r9 => pre n (nou (M.1 (a + 2)) (M.1 (a + 3)) W.2.2.2.1 r9 (mx 0 (M.1 p 1 - M.1 a 4)) n) (M.1 (a + 2))) (hfr (a + 15) (by omega)))) (((((w1_1).trans (congrArg (fun r9 => pre n (nsp r9 ((I, L, M.2.2).1 (a + 3)) ((I, L, M.2.2).1 (a + 4)) ((I, L, M.2.2).1 (a + 15)) (mx 0 (M.1 p 1 - M.1 a 4)) n) ((I, L, M.2.2).1 (a + 3))) (r2))).trans (congrArg (fun r9 => pre n (nsp (M.1 (a + 2)) r9 ((I, L, M.2.2).1 (a + 4)) ((I, L, M.2.2).1 (a + 15)) (mx 0 (M.1 p 1 - M.1 a 4)) n) r9) (r3))).trans (congrArg (fun r9 => pre n (nsp (M.1 (a + 2)) (M.1 (a + 3)) r9 ((I, L, M.2.2).1 (a + 15)) (mx 0 (M.1 p 1 - M.1 a 4)) n) (M.1 (a + 3))) (r4))).trans (congrArg (fun r9 => pre n (nsp (M.1 (a + 2)) (M.1 (a + 3)) W.2.2.2.1 r9 (mx 0 (M.1 p 1 - M.1 a 4)) n) (M.1 (a + 3))) (hfr (a + 15) (by omega)))) ((w1_2).trans (congrArg (fun r9 => pre n (fun _ => 0) r9) (r4))) (((fr1 (a + 6) (by omega)).trans (r6)).trans (if_neg gu).symm) (((fr1 (a + 7) (by omega)).trans (r7)).trans (if_neg gu).symm) (((fr1 (a + 8) (by omega)).trans (r8)).trans (if_neg gu).symm) ((fr1 (a + 9) (by omega)).trans (r9)) ((fr1 (a + 10) (by omega)).trans (r10)) ((fr1 (a + 11) (by omega)).trans (r11))
    · skip
      refine Rn.aload_n dX9_pass_111 rfl ?_
      refine Rn.getR dX9_pass_112 fX9_18 rfl s0 e0_6 ?_
      refine Rn.aload_n dX9_pass_115 rfl ?_
      refine Rn.getR dX9_pass_116 fX9_48 rfl s0 h0 ?_
      refine Rn.getI dX9_pass_119 fX9_144 rfl hp ?_
      refine Rn.topI (y := M.1 p 0) ((congrFun ((fr1 p (by omega)).trans (hfr p (by omega))) 0)) ?_
      refine Rn.topI (y := nI n) (hn) ?_
      refine Rn.aload_n dX9_pass_122 rfl ?_
      refine Rn.getR dX9_pass_123 fX9_48 rfl s0 h0 ?_
      refine Rn.getI dX9_pass_126 fX9_175 rfl hp ?_
      refine Rn.topI (y := M.1 p 2) ((congrFun ((fr1 p (by omega)).trans (hfr p (by omega))) 2)) ?_
      refine Rn.aload_n dX9_pass_129 rfl ?_
      refine Rn.getR dX9_pass_130 fX9_38 rfl s0 e0_12 ?_
      refine Rn.callV3 dX9_pass_133 vX9_171 s5 (by decide) rfl (fX10_move (M := (I1, L, M.2.2)) (q := a + 15) (n := n) ⟨s5, s6, s7, s8, e5_0, e5_1, e5_2⟩ s15 (by omega) hn12) (by decide) ⟨(Nat.le_of_ble_eq_true rfl), (Nat.le_of_ble_eq_true rfl), (Nat.le_of_ble_eq_true rfl)⟩ (fun h => by cases h) (fun v1 ly1 M1 ⟨q1, q2, I2, q3, fr2, w2_0, w2_1, w2_2⟩ => ?_)
      rw [q1, q2, q3]
      show Rn G l mX9_pass (5, 0, 0, false) 136 [some (.ref a), none] [] ly (I2, L, M.2.2) Q
      have sa2 : I2 a = I a := (fr2 a (by omega)).trans sa1
      exact J136 I2 L (fun k hk => (fr2 k (by omega)).trans ((fr1 k (by omega)).trans (hfr k hk))) (fun j j3 => (congrFun sa2 j).trans (hsc j j3)) ((congrFun sa2 15).trans c_15) ((fr2 (a + 2) (by omega)).trans (((((w1_0).trans (congrArg (fun r9 => pre n (nou r9 ((I, L, M.2.2).1 (a + 3)) ((I, L, M.2.2).1 (a + 4)) ((I, L, M.2.2).1 (a + 15)) (mx 0 (M.1 p 1 - M.1 a 4)) n) r9) (r2))).trans (congrArg (fun r9 => pre n (nou (M.1 (a + 2)) r9 ((I, L, M.2.2).1 (a + 4)) ((I, L, M.2.2).1 (a + 15)) (mx 0 (M.1 p 1 - M.1 a 4)) n) (M.1 (a + 2))) (r3))).trans (congrArg (fun r9 => pre n (nou (M.1 (a + 2)) (M.1 (a + 3)) r9 ((I, L, M.2.2).1 (a + 15)) (mx 0 (M.1 p 1 - M.1 a 4)) n) (M.1 (a + 2))) (r4))).trans (congrArg (fun r9 => pre n (nou (M.1 (a + 2)) (M.1 (a + 3)) W.2.2.2.1 r9 (mx 0 (M.1 p 1 - M.1 a 4)) n) (M.1 (a + 2))) (hfr (a + 15) (by omega))))) ((fr2 (a + 3) (by omega)).trans (((((w1_1).trans (congrArg (fun r9 => pre n (nsp r9 ((I, L, M.2.2).1 (a + 3)) ((I, L, M.2.2).1 (a + 4)) ((I, L, M.2.2).1 (a + 15)) (mx 0 (M.1 p 1 - M.1 a 4)) n) ((I, L, M.2.2).1 (a + 3))) (r2))).trans (congrArg (fun r9 => pre n (nsp (M.1 (a + 2)) r9 ((I, L, M.2.2).1 (a + 4)) ((I, L, M.2.2).1 (a + 15)) (mx 0 (M.1 p 1 - M.1 a 4)) n) r9) (r3))).trans (congrArg (fun r9 => pre n (nsp (M.1 (a + 2)) (M.1 (a + 3)) r9 ((I, L, M.2.2).1 (a + 15)) (mx 0 (M.1 p 1 - M.1 a 4)) n) (M.1 (a + 3))) (r4))).trans (congrArg (fun r9 => pre n (nsp (M.1 (a + 2)) (M.1 (a + 3)) W.2.2.2.1 r9 (mx 0 (M.1 p 1 - M.1 a 4)) n) (M.1 (a + 3))) (hfr (a + 15) (by omega))))) ((fr2 (a + 4) (by omega)).trans ((w1_2).trans (congrArg (fun r9 => pre n (fun _ => 0) r9) (r4)))) ((((((w2_0).trans (congrArg (fun r9 => pre n (nou r9 ((I1, L, M.2.2).1 (a + 7)) ((I1, L, M.2.2).1 (a + 8)) ((I1, L, M.2.2).1 (a + 15)) (M.1 p 2) n) r9) ((fr1 (a + 6) (by omega)).trans (r6)))).trans (congrArg (fun r9 => pre n (nou (M.1 (a + 6)) r9 ((I1, L, M.2.2).1 (a + 8)) ((I1, L, M.2.2).1 (a + 15)) (M.1 p 2) n) (M.1 (a + 6))) ((fr1 (a + 7) (by omega)).trans (r7)))).trans (congrArg (fun r9 => pre n (nou (M.1 (a + 6)) (M.1 (a + 7)) r9 ((I1, L, M.2.2).1 (a + 15)) (M.1 p 2) n) (M.1 (a + 6))) ((fr1 (a + 8) (by omega)).trans (r8)))).trans (congrArg (fun r9 => pre n (nou (M.1 (a + 6)) (M.1 (a + 7)) SP r9 (M.1 p 2) n) (M.1 (a + 6))) ((fr1 (a + 15) (by omega)).trans (hfr (a + 15) (by omega))))).trans (if_pos gu).symm) ((((((w2_1).trans (congrArg (fun r9 => pre n (nsp r9 ((I1, L, M.2.2).1 (a + 7)) ((I1, L, M.2.2).1 (a + 8)) ((I1, L, M.2.2).1 (a + 15)) (M.1 p 2) n) ((I1, L, M.2.2).1 (a + 7))) ((fr1 (a + 6) (by omega)).trans (r6)))).trans (congrArg (fun r9 => pre n (nsp (M.1 (a + 6)) r9 ((I1, L, M.2.2).1 (a + 8)) ((I1, L, M.2.2).1 (a + 15)) (M.1 p 2) n) r9) ((fr1 (a + 7) (by omega)).trans (r7)))).trans (congrArg (fun r9 => pre n (nsp (M.1 (a + 6)) (M.1 (a + 7)) r9 ((I1, L, M.2.2).1 (a + 15)) (M.1 p 2) n) (M.1 (a + 7))) ((fr1 (a + 8) (by omega)).trans (r8)))).trans (congrArg (fun r9 => pre n (nsp (M.1 (a + 6)) (M.1 (a + 7)) SP r9 (M.1 p 2) n) (M.1 (a + 7))) ((fr1 (a + 15) (by omega)).trans (hfr (a + 15) (by omega))))).trans (if_pos gu).symm) (((w2_2).trans (congrArg (fun r9 => pre n (fun _ => 0) r9) ((fr1 (a + 8) (by omega)).trans (r8)))).trans (if_pos gu).symm) ((fr2 (a + 9) (by omega)).trans ((fr1 (a + 9) (by omega)).trans (r9))) ((fr2 (a + 10) (by omega)).trans ((fr1 (a + 10) (by omega)).trans (r10))) ((fr2 (a + 11) (by omega)).trans ((fr1 (a + 11) (by omega)).trans (r11)))
  have J49 : ∀ (I : Nat → Nat → Int32) (L : Nat → Nat → Int64), (∀ k, (k < a ∨ a + 16 < k ∨ k = a + 12 ∨ k = a + 13 ∨ k = a + 14 ∨ k = a + 15) → I k = M.1 k) → (∀ j, I a j = M.1 a j) → I (a + 2) = (M.1 (a + 2)) → I (a + 3) = (M.1 (a + 3)) → I (a + 4) = W.2.2.2.1 → I (a + 6) = (M.1 (a + 6)) → I (a + 7) = (M.1 (a + 7)) → I (a + 8) = W.2.2.2.2 → I (a + 9) = W.1 → I (a + 10) = W.2.1 → I (a + 11) = W.2.2.1 → Rn G l mX9_pass (5, 0, 0, false) 49 [some (.ref a), none] [] ly (I, L, M.2.2) Q := by
    intro I L hfr hsc  r2 r3 r4 r6 r7 r8 r9 r10 r11
    refine Rn.aload_n dX9_pass_49 rfl ?_
    refine Rn.getI dX9_pass_50 fX9_79 rfl s0 ?_
    refine Rn.topI (y := M.1 a 16) (hsc 16 ) ?_
    refine Rn.if_eq dX9_pass_53 (fun gb => ?_) (fun gb => ?_)
    · skip
      exact J70 I L hfr (fun j _ => hsc j) (by rw [hCH]; unfold gsC; rw [if_pos gb]; exact hsc 15) r2 r3 r4 r6 r7 (by rw [hSP]; unfold gsP; rw [if_pos gb]; exact r8) r9 r10 r11
    · skip
      refine Rn.aload_n dX9_pass_56 rfl ?_
      refine Rn.getR dX9_pass_57 fX9_48 rfl s0 h0 ?_
      refine Rn.getI dX9_pass_60 fX9_162 rfl hp ?_
      refine Rn.topI (y := M.1 p 6) ((congrFun (hfr p (by omega)) 6)) ?_
      refine Rn.if_le dX9_pass_63 (fun gg => ?_) (fun gg => ?_)
      · skip
        exact J70 I L hfr (fun j _ => hsc j) (by rw [hCH]; unfold gsC; rw [if_neg gb, if_pos gg]; exact hsc 15) r2 r3 r4 r6 r7 (by rw [hSP]; unfold gsP; rw [if_neg gb, if_pos gg]; exact r8) r9 r10 r11
      · skip
        refine Rn.aload_n dX9_pass_66 rfl ?_
        refine Rn.callV0 dX9_pass_67 vX9_165 s0 (by decide) rfl (tX9_gust (M := (I, L, M.2.2)) (p := p) (n := n) hS0 h0 hp hpa ((congrFun (hfr p (by omega)) 0).trans hn) hn12 (by show ¬ 2 * I p 6 + 1 = 0; rw [hfr p (by omega)]; exact hgl)) (by decide) ⟨(Nat.le_of_ble_eq_true rfl), (Nat.le_of_ble_eq_true rfl), (Nat.le_of_ble_eq_true rfl)⟩ (fun h => by cases h) (fun v1 ly1 M1 ⟨q1, q2, q3⟩ => ?_)
        rw [q1, q2, q3]
        refine J70 (sI (sI (I, L, M.2.2) a (upd (I a) 15 (nxts (I a 15) n))) (a + 8) (pre n (fun j => I (a + 8) j + gus (nxts (I a 15) (j + 1)) (I p 6)) (I (a + 8)))).1 L (fun k hk => (sI_ne (by omega)).trans ((sI_ne (by omega)).trans (hfr k hk))) (fun j j3 => ?_) ?_ ((sI_ne (show a + 2 ≠ a + 8 by omega)).trans ((sI_ne (show a + 2 ≠ a by omega)).trans r2)) ((sI_ne (show a + 3 ≠ a + 8 by omega)).trans ((sI_ne (show a + 3 ≠ a by omega)).trans r3)) ((sI_ne (show a + 4 ≠ a + 8 by omega)).trans ((sI_ne (show a + 4 ≠ a by omega)).trans r4)) ((sI_ne (show a + 6 ≠ a + 8 by omega)).trans ((sI_ne (show a + 6 ≠ a by omega)).trans r6)) ((sI_ne (show a + 7 ≠ a + 8 by omega)).trans ((sI_ne (show a + 7 ≠ a by omega)).trans r7)) ?_ ((sI_ne (show a + 9 ≠ a + 8 by omega)).trans ((sI_ne (show a + 9 ≠ a by omega)).trans r9)) ((sI_ne (show a + 10 ≠ a + 8 by omega)).trans ((sI_ne (show a + 10 ≠ a by omega)).trans r10)) ((sI_ne (show a + 11 ≠ a + 8 by omega)).trans ((sI_ne (show a + 11 ≠ a by omega)).trans r11))
        · rw [sI_ne (show a ≠ a + 8 by omega), sI_at, pk_un j3]; exact hsc j
        · rw [sI_ne (show a ≠ a + 8 by omega), sI_at, pk_us, hCH]; unfold gsC; rw [if_neg gb, if_neg gg, hsc 15]
        · rw [sI_at, hSP]; unfold gsP; rw [if_neg gb, if_neg gg, hsc 15, r8, hfr p (by omega)]
  refine Rn.iconstv (v := 0) dX9_pass_0 ic_0 ?_
  refine Rn.istore_n (lv' := [some (.ref a), some (.int 0)]) dX9_pass_1 (by decide) rfl ?_
  have loop : ∀ (k i : Nat) (I : Nat → Nat → Int32) (L : Nat → Nat → Int64), i + k = nw → (∀ k, (k < a ∨ a + 16 < k ∨ k = a ∨ k = a + 2 ∨ k = a + 3 ∨ k = a + 6 ∨ k = a + 7 ∨ k = a + 12 ∨ k = a + 13 ∨ k = a + 14 ∨ k = a + 15) → I k = M.1 k) → vW I a = itF (wkG (nI n) (M.1 a 14) (M.1 a 4) (M.1 a 7) (M.1 a 17) (M.1 (a + 2)) (M.1 (c + 1)) (M.1 (c + 2)) (M.1 (c + 3)) (M.1 (c + 4)) (M.1 (c + 5)) (fun m => valL m (M.1 (u + 1)) nu) (fun m => valL m (M.1 (v + 1)) nv)) i (vW M.1 a) → Rn G l mX9_pass (5, 0, 0, false) 2 [some (.ref a), some (.int (nI i))] [] ly (I, L, M.2.2) Q := by
    intro k
    induction k with
    | zero =>
      intro i I L hi hfr hv
      refine Rn.iload_n dX9_pass_2 rfl ?_
      refine Rn.aload_n dX9_pass_3 rfl ?_
      refine Rn.getR dX9_pass_4 fX9_58 rfl s0 h1 ?_
      refine Rn.getI dX9_pass_7 fX9_151 rfl c0 ?_
      refine Rn.topI (y := M.1 c 0) ((congrFun (hfr c (by omega)) 0)) ?_
      refine Rn.topI (y := nI nw) (hnw) ?_
      refine Rn.icmp_ge dX9_pass_10 (fun hc => ?_) (fun hc => ?_)
      · skip
        have hi : i = nw := by omega
        subst hi
        refine Rn.forget (lv' := [some (.ref a), none]) (⟨rfl, trivial⟩) ?_
        have hv : vW I a = W := hv.trans hW.symm
        exact J49 I L (fun k hk => hfr k (by omega)) (fun j => congrFun (hfr a (by omega)) j) (hfr (a + 2) (by omega)) (hfr (a + 3) (by omega)) (congrArg (fun x : W5 => x.2.2.2.1) hv) (hfr (a + 6) (by omega)) (hfr (a + 7) (by omega)) (congrArg (fun x : W5 => x.2.2.2.2) hv) (congrArg (fun x : W5 => x.1) hv) (congrArg (fun x : W5 => x.2.1) hv) (congrArg (fun x : W5 => x.2.2.1) hv)
      · exact absurd (nI_le (a := nw) (b := i) (by omega) (by omega)) hc
    | succ k ih =>
      intro i I L hi hfr hv
      refine Rn.iload_n dX9_pass_2 rfl ?_
      refine Rn.aload_n dX9_pass_3 rfl ?_
      refine Rn.getR dX9_pass_4 fX9_58 rfl s0 h1 ?_
      refine Rn.getI dX9_pass_7 fX9_151 rfl c0 ?_
      refine Rn.topI (y := M.1 c 0) ((congrFun (hfr c (by omega)) 0)) ?_
      refine Rn.topI (y := nI nw) (hnw) ?_
      refine Rn.icmp_ge dX9_pass_10 (fun hc => ?_) (fun hc => ?_)
      · exact absurd hc (nI_ge (a := i) (b := nw) (by omega) (by omega))
      · skip
        have hg : itF (wkG (nI n) (M.1 a 14) (M.1 a 4) (M.1 a 7) (M.1 a 17) (M.1 (a + 2)) (M.1 (c + 1)) (M.1 (c + 2)) (M.1 (c + 3)) (M.1 (c + 4)) (M.1 (c + 5)) (fun m => valL m (M.1 (u + 1)) nu) (fun m => valL m (M.1 (v + 1)) nv)) (i + 1) (vW M.1 a) = wkG (nI n) (M.1 a 14) (M.1 a 4) (M.1 a 7) (M.1 a 17) (M.1 (a + 2)) (M.1 (c + 1)) (M.1 (c + 2)) (M.1 (c + 3)) (M.1 (c + 4)) (M.1 (c + 5)) (fun m => valL m (M.1 (u + 1)) nu) (fun m => valL m (M.1 (v + 1)) nv) i (vW I a) := by rw [hv]; rfl
        refine Rn.aload_n dX9_pass_13 rfl ?_
        refine Rn.getR dX9_pass_14 fX9_28 rfl s0 e0_10 ?_
        refine Rn.iload_n dX9_pass_17 rfl ?_
        refine Rn.ialdN (k0 := i) dX9_pass_18 s11 (by omega) (by decide) ?_
        refine Rn.iconstv (v := 2) dX9_pass_19 ic_2 ?_
        refine Rn.icmp_eq dX9_pass_20 (fun g2 => ?_) (fun g2 => ?_)
        · skip
          refine Rn.iincN (lv' := [some (.ref a), some (.int (nI (i + 1)))]) dX9_pass_43 rfl (by decide) rfl ?_
          refine Rn.goto dX9_pass_46 ?_
          exact ih (i + 1) I L (by omega) hfr (hg.trans (wkG_a g2)).symm
        · skip
          refine Rn.aload_n dX9_pass_23 rfl ?_
          refine Rn.getR dX9_pass_24 fX9_58 rfl s0 h1 ?_
          refine Rn.iload_n dX9_pass_27 rfl ?_
          refine Rn.aload_n dX9_pass_28 rfl ?_
          refine Rn.getI dX9_pass_29 fX9_107 rfl s0 ?_
          refine Rn.topI (y := M.1 a 14) ((congrFun (hfr a (by omega)) 14)) ?_
          refine Rn.callV2 dX9_pass_32 vX9_154 c0 (by decide) rfl (tX0_stepsAt (M := (I, L, M.2.2)) hcr0 (by omega)) (by decide) ⟨(Nat.le_of_ble_eq_true rfl), (Nat.le_of_ble_eq_true rfl), (Nat.le_of_ble_eq_true rfl)⟩ (fun h => by cases h) (fun v1 ly1 M1 ⟨q1, q2, q3⟩ => ?_)
          rw [q1, q2, q3]
          refine Rn.topI (y := stpAt (M.1 a 14) (M.1 (c + 3) i) (M.1 (c + 2) i)) (by show stpAt (M.1 a 14) (I (c + 3) i) (I (c + 2) i) = _; rw [hfr (c + 3) (by omega), hfr (c + 2) (by omega)]) ?_
          refine Rn.if_eq dX9_pass_35 (fun g3 => ?_) (fun g3 => ?_)
          · skip
            refine Rn.iincN (lv' := [some (.ref a), some (.int (nI (i + 1)))]) dX9_pass_43 rfl (by decide) rfl ?_
            refine Rn.goto dX9_pass_46 ?_
            exact ih (i + 1) I L (by omega) hfr (hg.trans (wkG_b g2 g3)).symm
          · skip
            refine Rn.aload_n dX9_pass_38 rfl ?_
            refine Rn.iload_n dX9_pass_39 rfl ?_
            refine Rn.callV1 dX9_pass_40 vX9_158 s0 (by decide) rfl (tX9_step (M := (I, L, M.2.2)) (Q := fun v0 ly0 M0 => v0 = none ∧ ly0 = ly ∧ ∃ (I' : Nat → Nat → Int32) (L' : Nat → Nat → Int64), M0 = (I', L', M.2.2) ∧ (∀ k, (k < a ∨ a + 16 < k ∨ k = a ∨ k = a + 2 ∨ k = a + 3 ∨ k = a + 6 ∨ k = a + 7 ∨ k = a + 12 ∨ k = a + 13 ∨ k = a + 14 ∨ k = a + 15) → I' k = M.1 k) ∧ vW I' a = itF (wkG (nI n) (M.1 a 14) (M.1 a 4) (M.1 a 7) (M.1 a 17) (M.1 (a + 2)) (M.1 (c + 1)) (M.1 (c + 2)) (M.1 (c + 3)) (M.1 (c + 4)) (M.1 (c + 5)) (fun m => valL m (M.1 (u + 1)) nu) (fun m => valL m (M.1 (v + 1)) nv)) (i + 1) (vW M.1 a)) (p := p) (c := c) (u := u) (v := v) (n := n) (nu := nu) (nv := nv) hS0 (by omega) h0 hp hpa ((congrFun (hfr p (by omega)) 0).trans hn) hn12 h1 hcr0 hca h2 hlu hua h3 hlv hva ((congrFun (hfr u (by omega)) 0).trans hnu) hnu64 ((congrFun (hfr v (by omega)) 0).trans hnv) hnv64 (fun I' L' hf hst => ⟨rfl, rfl, I', L', rfl, fun k hk => (hf k hk).trans (hfr k hk), by rw [hg, wkG_c g2 g3]; have hst := stW_eq hst; dsimp only at hst; rw [hfr a (by omega), hfr (a + 2) (by omega), hfr (c + 1) (by omega), hfr (c + 4) (by omega), hfr (c + 5) (by omega), hfr (u + 1) (by omega), hfr (v + 1) (by omega)] at hst; exact hst⟩)) (by decide) ⟨(Nat.le_of_ble_eq_true rfl), (Nat.le_of_ble_eq_true rfl), (Nat.le_of_ble_eq_true rfl)⟩ (fun h => by cases h) (fun v1 ly1 M1 ⟨q1, q2, I', L', q3, hf', hv'⟩ => ?_)
            rw [q1, q2, q3]
            refine Rn.iincN (lv' := [some (.ref a), some (.int (nI (i + 1)))]) dX9_pass_43 rfl (by decide) rfl ?_
            refine Rn.goto dX9_pass_46 ?_
            exact ih (i + 1) I' L' (by omega) hf' hv'
  exact loop nw 0 M.1 M.2.1 (by omega) (fun _ _ => rfl) rfl
