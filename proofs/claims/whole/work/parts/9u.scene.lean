def scLy : Ly := [.inr 9, .inr 10, .inl (0, 12), .inl (0, 12), .inl (0, 12), .inr 10, .inl (0, 12), .inl (0, 12), .inl (0, 12), .inl (0, 6), .inl (0, 6), .inl (0, 6), .inr 2, .inl (0, 8), .inl (0, 8), .inl (0, 12), .inl (0, 6)]
def scFin : List (Nat × Nat × Nat) := [(0, 5, 1), (0, 6, 5), (0, 8, 9), (0, 9, 10), (0, 10, 11), (0, 11, 12), (0, 12, 15), (0, 13, 16), (1, 0, 2), (1, 1, 3), (1, 2, 4), (5, 0, 6), (5, 1, 7), (5, 2, 8), (12, 1, 13), (12, 2, 14)]
def SPW (ly : Ly) (R : Nat → Nat → Option Nat) (pl sc : Nat) : Prop := PWd ly R pl ∧ (∀ k, k < 17 → ly[sc + k]? = scLy[k]?) ∧ ∀ q ∈ scFin, R (sc + q.1) q.2.1 = some (sc + q.2.2)
theorem sg0 {ly : Ly} {R : Nat → Nat → Option Nat} {pl sc : Nat} (h : SPW ly R pl sc) : ly[sc + 0]? = some (.inr 9) := h.2.1 0 (by decide)
theorem sg1 {ly : Ly} {R : Nat → Nat → Option Nat} {pl sc : Nat} (h : SPW ly R pl sc) : ly[sc + 1]? = some (.inr 10) := h.2.1 1 (by decide)
theorem sg2 {ly : Ly} {R : Nat → Nat → Option Nat} {pl sc : Nat} (h : SPW ly R pl sc) : ly[sc + 2]? = some (.inl (0, 12)) := h.2.1 2 (by decide)
theorem sg3 {ly : Ly} {R : Nat → Nat → Option Nat} {pl sc : Nat} (h : SPW ly R pl sc) : ly[sc + 3]? = some (.inl (0, 12)) := h.2.1 3 (by decide)
theorem sg4 {ly : Ly} {R : Nat → Nat → Option Nat} {pl sc : Nat} (h : SPW ly R pl sc) : ly[sc + 4]? = some (.inl (0, 12)) := h.2.1 4 (by decide)
theorem sg5 {ly : Ly} {R : Nat → Nat → Option Nat} {pl sc : Nat} (h : SPW ly R pl sc) : ly[sc + 5]? = some (.inr 10) := h.2.1 5 (by decide)
theorem sg6 {ly : Ly} {R : Nat → Nat → Option Nat} {pl sc : Nat} (h : SPW ly R pl sc) : ly[sc + 6]? = some (.inl (0, 12)) := h.2.1 6 (by decide)
theorem sg7 {ly : Ly} {R : Nat → Nat → Option Nat} {pl sc : Nat} (h : SPW ly R pl sc) : ly[sc + 7]? = some (.inl (0, 12)) := h.2.1 7 (by decide)
theorem sg8 {ly : Ly} {R : Nat → Nat → Option Nat} {pl sc : Nat} (h : SPW ly R pl sc) : ly[sc + 8]? = some (.inl (0, 12)) := h.2.1 8 (by decide)
theorem sg9 {ly : Ly} {R : Nat → Nat → Option Nat} {pl sc : Nat} (h : SPW ly R pl sc) : ly[sc + 9]? = some (.inl (0, 6)) := h.2.1 9 (by decide)
theorem sg10 {ly : Ly} {R : Nat → Nat → Option Nat} {pl sc : Nat} (h : SPW ly R pl sc) : ly[sc + 10]? = some (.inl (0, 6)) := h.2.1 10 (by decide)
theorem sg11 {ly : Ly} {R : Nat → Nat → Option Nat} {pl sc : Nat} (h : SPW ly R pl sc) : ly[sc + 11]? = some (.inl (0, 6)) := h.2.1 11 (by decide)
theorem sg12 {ly : Ly} {R : Nat → Nat → Option Nat} {pl sc : Nat} (h : SPW ly R pl sc) : ly[sc + 12]? = some (.inr 2) := h.2.1 12 (by decide)
theorem sg13 {ly : Ly} {R : Nat → Nat → Option Nat} {pl sc : Nat} (h : SPW ly R pl sc) : ly[sc + 13]? = some (.inl (0, 8)) := h.2.1 13 (by decide)
theorem sg14 {ly : Ly} {R : Nat → Nat → Option Nat} {pl sc : Nat} (h : SPW ly R pl sc) : ly[sc + 14]? = some (.inl (0, 8)) := h.2.1 14 (by decide)
theorem sg15 {ly : Ly} {R : Nat → Nat → Option Nat} {pl sc : Nat} (h : SPW ly R pl sc) : ly[sc + 15]? = some (.inl (0, 12)) := h.2.1 15 (by decide)
theorem sg16 {ly : Ly} {R : Nat → Nat → Option Nat} {pl sc : Nat} (h : SPW ly R pl sc) : ly[sc + 16]? = some (.inl (0, 6)) := h.2.1 16 (by decide)
theorem sgp0_5 {ly : Ly} {R : Nat → Nat → Option Nat} {pl sc : Nat} (h : SPW ly R pl sc) : R (sc + 0) 5 = some (sc + 1) := h.2.2 (0, 5, 1) (by decide)
theorem sgp0_6 {ly : Ly} {R : Nat → Nat → Option Nat} {pl sc : Nat} (h : SPW ly R pl sc) : R (sc + 0) 6 = some (sc + 5) := h.2.2 (0, 6, 5) (by decide)
theorem sgp0_8 {ly : Ly} {R : Nat → Nat → Option Nat} {pl sc : Nat} (h : SPW ly R pl sc) : R (sc + 0) 8 = some (sc + 9) := h.2.2 (0, 8, 9) (by decide)
theorem sgp0_9 {ly : Ly} {R : Nat → Nat → Option Nat} {pl sc : Nat} (h : SPW ly R pl sc) : R (sc + 0) 9 = some (sc + 10) := h.2.2 (0, 9, 10) (by decide)
theorem sgp0_10 {ly : Ly} {R : Nat → Nat → Option Nat} {pl sc : Nat} (h : SPW ly R pl sc) : R (sc + 0) 10 = some (sc + 11) := h.2.2 (0, 10, 11) (by decide)
theorem sgp0_11 {ly : Ly} {R : Nat → Nat → Option Nat} {pl sc : Nat} (h : SPW ly R pl sc) : R (sc + 0) 11 = some (sc + 12) := h.2.2 (0, 11, 12) (by decide)
theorem sgp0_12 {ly : Ly} {R : Nat → Nat → Option Nat} {pl sc : Nat} (h : SPW ly R pl sc) : R (sc + 0) 12 = some (sc + 15) := h.2.2 (0, 12, 15) (by decide)
theorem sgp0_13 {ly : Ly} {R : Nat → Nat → Option Nat} {pl sc : Nat} (h : SPW ly R pl sc) : R (sc + 0) 13 = some (sc + 16) := h.2.2 (0, 13, 16) (by decide)
theorem sgp1_0 {ly : Ly} {R : Nat → Nat → Option Nat} {pl sc : Nat} (h : SPW ly R pl sc) : R (sc + 1) 0 = some (sc + 2) := h.2.2 (1, 0, 2) (by decide)
theorem sgp1_1 {ly : Ly} {R : Nat → Nat → Option Nat} {pl sc : Nat} (h : SPW ly R pl sc) : R (sc + 1) 1 = some (sc + 3) := h.2.2 (1, 1, 3) (by decide)
theorem sgp1_2 {ly : Ly} {R : Nat → Nat → Option Nat} {pl sc : Nat} (h : SPW ly R pl sc) : R (sc + 1) 2 = some (sc + 4) := h.2.2 (1, 2, 4) (by decide)
theorem sgp5_0 {ly : Ly} {R : Nat → Nat → Option Nat} {pl sc : Nat} (h : SPW ly R pl sc) : R (sc + 5) 0 = some (sc + 6) := h.2.2 (5, 0, 6) (by decide)
theorem sgp5_1 {ly : Ly} {R : Nat → Nat → Option Nat} {pl sc : Nat} (h : SPW ly R pl sc) : R (sc + 5) 1 = some (sc + 7) := h.2.2 (5, 1, 7) (by decide)
theorem sgp5_2 {ly : Ly} {R : Nat → Nat → Option Nat} {pl sc : Nat} (h : SPW ly R pl sc) : R (sc + 5) 2 = some (sc + 8) := h.2.2 (5, 2, 8) (by decide)
theorem sgp12_1 {ly : Ly} {R : Nat → Nat → Option Nat} {pl sc : Nat} (h : SPW ly R pl sc) : R (sc + 12) 1 = some (sc + 13) := h.2.2 (12, 1, 13) (by decide)
theorem sgp12_2 {ly : Ly} {R : Nat → Nat → Option Nat} {pl sc : Nat} (h : SPW ly R pl sc) : R (sc + 12) 2 = some (sc + 14) := h.2.2 (12, 2, 14) (by decide)
theorem SPW.scn {ly : Ly} {M : Mm} {pl sc : Nat} (h : SPW ly M.2.2 pl sc) : iScene ly M sc := ⟨sg0 h, sg1 h, sg2 h, sg3 h, sg4 h, sg5 h, sg6 h, sg7 h, sg8 h, sg9 h, sg10 h, sg11 h, sg12 h, sg13 h, sg14 h, sg15 h, sg16 h, sgp0_5 h, sgp0_6 h, sgp0_8 h, sgp0_9 h, sgp0_10 h, sgp0_11 h, sgp0_12 h, sgp0_13 h, sgp1_0 h, sgp1_1 h, sgp1_2 h, sgp5_0 h, sgp5_1 h, sgp5_2 h, sgp12_1 h, sgp12_2 h⟩
theorem SPW.rsc {ly : Ly} {R : Nat → Nat → Option Nat} {pl sc : Nat} (h : SPW ly R pl sc) (hp : pl + 34 ≤ sc) {p c u v : Nat} : SPW ly (rSc R sc p c u v) pl sc := by
  refine ⟨⟨h.1.1, fun q hq => ?_⟩, h.2.1, fun q hq => ?_⟩
  · have hlt : q.1 < 34 := (by decide : ∀ q ∈ plFin, q.1 < 34) q hq
    show (if pl + q.1 = sc then _ else R (pl + q.1) : Nat → Option Nat) q.2.1 = _
    rw [if_neg (by omega)]
    exact h.1.2 q hq
  · show (if sc + q.1 = sc then _ else R (sc + q.1) : Nat → Option Nat) q.2.1 = _
    by_cases e : q.1 = 0
    · rw [if_pos (by omega)]
      have h3 : q.1 = 0 → 3 < q.2.1 := (by decide : ∀ q ∈ scFin, q.1 = 0 → 3 < q.2.1) q hq
      have h4 := h3 e
      rw [upR_n (by omega), upR_n (by omega), upR_n (by omega), upR_n (by omega)]
      have h5 := h.2.2 q hq
      rw [e] at h5
      exact h5
    · rw [if_neg (by omega)]
      exact h.2.2 q hq
theorem tX9_beginG {G : Gx} {l : Launch} {ly : Ly} {M : Mm} {pl sc nf : Nat} (hp : pl + 34 ≤ sc) (hf : M.1 (pl + 13) 0 = nI nf ∧ nf ≤ 8 ∧ ∀ i, i < nf → vp_in (M.1 (pl + 14) i) 12) (hX : SPW ly M.2.2 pl sc) {Q : Qt} (hQ : ∀ K : Mm, K.2.2 = rSc M.2.2 sc pl (pl + 7) (pl + 18) (pl + 21) → (∀ a, ¬ (sc ≤ a ∧ a ≤ (sc + 15)) → K.1 a = M.1 a) → (K.1 sc 4 = M.1 pl 4 ∧ K.1 sc 15 = M.1 pl 7 ∧ K.1 sc 16 = 0 ∧ K.1 sc 17 = 0 ∧ K.1 sc 7 = 0 ∧ K.1 sc 14 = 0) → (K.1 (sc + 2) = pre 12 (fun _ => 0) (M.1 (sc + 2)) ∧ K.1 (sc + 3) = pre 12 (fun _ => 0) (M.1 (sc + 3)) ∧ K.1 (sc + 6) = pre 12 (fun _ => 0) (M.1 (sc + 6)) ∧ K.1 (sc + 7) = pre 12 (fun _ => 0) (M.1 (sc + 7)) ∧ K.1 (sc + 9) = pre 6 (fun _ => 0) (M.1 (sc + 9)) ∧ K.1 (sc + 10) = pre 6 (fun _ => 0) (M.1 (sc + 10)) ∧ K.1 (sc + 11) = pre 6 (fun _ => 0) (M.1 (sc + 11)) ∧ K.1 (sc + 4) = pre 12 (fun _ => 0) (M.1 (sc + 4)) ∧ K.1 (sc + 8) = pre 12 (fun _ => 0) (M.1 (sc + 8))) → (K.1 (sc + 12) 0 = nI nf ∧ K.1 (sc + 13) = pre 8 (M.1 (pl + 14)) (M.1 (sc + 13)) ∧ K.1 (sc + 14) = pre 8 (M.1 (pl + 15)) (M.1 (sc + 14)) ∧ K.1 (sc + 15) = rfC (M.1 pl 3) (K.1 (sc + 13)) (K.1 (sc + 14)) (M.1 (sc + 15)) nf) → Q none ly K) : Mt G l mX9_begin (4, 0, 0, false) [.ref sc, .ref pl] ly M Q := by
  refine Mt.of (lv := [some (.ref sc), some (.ref pl)]) rfl ?_
  refine Rn.aload_n dX9_begin_0 rfl ?_
  refine Rn.aload_n dX9_begin_1 rfl ?_
  refine Rn.putR dX9_begin_2 fX9_48 rfl rfl (by decide +kernel) (sg0 hX) ?_
  refine Rn.aload_n dX9_begin_5 rfl ?_
  refine Rn.aload_n dX9_begin_6 rfl ?_
  refine Rn.getR dX9_begin_7 fX9_52 rfl (pcg0 hX.1) (show (sR M sc (va_up (M.2.2 sc) 0 (some pl))).2.2 pl 11 = some (pl + 7) from ((congrFun (sR_ne (show pl ≠ sc by omega)) 11).trans (ppg0_11 hX.1))) ?_
  refine Rn.putR dX9_begin_10 fX9_58 rfl rfl (by decide +kernel) (sg0 hX) ?_
  refine Rn.meq (M2 := sR M sc (va_up (va_up (M.2.2 sc) 0 (some pl)) 1 (some (pl + 7)))) (by rw [sR_at, sR_sR]) ?_
  refine Rn.aload_n dX9_begin_13 rfl ?_
  refine Rn.aload_n dX9_begin_14 rfl ?_
  refine Rn.getR dX9_begin_15 fX9_59 rfl (pcg0 hX.1) (show (sR M sc (va_up (va_up (M.2.2 sc) 0 (some pl)) 1 (some (pl + 7)))).2.2 pl 15 = some (pl + 18) from ((congrFun (sR_ne (show pl ≠ sc by omega)) 15).trans (ppg0_15 hX.1))) ?_
  refine Rn.putR dX9_begin_18 fX9_63 rfl rfl (by decide +kernel) (sg0 hX) ?_
  refine Rn.meq (M2 := sR M sc (va_up (va_up (va_up (M.2.2 sc) 0 (some pl)) 1 (some (pl + 7))) 2 (some (pl + 18)))) (by rw [sR_at, sR_sR]) ?_
  refine Rn.aload_n dX9_begin_21 rfl ?_
  refine Rn.aload_n dX9_begin_22 rfl ?_
  refine Rn.getR dX9_begin_23 fX9_64 rfl (pcg0 hX.1) (show (sR M sc (va_up (va_up (va_up (M.2.2 sc) 0 (some pl)) 1 (some (pl + 7))) 2 (some (pl + 18)))).2.2 pl 16 = some (pl + 21) from ((congrFun (sR_ne (show pl ≠ sc by omega)) 16).trans (ppg0_16 hX.1))) ?_
  refine Rn.putR dX9_begin_26 fX9_67 rfl rfl (by decide +kernel) (sg0 hX) ?_
  refine Rn.meq (M2 := sR M sc (va_up (va_up (va_up (va_up (M.2.2 sc) 0 (some pl)) 1 (some (pl + 7))) 2 (some (pl + 18))) 3 (some (pl + 21)))) (by rw [sR_at, sR_sR]) ?_
  refine Rn.aload_n dX9_begin_29 rfl ?_
  refine Rn.aload_n dX9_begin_30 rfl ?_
  refine Rn.getI dX9_begin_31 fX9_68 rfl (pcg0 hX.1) ?_
  refine Rn.putI dX9_begin_34 fX9_72 rfl rfl rfl (sg0 hX) ?_
  refine Rn.aload_n dX9_begin_37 rfl ?_
  refine Rn.aload_n dX9_begin_38 rfl ?_
  refine Rn.getI dX9_begin_39 fX9_73 rfl (pcg0 hX.1) ?_
  refine Rn.topI (y := M.1 pl 7) ((congrFun (sI_ne (show pl ≠ sc by omega)) 7)) ?_
  refine Rn.putI dX9_begin_42 fX9_76 rfl rfl rfl (sg0 hX) ?_
  refine Rn.meq (M2 := sI (sR M sc (va_up (va_up (va_up (va_up (M.2.2 sc) 0 (some pl)) 1 (some (pl + 7))) 2 (some (pl + 18))) 3 (some (pl + 21)))) sc (upd (upd (M.1 sc) 4 (M.1 pl 4)) 15 (M.1 pl 7))) (by first | (rw [sI_at, sI_sI]; done) | (rw [sI_at, sI_sI]; rfl)) ?_
  refine Rn.aload_n dX9_begin_45 rfl ?_
  refine Rn.iconstv (v := 0) dX9_begin_46 ic_0 ?_
  refine Rn.putZ dX9_begin_47 fX9_79 rfl rfl rfl (by first | omega | decide) (sg0 hX) ?_
  refine Rn.meq (M2 := sI (sR M sc (va_up (va_up (va_up (va_up (M.2.2 sc) 0 (some pl)) 1 (some (pl + 7))) 2 (some (pl + 18))) 3 (some (pl + 21)))) sc (upd (upd (upd (M.1 sc) 4 (M.1 pl 4)) 15 (M.1 pl 7)) 16 0)) (by first | (rw [sI_at, sI_sI]; done) | (rw [sI_at, sI_sI]; rfl)) ?_
  refine Rn.aload_n dX9_begin_50 rfl ?_
  refine Rn.iconstv (v := 0) dX9_begin_51 ic_0 ?_
  refine Rn.putZ dX9_begin_52 fX9_83 rfl rfl rfl (by first | omega | decide) (sg0 hX) ?_
  refine Rn.meq (M2 := sI (sR M sc (va_up (va_up (va_up (va_up (M.2.2 sc) 0 (some pl)) 1 (some (pl + 7))) 2 (some (pl + 18))) 3 (some (pl + 21)))) sc (upd (upd (upd (upd (M.1 sc) 4 (M.1 pl 4)) 15 (M.1 pl 7)) 16 0) 17 0)) (by first | (rw [sI_at, sI_sI]; done) | (rw [sI_at, sI_sI]; rfl)) ?_
  obtain ⟨N1, e1⟩ : ∃ N9, N9 = sI (sR M sc (va_up (va_up (va_up (va_up (M.2.2 sc) 0 (some pl)) 1 (some (pl + 7))) 2 (some (pl + 18))) 3 (some (pl + 21)))) sc (upd (upd (upd (upd (M.1 sc) 4 (M.1 pl 4)) 15 (M.1 pl 7)) 16 0) 17 0) := ⟨_, rfl⟩
  rw [← e1]
  have r1 : N1.2.2 = rSc M.2.2 sc pl (pl + 7) (pl + 18) (pl + 21) := by rw [e1]; rfl
  have a1 : ∀ a, a ≠ sc → N1.1 a = M.1 a := fun a ha => by rw [e1]; exact sI_ne ha
  have b1 : N1.1 sc 4 = M.1 pl 4 ∧ N1.1 sc 15 = M.1 pl 7 ∧ N1.1 sc 16 = 0 ∧ N1.1 sc 17 = 0 := by rw [e1, sI_at]; exact ⟨rfl, rfl, rfl, rfl⟩
  clear e1
  have hXN1 : SPW ly N1.2.2 pl sc := by rw [r1]; exact hX.rsc hp
  refine Rn.aload_n dX9_begin_55 rfl ?_
  refine Rn.getR dX9_begin_56 fX9_34 rfl (sg0 hXN1) (show N1.2.2 sc 11 = some (sc + 12) from (sgp0_11 hXN1)) ?_
  refine Rn.aload_n dX9_begin_59 rfl ?_
  refine Rn.getR dX9_begin_60 fX9_86 rfl (pcg0 hXN1.1) (show N1.2.2 pl 12 = some (pl + 13) from (ppg0_12 hXN1.1)) ?_
  refine Rn.callV1 dX9_begin_63 vX9_87 (sg12 hXN1) (by first | omega | decide) rfl (tX2_copy (M := N1) (a := (sc + 12)) (c := pl + 13) ⟨sg12 hXN1, sg13 hXN1, sg14 hXN1, sgp12_1 hXN1, sgp12_2 hXN1⟩ ⟨pcg13 hXN1.1, pcg14 hXN1.1, pcg15 hXN1.1, ppg13_1 hXN1.1, ppg13_2 hXN1.1⟩ (by omega)) (by first | omega | decide) ⟨(Nat.le_of_ble_eq_true rfl), (Nat.le_of_ble_eq_true rfl), (Nat.le_of_ble_eq_true rfl)⟩ (fun h => by cases h) (fun v1 ly1 N2 ⟨q1, q2, q3⟩ => ?_)
  rw [q1, q2]
  have r2 : N2.2.2 = N1.2.2 := by rw [q3]; rfl
  have a2 : ∀ a, a ≠ (sc + 12) → a ≠ (sc + 13) → a ≠ (sc + 14) → N2.1 a = N1.1 a := fun a x1 x2 x3 => by rw [q3, sI_ne x3, sI_ne x2, sI_ne x1]
  have b87 : N2.1 (sc + 12) 0 = nI nf := by rw [q3, sI_ne (by omega), sI_ne (by omega), sI_at, pk_us, a1 (pl + 13) (by omega)]; exact hf.1
  have b88 : N2.1 (sc + 13) = pre 8 (M.1 (pl + 14)) (M.1 (sc + 13)) := by rw [q3, sI_ne (show sc + 13 ≠ sc + 12 + 2 by omega), show sc + 13 = sc + 12 + 1 from rfl, sI_at, a1 (pl + 13 + 1) (by omega), a1 (sc + 12 + 1) (by omega)]
  have b89 : N2.1 (sc + 14) = pre 8 (M.1 (pl + 15)) (M.1 (sc + 14)) := by rw [q3, show sc + 14 = sc + 12 + 2 from rfl, sI_at, a1 (pl + 13 + 2) (by omega), a1 (sc + 12 + 2) (by omega)]
  clear q3
  have c88 : ∀ i, i < nf → vp_in (N2.1 (sc + 13) i) 12 := fun i hi => by rw [b88, show pre 8 (M.1 (pl + 14)) (M.1 (sc + 13)) i = M.1 (pl + 14) i from if_pos (by omega)]; exact hf.2.2 i hi
  have hXN2 : SPW ly N2.2.2 pl sc := by rw [r2]; exact hXN1
  refine Rn.aload_n dX9_begin_66 rfl ?_
  refine Rn.callV0 dX9_begin_67 vX9_91 (sg0 hXN2) (by first | omega | decide) rfl (tX9_refreshCalm (M := N2) (a := sc) (p := pl) (n := nf) (hXN2.scn) (by rw [r2, r1]; show (if sc = sc then _ else _ : Nat → Option Nat) 0 = _; rw [if_pos rfl]; rfl) (pcg0 hXN2.1) (by omega) b87 hf.2.1 c88) (by first | omega | decide) ⟨(Nat.le_of_ble_eq_true rfl), (Nat.le_of_ble_eq_true rfl), (Nat.le_of_ble_eq_true rfl)⟩ (fun h => by cases h) (fun v1 ly1 N3 ⟨q1, q2, q3⟩ => ?_)
  rw [q1, q2]
  have r3 : N3.2.2 = N2.2.2 := by rw [q3]; rfl
  have a3 : ∀ a, a ≠ (sc + 15) → N3.1 a = N2.1 a := fun a ha => by rw [q3]; exact sI_ne ha
  have b90 : N3.1 (sc + 15) = rfC (M.1 pl 3) (N3.1 (sc + 13)) (N3.1 (sc + 14)) (M.1 (sc + 15)) nf := by
    rw [a3 (sc + 13) (by first | omega | decide), a3 (sc + 14) (by first | omega | decide), q3, sI_at]
    show rfC (N2.1 pl 3) (N2.1 (sc + 13)) (N2.1 (sc + 14)) (N2.1 (sc + 15)) nf = _
    rw [a2 pl (by omega) (by omega) (by omega), a1 pl (by omega), a2 (sc + 15) (by first | omega | decide) (by first | omega | decide) (by first | omega | decide), a1 (sc + 15) (by first | omega | decide)]
  clear q3
  have hXN3 : SPW ly N3.2.2 pl sc := by rw [r3]; exact hXN2
  refine Rn.aload_n dX9_begin_70 rfl ?_
  refine Rn.callV0 dX9_begin_71 vX9_94 (sg0 hXN3) (by first | omega | decide) rfl (tX9_rest (M := N3) (a := sc) (Q := fun v0 ly0 K => v0 = none ∧ ly0 = ly ∧ K.2.2 = N3.2.2 ∧ (∀ k, k < sc ∨ (sc + 11) < k → K.1 k = N3.1 k) ∧ K.1 sc = upd (upd (N3.1 sc) 7 0) 14 0 ∧ K.1 (sc + 2) = pre 12 (fun _ => 0) (N3.1 (sc + 2)) ∧ K.1 (sc + 3) = pre 12 (fun _ => 0) (N3.1 (sc + 3)) ∧ K.1 (sc + 6) = pre 12 (fun _ => 0) (N3.1 (sc + 6)) ∧ K.1 (sc + 7) = pre 12 (fun _ => 0) (N3.1 (sc + 7)) ∧ K.1 (sc + 9) = pre 6 (fun _ => 0) (N3.1 (sc + 9)) ∧ K.1 (sc + 10) = pre 6 (fun _ => 0) (N3.1 (sc + 10)) ∧ K.1 (sc + 11) = pre 6 (fun _ => 0) (N3.1 (sc + 11)) ∧ K.1 (sc + 4) = pre 12 (fun _ => 0) (N3.1 (sc + 4)) ∧ K.1 (sc + 8) = pre 12 (fun _ => 0) (N3.1 (sc + 8))) (hXN3.scn) (fun I k0 k1 k5 ka k2 k3 k4 k6 k7 k8 k9 k10 k11 => ⟨rfl, rfl, rfl, k0, ka, k2, k3, k6, k7, k9, k10, k11, k4, k8⟩)) (by first | omega | decide) ⟨(Nat.le_of_ble_eq_true rfl), (Nat.le_of_ble_eq_true rfl), (Nat.le_of_ble_eq_true rfl)⟩ (fun h => by cases h) (fun v1 ly1 N4 ⟨q1, q2, u0, u1, u2, u3, u4, u5, u6, u7, u8, u9, u10, u11⟩ => ?_)
  rw [q1, q2]
  have oM : ∀ a, a ≠ sc → a ≠ (sc + 12) → a ≠ (sc + 13) → a ≠ (sc + 14) → a ≠ (sc + 15) → N3.1 a = M.1 a := fun a x1 x2 x3 x4 x5 => (a3 a x5).trans ((a2 a x2 x3 x4).trans (a1 a x1))
  rw [oM (sc + 2) (by first | omega | decide) (by first | omega | decide) (by first | omega | decide) (by first | omega | decide) (by first | omega | decide)] at u3
  rw [oM (sc + 3) (by first | omega | decide) (by first | omega | decide) (by first | omega | decide) (by first | omega | decide) (by first | omega | decide)] at u4
  rw [oM (sc + 6) (by first | omega | decide) (by first | omega | decide) (by first | omega | decide) (by first | omega | decide) (by first | omega | decide)] at u5
  rw [oM (sc + 7) (by first | omega | decide) (by first | omega | decide) (by first | omega | decide) (by first | omega | decide) (by first | omega | decide)] at u6
  rw [oM (sc + 9) (by first | omega | decide) (by first | omega | decide) (by first | omega | decide) (by first | omega | decide) (by first | omega | decide)] at u7
  rw [oM (sc + 10) (by first | omega | decide) (by first | omega | decide) (by first | omega | decide) (by first | omega | decide) (by first | omega | decide)] at u8
  rw [oM (sc + 11) (by first | omega | decide) (by first | omega | decide) (by first | omega | decide) (by first | omega | decide) (by first | omega | decide)] at u9
  rw [oM (sc + 4) (by first | omega | decide) (by first | omega | decide) (by first | omega | decide) (by first | omega | decide) (by first | omega | decide)] at u10
  rw [oM (sc + 8) (by first | omega | decide) (by first | omega | decide) (by first | omega | decide) (by first | omega | decide) (by first | omega | decide)] at u11
  have e75 : N3.1 sc = N1.1 sc := (a3 sc (by first | omega | decide)).trans (a2 sc (by first | omega | decide) (by first | omega | decide) (by first | omega | decide))
  rw [e75] at u2
  exact Rn.vret dX9_begin_74 rfl (hQ N4 (u0.trans (r3.trans (r2.trans r1))) (fun a ha => (u1 a (by omega)).trans (oM a (by omega) (by omega) (by omega) (by omega) (by omega))) (by rw [u2]; exact ⟨b1.1, b1.2.1, b1.2.2.1, b1.2.2.2, rfl, rfl⟩) ⟨u3, u4, u5, u6, u7, u8, u9, u10, u11⟩ ⟨by rw [u1 (sc + 12) (by first | omega | decide), a3 (sc + 12) (by first | omega | decide)]; exact b87, by rw [u1 (sc + 13) (by first | omega | decide), a3 (sc + 13) (by first | omega | decide)]; exact b88, by rw [u1 (sc + 14) (by first | omega | decide), a3 (sc + 14) (by first | omega | decide)]; exact b89, by rw [u1 (sc + 15) (by first | omega | decide), u1 (sc + 13) (by first | omega | decide), u1 (sc + 14) (by first | omega | decide)]; exact b90⟩)
def bgSc (M K : Mm) (pl sc nf : Nat) : Prop := K.2.2 = rSc M.2.2 sc pl (pl + 7) (pl + 18) (pl + 21) ∧ (∀ a, ¬ (sc ≤ a ∧ a ≤ sc + 15) → K.1 a = M.1 a) ∧ (K.1 sc 4 = M.1 pl 4 ∧ K.1 sc 15 = M.1 pl 7 ∧ K.1 sc 16 = 0 ∧ K.1 sc 17 = 0 ∧ K.1 sc 7 = 0 ∧ K.1 sc 14 = 0) ∧ (K.1 (sc + 2) = pre 12 (fun _ => 0) (M.1 (sc + 2)) ∧ K.1 (sc + 3) = pre 12 (fun _ => 0) (M.1 (sc + 3)) ∧ K.1 (sc + 6) = pre 12 (fun _ => 0) (M.1 (sc + 6)) ∧ K.1 (sc + 7) = pre 12 (fun _ => 0) (M.1 (sc + 7)) ∧ K.1 (sc + 9) = pre 6 (fun _ => 0) (M.1 (sc + 9)) ∧ K.1 (sc + 10) = pre 6 (fun _ => 0) (M.1 (sc + 10)) ∧ K.1 (sc + 11) = pre 6 (fun _ => 0) (M.1 (sc + 11)) ∧ K.1 (sc + 4) = pre 12 (fun _ => 0) (M.1 (sc + 4)) ∧ K.1 (sc + 8) = pre 12 (fun _ => 0) (M.1 (sc + 8))) ∧ (K.1 (sc + 12) 0 = nI nf ∧ K.1 (sc + 13) = pre 8 (M.1 (pl + 14)) (M.1 (sc + 13)) ∧ K.1 (sc + 14) = pre 8 (M.1 (pl + 15)) (M.1 (sc + 14)) ∧ K.1 (sc + 15) = rfC (M.1 pl 3) (K.1 (sc + 13)) (K.1 (sc + 14)) (M.1 (sc + 15)) nf)
def bg0 (M : Mm) (Y : Nat → Nat → Int32) (pl nf : Nat) : Prop := (Y 0 4 = M.1 pl 4 ∧ Y 0 15 = M.1 pl 7 ∧ Y 0 16 = 0 ∧ Y 0 17 = 0 ∧ Y 0 7 = 0 ∧ Y 0 14 = 0) ∧ (Y 2 = pre 12 (fun _ => 0) (fun _ => 0) ∧ Y 3 = pre 12 (fun _ => 0) (fun _ => 0) ∧ Y 6 = pre 12 (fun _ => 0) (fun _ => 0) ∧ Y 7 = pre 12 (fun _ => 0) (fun _ => 0) ∧ Y 9 = pre 6 (fun _ => 0) (fun _ => 0) ∧ Y 10 = pre 6 (fun _ => 0) (fun _ => 0) ∧ Y 11 = pre 6 (fun _ => 0) (fun _ => 0) ∧ Y 4 = pre 12 (fun _ => 0) (fun _ => 0) ∧ Y 8 = pre 12 (fun _ => 0) (fun _ => 0)) ∧ (Y 12 0 = nI nf ∧ Y 13 = pre 8 (M.1 (pl + 14)) (fun _ => 0) ∧ Y 14 = pre 8 (M.1 (pl + 15)) (fun _ => 0) ∧ Y 15 = rfC (M.1 pl 3) (Y 13) (Y 14) (fun _ => 0) nf)
def CtS (G : Gx) (l : Launch) (d : Md) (dep ca sa : Nat) (nf : Nat) : Prop := ∀ (l1 : Ly) (a1 pl : Nat) (M1 : Mm), l1.length = a1 → pl + 34 ≤ a1 → PWd l1 M1.2.2 pl → (M1.1 (pl + 13) 0 = nI nf ∧ nf ≤ 8 ∧ ∀ i, i < nf → vp_in (M1.1 (pl + 14) i) 12) → M1.1 a1 = (fun _ => 0) → Mt G l d (dep, ca, sa, true) [.ref a1, .ref pl] (l1 ++ [.inr 9]) M1 (fun v ly2 K => v = none ∧ ly2 = l1 ++ [.inr 9, .inr 10, .inl (0, 12), .inl (0, 12), .inl (0, 12), .inr 10, .inl (0, 12), .inl (0, 12), .inl (0, 12), .inl (0, 6), .inl (0, 6), .inl (0, 6), .inr 2, .inl (0, 8), .inl (0, 8), .inl (0, 12), .inl (0, 6)] ∧ ∃ Y, Zr M1 K a1 17 Y [(0, 13, 16), (0, 12, 15), (0, 11, 12), (12, 2, 14), (12, 1, 13), (0, 10, 11), (0, 9, 10), (0, 8, 9), (0, 6, 5), (5, 2, 8), (5, 1, 7), (5, 0, 6), (0, 5, 1), (1, 2, 4), (1, 1, 3), (1, 0, 2)] ∧ (K.2.2 a1 0 = some pl ∧ K.2.2 a1 1 = some (pl + 7) ∧ K.2.2 a1 2 = some (pl + 18) ∧ K.2.2 a1 3 = some (pl + 21)) ∧ bg0 M1 Y pl nf)
theorem ctX9_init {G : Gx} {l : Launch} {nf : Nat} : CtS G l mX9_init 5 16 133 nf := by
  intro l0 a pl M hl hp hW hf h1
  refine Mt.of (lv := [some (.ref (a + 0)), some (.ref pl)]) rfl ?_
  have hZ := Zr.rf h1
  refine Rn.aload_n dX9_init_0 rfl ?_
  refine Rn.objInit dX9_init_1 jX9_3 jw_objInit ⟨(Nat.le_of_ble_eq_true rfl), (Nat.le_of_ble_eq_true rfl)⟩ ?_
  refine Rn.aload_n dX9_init_4 rfl ?_
  refine Rn.newZ (ci := 10) (k := 1) (C := [.inr 9]) (C2 := [.inr 9, .inr 10]) (ca := 15) (sa := 130) dX9_init_5 nX9_9 hl rfl rfl hZ rfl (by decide) (fun N1 z1 u1 => ?_)
  refine Rn.dup dX9_init_8 rfl ?_
  refine Rn.callZN (k := 1) (C := [.inr 9]) (C2 := [.inr 9, .inr 10]) (C3 := [.inr 9, .inr 10, .inl (0, 12), .inl (0, 12), .inl (0, 12)]) (ca := 12) (sa := 94) (ca' := 3) (sa' := 36) dX9_init_9 vX9_11 ctX10_init rfl rfl (by decide) ⟨(Nat.le_of_ble_eq_true rfl), (Nat.le_of_ble_eq_true rfl), (Nat.le_of_ble_eq_true rfl)⟩ hl rfl rfl rfl rfl z1 u1 (by decide) (fun N2 Y2 y2 g2 => ?_)
  subst g2
  have z2 : Zr M N2 a 5 z0 [(1, 2, 4), (1, 1, 3), (1, 0, 2)] := Zr.zero y2
  clear y2
  refine Rn.putZR (i := 0) (j := 5) (r := 1) dX9_init_12 fX9_12 rfl rfl rfl rfl (by decide +kernel) hl rfl z2 (by decide) (fun N3 z3 => ?_)
  refine Rn.aload_n dX9_init_15 rfl ?_
  refine Rn.newZ (ci := 10) (k := 5) (C := [.inr 9, .inr 10, .inl (0, 12), .inl (0, 12), .inl (0, 12)]) (C2 := [.inr 9, .inr 10, .inl (0, 12), .inl (0, 12), .inl (0, 12), .inr 10]) (ca := 11) (sa := 91) dX9_init_16 nX9_9 hl rfl rfl z3 rfl (by decide) (fun N4 z4 u4 => ?_)
  refine Rn.dup dX9_init_19 rfl ?_
  refine Rn.callZN (k := 5) (C := [.inr 9, .inr 10, .inl (0, 12), .inl (0, 12), .inl (0, 12)]) (C2 := [.inr 9, .inr 10, .inl (0, 12), .inl (0, 12), .inl (0, 12), .inr 10]) (C3 := [.inr 9, .inr 10, .inl (0, 12), .inl (0, 12), .inl (0, 12), .inr 10, .inl (0, 12), .inl (0, 12), .inl (0, 12)]) (ca := 8) (sa := 55) (ca' := 3) (sa' := 36) dX9_init_20 vX9_11 ctX10_init rfl rfl (by decide) ⟨(Nat.le_of_ble_eq_true rfl), (Nat.le_of_ble_eq_true rfl), (Nat.le_of_ble_eq_true rfl)⟩ hl rfl rfl rfl rfl z4 u4 (by decide) (fun N5 Y5 y5 g5 => ?_)
  subst g5
  have z5 : Zr M N5 a 9 z0 [(5, 2, 8), (5, 1, 7), (5, 0, 6), (0, 5, 1), (1, 2, 4), (1, 1, 3), (1, 0, 2)] := Zr.zero y5
  clear y5
  refine Rn.putZR (i := 0) (j := 6) (r := 5) dX9_init_23 fX9_18 rfl rfl rfl rfl (by decide +kernel) hl rfl z5 (by decide) (fun N6 z6 => ?_)
  refine Rn.aload_n dX9_init_26 rfl ?_
  refine Rn.bipushv (v := 6) dX9_init_27 bp_6 ?_
  refine Rn.newaIZ (N0 := 6) (k := 9) (C := [.inr 9, .inr 10, .inl (0, 12), .inl (0, 12), .inl (0, 12), .inr 10, .inl (0, 12), .inl (0, 12), .inl (0, 12)]) (C2 := [.inr 9, .inr 10, .inl (0, 12), .inl (0, 12), .inl (0, 12), .inr 10, .inl (0, 12), .inl (0, 12), .inl (0, 12), .inl (0, 6)]) (ca := 7) (sa := 49) dX9_init_29 rfl (by decide) hl rfl rfl z6 rfl (by decide) (fun N7 z7 => ?_)
  refine Rn.putZR (i := 0) (j := 8) (r := 9) dX9_init_31 fX9_21 rfl rfl rfl rfl (by decide +kernel) hl rfl z7 (by decide) (fun N8 z8 => ?_)
  refine Rn.aload_n dX9_init_34 rfl ?_
  refine Rn.bipushv (v := 6) dX9_init_35 bp_6 ?_
  refine Rn.newaIZ (N0 := 6) (k := 10) (C := [.inr 9, .inr 10, .inl (0, 12), .inl (0, 12), .inl (0, 12), .inr 10, .inl (0, 12), .inl (0, 12), .inl (0, 12), .inl (0, 6)]) (C2 := [.inr 9, .inr 10, .inl (0, 12), .inl (0, 12), .inl (0, 12), .inr 10, .inl (0, 12), .inl (0, 12), .inl (0, 12), .inl (0, 6), .inl (0, 6)]) (ca := 6) (sa := 43) dX9_init_37 rfl (by decide) hl rfl rfl z8 rfl (by decide) (fun N9 z9 => ?_)
  refine Rn.putZR (i := 0) (j := 9) (r := 10) dX9_init_39 fX9_25 rfl rfl rfl rfl (by decide +kernel) hl rfl z9 (by decide) (fun N10 z10 => ?_)
  refine Rn.aload_n dX9_init_42 rfl ?_
  refine Rn.bipushv (v := 6) dX9_init_43 bp_6 ?_
  refine Rn.newaIZ (N0 := 6) (k := 11) (C := [.inr 9, .inr 10, .inl (0, 12), .inl (0, 12), .inl (0, 12), .inr 10, .inl (0, 12), .inl (0, 12), .inl (0, 12), .inl (0, 6), .inl (0, 6)]) (C2 := [.inr 9, .inr 10, .inl (0, 12), .inl (0, 12), .inl (0, 12), .inr 10, .inl (0, 12), .inl (0, 12), .inl (0, 12), .inl (0, 6), .inl (0, 6), .inl (0, 6)]) (ca := 5) (sa := 37) dX9_init_45 rfl (by decide) hl rfl rfl z10 rfl (by decide) (fun N11 z11 => ?_)
  refine Rn.putZR (i := 0) (j := 10) (r := 11) dX9_init_47 fX9_28 rfl rfl rfl rfl (by decide +kernel) hl rfl z11 (by decide) (fun N12 z12 => ?_)
  refine Rn.aload_n dX9_init_50 rfl ?_
  refine Rn.newZ (ci := 2) (k := 12) (C := [.inr 9, .inr 10, .inl (0, 12), .inl (0, 12), .inl (0, 12), .inr 10, .inl (0, 12), .inl (0, 12), .inl (0, 12), .inl (0, 6), .inl (0, 6), .inl (0, 6)]) (C2 := [.inr 9, .inr 10, .inl (0, 12), .inl (0, 12), .inl (0, 12), .inr 10, .inl (0, 12), .inl (0, 12), .inl (0, 12), .inl (0, 6), .inl (0, 6), .inl (0, 6), .inr 2]) (ca := 4) (sa := 34) dX9_init_51 nX9_31 hl rfl rfl z12 rfl (by decide) (fun N13 z13 u13 => ?_)
  refine Rn.dup dX9_init_54 rfl ?_
  refine Rn.callZN (k := 12) (C := [.inr 9, .inr 10, .inl (0, 12), .inl (0, 12), .inl (0, 12), .inr 10, .inl (0, 12), .inl (0, 12), .inl (0, 12), .inl (0, 6), .inl (0, 6), .inl (0, 6)]) (C2 := [.inr 9, .inr 10, .inl (0, 12), .inl (0, 12), .inl (0, 12), .inr 10, .inl (0, 12), .inl (0, 12), .inl (0, 12), .inl (0, 6), .inl (0, 6), .inl (0, 6), .inr 2]) (C3 := [.inr 9, .inr 10, .inl (0, 12), .inl (0, 12), .inl (0, 12), .inr 10, .inl (0, 12), .inl (0, 12), .inl (0, 12), .inl (0, 6), .inl (0, 6), .inl (0, 6), .inr 2, .inl (0, 8), .inl (0, 8)]) (ca := 2) (sa := 18) (ca' := 2) (sa' := 16) dX9_init_55 vX9_33 ctX2_init rfl rfl (by decide) ⟨(Nat.le_of_ble_eq_true rfl), (Nat.le_of_ble_eq_true rfl), (Nat.le_of_ble_eq_true rfl)⟩ hl rfl rfl rfl rfl z13 u13 (by decide) (fun N14 Y14 y14 g14 => ?_)
  subst g14
  have z14 : Zr M N14 a 15 z0 [(12, 2, 14), (12, 1, 13), (0, 10, 11), (0, 9, 10), (0, 8, 9), (0, 6, 5), (5, 2, 8), (5, 1, 7), (5, 0, 6), (0, 5, 1), (1, 2, 4), (1, 1, 3), (1, 0, 2)] := Zr.zero y14
  clear y14
  refine Rn.putZR (i := 0) (j := 11) (r := 12) dX9_init_58 fX9_34 rfl rfl rfl rfl (by decide +kernel) hl rfl z14 (by decide) (fun N15 z15 => ?_)
  refine Rn.aload_n dX9_init_61 rfl ?_
  refine Rn.bipushv (v := 12) dX9_init_62 bp_12 ?_
  refine Rn.newaIZ (N0 := 12) (k := 15) (C := [.inr 9, .inr 10, .inl (0, 12), .inl (0, 12), .inl (0, 12), .inr 10, .inl (0, 12), .inl (0, 12), .inl (0, 12), .inl (0, 6), .inl (0, 6), .inl (0, 6), .inr 2, .inl (0, 8), .inl (0, 8)]) (C2 := [.inr 9, .inr 10, .inl (0, 12), .inl (0, 12), .inl (0, 12), .inr 10, .inl (0, 12), .inl (0, 12), .inl (0, 12), .inl (0, 6), .inl (0, 6), .inl (0, 6), .inr 2, .inl (0, 8), .inl (0, 8), .inl (0, 12)]) (ca := 1) (sa := 6) dX9_init_64 rfl (by decide) hl rfl rfl z15 rfl (by decide) (fun N16 z16 => ?_)
  refine Rn.putZR (i := 0) (j := 12) (r := 15) dX9_init_66 fX9_38 rfl rfl rfl rfl (by decide +kernel) hl rfl z16 (by decide) (fun N17 z17 => ?_)
  refine Rn.aload_n dX9_init_69 rfl ?_
  refine Rn.bipushv (v := 6) dX9_init_70 bp_6 ?_
  refine Rn.newaIZ (N0 := 6) (k := 16) (C := [.inr 9, .inr 10, .inl (0, 12), .inl (0, 12), .inl (0, 12), .inr 10, .inl (0, 12), .inl (0, 12), .inl (0, 12), .inl (0, 6), .inl (0, 6), .inl (0, 6), .inr 2, .inl (0, 8), .inl (0, 8), .inl (0, 12)]) (C2 := [.inr 9, .inr 10, .inl (0, 12), .inl (0, 12), .inl (0, 12), .inr 10, .inl (0, 12), .inl (0, 12), .inl (0, 12), .inl (0, 6), .inl (0, 6), .inl (0, 6), .inr 2, .inl (0, 8), .inl (0, 8), .inl (0, 12), .inl (0, 6)]) (ca := 0) (sa := 0) dX9_init_72 rfl (by decide) hl rfl rfl z17 rfl (by decide) (fun N18 z18 => ?_)
  refine Rn.putZR (i := 0) (j := 13) (r := 16) dX9_init_74 fX9_41 rfl rfl rfl rfl (by decide +kernel) hl rfl z18 (by decide) (fun N19 z19 => ?_)
  refine Rn.aload_n dX9_init_77 rfl ?_
  refine Rn.aload_n dX9_init_78 rfl ?_
  have hW2 : SPW (l0 ++ [.inr 9, .inr 10, .inl (0, 12), .inl (0, 12), .inl (0, 12), .inr 10, .inl (0, 12), .inl (0, 12), .inl (0, 12), .inl (0, 6), .inl (0, 6), .inl (0, 6), .inr 2, .inl (0, 8), .inl (0, 8), .inl (0, 12), .inl (0, 6)]) N19.2.2 pl a := ⟨⟨fun k hk => by rw [List.getElem?_append_left (by omega)]; exact hW.1 k hk, fun q hq => by rw [(z19.1 _ (by have := (by decide : ∀ q ∈ plFin, q.1 < 34) q hq; omega)).2]; exact hW.2 q hq⟩, fun k hk => by rw [List.getElem?_append_right (by omega), show a + k - l0.length = k by omega]; rfl, fun q hq => z19.2.2 q ((by decide : ∀ q ∈ scFin, q ∈ [(0, 13, 16), (0, 12, 15), (0, 11, 12), (12, 2, 14), (12, 1, 13), (0, 10, 11), (0, 9, 10), (0, 8, 9), (0, 6, 5), (5, 2, 8), (5, 1, 7), (5, 0, 6), (0, 5, 1), (1, 2, 4), (1, 1, 3), (1, 0, 2)]) q hq)⟩
  refine Rn.callV1 dX9_init_79 vX9_44 (sg0 hW2) (by decide) rfl (tX9_beginG (M := N19) (pl := pl) (sc := a) (nf := nf) (Q := fun v0 ly0 K => v0 = none ∧ ly0 = l0 ++ [.inr 9, .inr 10, .inl (0, 12), .inl (0, 12), .inl (0, 12), .inr 10, .inl (0, 12), .inl (0, 12), .inl (0, 12), .inl (0, 6), .inl (0, 6), .inl (0, 6), .inr 2, .inl (0, 8), .inl (0, 8), .inl (0, 12), .inl (0, 6)] ∧ bgSc N19 K pl a nf) hp ⟨by rw [(z19.1 _ (by omega)).1]; exact hf.1, hf.2.1, fun i hi => by rw [(z19.1 _ (by omega)).1]; exact hf.2.2 i hi⟩ hW2 (fun K k1 k2 k3 k4 k5 => ⟨rfl, rfl, k1, k2, k3, k4, k5⟩)) (by decide) ⟨(Nat.le_of_ble_eq_true rfl), (Nat.le_of_ble_eq_true rfl), (Nat.le_of_ble_eq_true rfl)⟩ (fun _ v ly1 K hq => by rw [hq.2.1]) (fun v ly1 K hq => ?_)
  obtain ⟨rfl, rfl, k1, k2, k3, k4, k5⟩ := hq
  refine Rn.vret dX9_init_82 rfl ⟨rfl, rfl, fun i => K.1 (a + i), ⟨fun k hk => ⟨(k2 k (by omega)).trans (z19.1 k hk).1, by rw [k1]; show (if k = a then _ else N19.2.2 k) = _; rw [if_neg (by omega)]; exact (z19.1 k hk).2⟩, fun _ _ => rfl, fun q hq => ?_⟩, ⟨?_, ?_, ?_, ?_⟩, ?_⟩
  · rw [k1]; exact ((hW2.rsc hp).2.2 q ((by decide : ∀ q ∈ [(0, 13, 16), (0, 12, 15), (0, 11, 12), (12, 2, 14), (12, 1, 13), (0, 10, 11), (0, 9, 10), (0, 8, 9), (0, 6, 5), (5, 2, 8), (5, 1, 7), (5, 0, 6), (0, 5, 1), (1, 2, 4), (1, 1, 3), (1, 0, 2)], q ∈ scFin) q hq))
  · rw [k1]; show (if a = a then _ else _ : Nat → Option Nat) 0 = _; rw [if_pos rfl]; rfl
  · rw [k1]; show (if a = a then _ else _ : Nat → Option Nat) 1 = _; rw [if_pos rfl]; rfl
  · rw [k1]; show (if a = a then _ else _ : Nat → Option Nat) 2 = _; rw [if_pos rfl]; rfl
  · rw [k1]; show (if a = a then _ else _ : Nat → Option Nat) 3 = _; rw [if_pos rfl]; rfl
  have e0 : ∀ k, k < 17 → 0 < k → N19.1 (a + k) = fun _ => 0 := fun k hk _ => z19.2.1 k hk
  have ep : ∀ k, k < a → N19.1 k = M.1 k := fun k hk => (z19.1 k hk).1
  rw [ep pl (by omega)] at k3
  rw [e0 2 (by decide) (by decide)] at k4
  rw [e0 3 (by decide) (by decide)] at k4
  rw [e0 6 (by decide) (by decide)] at k4
  rw [e0 7 (by decide) (by decide)] at k4
  rw [e0 9 (by decide) (by decide)] at k4
  rw [e0 10 (by decide) (by decide)] at k4
  rw [e0 11 (by decide) (by decide)] at k4
  rw [e0 4 (by decide) (by decide)] at k4
  rw [e0 8 (by decide) (by decide)] at k4
  rw [ep pl (by omega), ep (pl + 14) (by omega), ep (pl + 15) (by omega), e0 13 (by decide) (by decide), e0 14 (by decide) (by decide), e0 15 (by decide) (by decide)] at k5
  exact ⟨k3, k4, k5⟩
