/-- a byte of a number -/
def byV (x : Int32) (k : Nat) : BitVec 8 := (x.toBitVec >>> (24 - 8 * k)).setWidth 8
theorem bys : ∀ k, k < 4 → ((nI (24 - 8 * k)).toUInt32 &&& Int32.toUInt32 31).toNat % 32 = 24 - 8 * k := by decide +kernel
theorem byt_v {x : Int32} {k : Nat} (hk : k < 4) : (byt x k).toBitVec = (byV x k).signExtend 32 := by
  unfold byt byV
  show ((x.toUInt32 >>> ((nI (24 - 8 * k)).toUInt32 &&& Int32.toUInt32 31)).toBitVec.signExtend 8).signExtend 32 = _
  congr 1
  rw [BitVec.signExtend_eq_setWidth_of_le _ (by decide)]
  refine BitVec.eq_of_toNat_eq ?_
  rw [BitVec.toNat_setWidth, BitVec.toNat_setWidth, BitVec.toNat_ushiftRight]
  show (x.toUInt32 >>> ((nI (24 - 8 * k)).toUInt32 &&& Int32.toUInt32 31)).toNat % 2 ^ 8 = _
  rw [UInt32.toNat_shiftRight, bys k hk]
  rfl
theorem lb255 : ∀ i, i < 32 → (255 : Int32).toBitVec.getLsbD i = decide (i < 8) := by decide +kernel
theorem fdB_v {x : Int32} {k : Nat} (hk : k < 4) : (fdB x k).toBitVec = (byV x k).setWidth 32 := by
  refine BitVec.eq_of_getLsbD_eq (fun i hi => ?_)
  unfold fdB byV
  rw [Int32.toBitVec_and, BitVec.getLsbD_and, Int32.toBitVec_shiftRight]
  show ((x.toBitVec.sshiftRight' ((nI (24 - 8 * k) &&& 31).toBitVec.smod 32#32)).getLsbD i && _) = _
  rw [BitVec.getLsbD_sshiftRight', smd (24 - 8 * k) (by omega), lb255 i hi, BitVec.getLsbD_setWidth, BitVec.getLsbD_setWidth, BitVec.getLsbD_ushiftRight]
  by_cases h : i < 8
  · rw [if_pos (show 24 - 8 * k + i < 32 by omega)]
    simp [h, hi, show ¬ 32 ≤ i by omega]
  · simp [h]
theorem by_rf : ∀ v : Fin 256, (Int32.ofBitVec ((BitVec.ofFin (w := 8) v).signExtend 32) &&& 255 = Int32.ofBitVec ((BitVec.ofFin (w := 8) v).setWidth 32)) ∧ ((Int32.ofBitVec ((BitVec.ofFin (w := 8) v).setWidth 32) < 128 ∧ Int32.ofBitVec ((BitVec.ofFin (w := 8) v).signExtend 32) = Int32.ofBitVec ((BitVec.ofFin (w := 8) v).setWidth 32)) ∨ (128 ≤ Int32.ofBitVec ((BitVec.ofFin (w := 8) v).setWidth 32) ∧ Int32.ofBitVec ((BitVec.ofFin (w := 8) v).signExtend 32) < 0)) ∧ (0 ≤ Int32.ofBitVec ((BitVec.ofFin (w := 8) v).setWidth 32) ∧ Int32.ofBitVec ((BitVec.ofFin (w := 8) v).setWidth 32) < 256) := by decide +kernel
theorem by_rel {x : Int32} {k : Nat} (hk : k < 4) : (byt x k &&& 255 = fdB x k ∧ ((fdB x k < 128 ∧ byt x k = fdB x k) ∨ (128 ≤ fdB x k ∧ byt x k < 0))) ∧ (0 ≤ fdB x k ∧ fdB x k < 256) := by
  have h := by_rf (byV x k).toFin
  have e1 : byt x k = Int32.ofBitVec ((BitVec.ofFin (w := 8) (byV x k).toFin).signExtend 32) := Int32.toBitVec_inj.mp (byt_v hk)
  have e2 : fdB x k = Int32.ofBitVec ((BitVec.ofFin (w := 8) (byV x k).toFin).setWidth 32) := Int32.toBitVec_inj.mp (fdB_v hk)
  rw [e1, e2]
  exact ⟨⟨h.1, h.2.1⟩, h.2.2⟩
theorem apB_at {f : Nat → Int32} {t j : Nat} {x : Int32} : ∀ k : Nat, apB f t x k j = if t ≤ j ∧ j < t + k then byt x (j - t) else f j
  | 0 => (if_neg (by omega)).symm
  | k + 1 => by
    show upd (apB f t x k) (t + k) (byt x k) j = _
    by_cases e : j = t + k
    · subst e
      rw [pk_us, if_pos (by omega), show t + k - t = k by omega]
    · rw [pk_un e, apB_at k]
      by_cases h : t ≤ j ∧ j < t + k
      · rw [if_pos h, if_pos (show t ≤ j ∧ j < t + (k + 1) by omega)]
      · rw [if_neg h, if_neg (show ¬ (t ≤ j ∧ j < t + (k + 1)) by omega)]
theorem fdR_at {f : Nat → Int32} {t j : Nat} {x : Nat → Int32} : ∀ k : Nat, fdR f t x k j = if t ≤ j ∧ j < t + k then fdB (x (j - t)) ((j - t) % 4) else f j
  | 0 => (if_neg (by omega)).symm
  | k + 1 => by
    show upd (fdR f t x k) (t + k) (fdB (x k) (k % 4)) j = _
    by_cases e : j = t + k
    · subst e
      rw [pk_us, if_pos (by omega), show t + k - t = k by omega]
    · rw [pk_un e, fdR_at k]
      by_cases h : t ≤ j ∧ j < t + k
      · rw [if_pos h, if_pos (show t ≤ j ∧ j < t + (k + 1) by omega)]
      · rw [if_neg h, if_neg (show ¬ (t ≤ j ∧ j < t + (k + 1)) by omega)]
theorem ap5 {f : Nat → Int32} {t j : Nat} {x1 x2 x3 x4 x5 : Int32} (h1 : t ≤ j) (h2 : j < t + 20) : apB (apB (apB (apB (apB f t x1 4) (t + 4) x2 4) (t + 8) x3 4) (t + 12) x4 4) (t + 16) x5 4 j = byt (xs5 x1 x2 x3 x4 x5 (j - t)) ((j - t) % 4) := by
  unfold xs5
  rw [apB_at, apB_at, apB_at, apB_at, apB_at]
  by_cases c1 : j < t + 4
  · rw [if_neg (show ¬ (t + 16 ≤ j ∧ j < t + 16 + 4) by omega), if_neg (show ¬ (t + 12 ≤ j ∧ j < t + 12 + 4) by omega), if_neg (show ¬ (t + 8 ≤ j ∧ j < t + 8 + 4) by omega), if_neg (show ¬ (t + 4 ≤ j ∧ j < t + 4 + 4) by omega), if_pos (show t ≤ j ∧ j < t + 4 by omega), if_pos (show j - t < 4 by omega), show (j - t) % 4 = j - t by omega]
  · by_cases c2 : j < t + 8
    · rw [if_neg (show ¬ (t + 16 ≤ j ∧ j < t + 16 + 4) by omega), if_neg (show ¬ (t + 12 ≤ j ∧ j < t + 12 + 4) by omega), if_neg (show ¬ (t + 8 ≤ j ∧ j < t + 8 + 4) by omega), if_pos (show t + 4 ≤ j ∧ j < t + 4 + 4 by omega), if_neg (show ¬ j - t < 4 by omega), if_pos (show j - t < 8 by omega), show (j - t) % 4 = j - (t + 4) by omega]
    · by_cases c3 : j < t + 12
      · rw [if_neg (show ¬ (t + 16 ≤ j ∧ j < t + 16 + 4) by omega), if_neg (show ¬ (t + 12 ≤ j ∧ j < t + 12 + 4) by omega), if_pos (show t + 8 ≤ j ∧ j < t + 8 + 4 by omega), if_neg (show ¬ j - t < 4 by omega), if_neg (show ¬ j - t < 8 by omega), if_pos (show j - t < 12 by omega), show (j - t) % 4 = j - (t + 8) by omega]
      · by_cases c4 : j < t + 16
        · rw [if_neg (show ¬ (t + 16 ≤ j ∧ j < t + 16 + 4) by omega), if_pos (show t + 12 ≤ j ∧ j < t + 12 + 4 by omega), if_neg (show ¬ j - t < 4 by omega), if_neg (show ¬ j - t < 8 by omega), if_neg (show ¬ j - t < 12 by omega), if_pos (show j - t < 16 by omega), show (j - t) % 4 = j - (t + 12) by omega]
        · rw [if_pos (show t + 16 ≤ j ∧ j < t + 16 + 4 by omega), if_neg (show ¬ j - t < 4 by omega), if_neg (show ¬ j - t < 8 by omega), if_neg (show ¬ j - t < 12 by omega), if_neg (show ¬ j - t < 16 by omega), show (j - t) % 4 = j - (t + 16) by omega]
theorem ap5_lo {f : Nat → Int32} {t j : Nat} {x1 x2 x3 x4 x5 : Int32} (h : j < t) : apB (apB (apB (apB (apB f t x1 4) (t + 4) x2 4) (t + 8) x3 4) (t + 12) x4 4) (t + 16) x5 4 j = f j := by
  rw [apB_at, apB_at, apB_at, apB_at, apB_at, if_neg (show ¬ (t + 16 ≤ j ∧ j < t + 16 + 4) by omega), if_neg (show ¬ (t + 12 ≤ j ∧ j < t + 12 + 4) by omega), if_neg (show ¬ (t + 8 ≤ j ∧ j < t + 8 + 4) by omega), if_neg (show ¬ (t + 4 ≤ j ∧ j < t + 4 + 4) by omega), if_neg (show ¬ (t ≤ j ∧ j < t + 4) by omega)]
/-- the tape alone has changed -/
theorem INV.tp {ly : Ly} {M K : Mm} {pl ps n tp2 : Nat} {A : Ab} {f2 : Nat → Int32} (hC : CA ly M pl ps A) (hR : RA ly M A) (hP : PA n A) (r : K.2.2 = M.2.2) (eC : ∀ a, a < 149 → a ≠ 0 → a ≠ 1 → K.1 a = M.1 a) (e0 : K.1 0 1 = nI tp2 ∧ K.1 0 8 = M.1 0 8) (eR : ∀ a, 151 ≤ a → K.1 a = M.1 a) (e9 : ∀ j, j ≠ 0 → j ≠ 2 → K.1 149 j = M.1 149 j) (e2 : K.1 149 2 = nI tp2) (e150 : K.1 150 = f2) (ht : tp2 ≤ 700) (hby : byA f2 tp2) (htp : tpR (K.1 1) f2 tp2) : INV ly K := by
  obtain ⟨⟨tp, f, q1, q2⟩, p, X, h, g, ⟨nd, Ds⟩, im, Y, h2⟩ := A
  have hw := hP.w6
  have hp := hC.p7
  obtain ⟨c1, ⟨c2, c3, c4⟩, ⟨c5, c6, c7⟩, c8, c9, c10, c11, c12, c13, ⟨c14, c15⟩, c16⟩ := hC
  obtain ⟨r1, r2, r3, r4, r5, r6, r7, r8, ⟨r9, r9b⟩, r10⟩ := hR
  obtain ⟨p1, p2, p3, p4, p5, p6, p7⟩ := hP
  have cp : ∀ b, cpB K.1 b M.1 b := fun b => cpB.eq (fun a ha => eR a (by omega))
  refine ⟨pl, ps, n, (⟨tp2, f2, q1, q2⟩, p, X, h, g, ⟨nd, Ds⟩, im, Y, h2), ⟨by rw [r]; exact c1, by rw [r]; exact ⟨c2, c3, c4⟩, ⟨e0.1, htp, ?_⟩, ?_, c9.mv (fun k k1 k2 => eC k (by omega) (by omega) (by omega)), c10.mv (fun k k1 k2 => eC k (by omega) (by omega) (by omega)) (fun j _ => by rw [r]), ?_, c12.mv (fun a a1 a2 => eC a (by omega) (by omega) (by omega)), c13.mv (fun a a1 a2 => eC a (by omega) (by omega) (by omega)), ⟨e0.2.trans c14, fun q => ⟨(c15 q).1.mv (fun k k1 k2 => eC k (by omega) (by omega) (by omega)) (fun j _ => by rw [r]), ?_⟩⟩, ?_⟩, ⟨by rw [r]; exact r1, ⟨e2, e150⟩, ?_, r4.mv (fun a a1 a2 => eR a (by omega)), (cp 0).ns hw r5, ?_, r7.mv ⟨e9 70 (by omega) (by omega), e9 71 (by omega) (by omega)⟩ (fun a a1 a2 => eR a (by omega)), r8.cp hw (e9 51 (by omega) (by omega)) (fun b _ => cp b), ⟨(e9 50 (by omega) (by omega)).trans r9, fun q => ⟨(cp 2).ns hw (r9b q).1, ?_⟩⟩, fun b hb => (cp b).gd (r10 b hb)⟩, ⟨⟨ht, hby⟩, p2, p3, p4, p5, p6, p7⟩⟩
  · rw [eC 4 (by omega) (by omega) (by omega)]; exact c7
  · rw [eC 2 (by omega) (by omega) (by omega)]; exact c8
  · rw [eC 126 (by omega) (by omega) (by omega)]; exact c11
  · rw [eC 127 (by omega) (by omega) (by omega)]; exact (c15 q).2
  · rw [eC 144 (by omega) (by omega) (by omega)]; exact c16
  · rw [e9 31 (by omega) (by omega), e9 32 (by omega) (by omega)]; exact r3
  · rw [eR 183 (by omega)]; exact r6
  · rw [eR 183 (by omega)]; exact (r9b q).2
theorem pr_feed {G : Gx} {l : Launch} {ly : Ly} {M : Mm} {x1 x2 x3 x4 x5 : Int32} (hI : INV ly M) : PrI G l ly mX11_feed mX12_feed [.int x1, .int x2, .int x3, .int x4, .int x5] M := by
  obtain ⟨pl, ps, n, A, hC, hR, hP⟩ := hI
  obtain ⟨ht, hby⟩ := hP.1
  have t1 := hC.2.2.1
  have t2 := hR.2.1
  refine Mt.deep (k1 := 2) (tX11_feed t1.1 ht hC.1 hC.2.1.2.1 hC.p7 ⟨fun g0 => ?_, fun g0 => ?_⟩) (by decide)
  · exact ⟨rfl, _, rfl, Mt.deep (k1 := 0) (tX12_feed t2.1 ht hR.1 ⟨fun _ K k => ⟨rfl, rfl, INV.qq hC hR hP quX.rf k⟩, fun g1 => absurd g1 (by omega)⟩) (by decide)⟩
  · refine ⟨rfl, _, rfl, Mt.deep (k1 := 0) (tX12_feed (M := sI (sI M 1 (apB (apB (apB (apB (apB (M.1 1) A.tp x1 4) (A.tp + 4) x2 4) (A.tp + 8) x3 4) (A.tp + 12) x4 4) (A.tp + 16) x5 4)) 0 (upd (M.1 0) 1 (nI (A.tp + 20)))) t2.1 ht hR.1 ⟨fun g1 => absurd g1 (by omega), fun _ K k1 k2 k3 k4 k5 => ⟨rfl, rfl, ?_⟩⟩) (by decide)⟩
    have e150 : K.1 150 = fdR A.f A.tp (xs5 x1 x2 x3 x4 x5) 20 := by rw [k5]; show fdR (M.1 150) _ _ _ = _; rw [t2.2]
    have eK : ∀ a, a ≠ 149 → a ≠ 150 → a ≠ 0 → a ≠ 1 → K.1 a = M.1 a := fun a a1 a2 a3 a4 => (k2 a a1 a2).trans ((sI_ne a3).trans (sI_ne a4))
    refine INV.tp (tp2 := A.tp + 20) (f2 := fdR A.f A.tp (xs5 x1 x2 x3 x4 x5) 20) hC hR hP k1 (fun a a1 a2 a3 => eK a (by omega) (by omega) a2 a3) ?_ (fun a ha => eK a (by omega) (by omega) (by omega) (by omega)) (fun j a1 a2 => k3 j a1 a2) k4 e150 (by omega) (fun j hj => ?_) (fun j hj => ?_)
    · rw [k2 0 (by decide) (by decide)]; exact ⟨rfl, rfl⟩
    · rw [fdR_at]
      by_cases h : A.tp ≤ j ∧ j < A.tp + 20
      · rw [if_pos h]; exact (by_rel (by omega)).2
      · rw [if_neg h]; exact hby j (by omega)
    · rw [fdR_at, k2 1 (by decide) (by decide)]
      show apB (apB (apB (apB (apB (M.1 1) A.tp x1 4) (A.tp + 4) x2 4) (A.tp + 8) x3 4) (A.tp + 12) x4 4) (A.tp + 16) x5 4 j &&& 255 = _ ∧ ((_ ∧ apB (apB (apB (apB (apB (M.1 1) A.tp x1 4) (A.tp + 4) x2 4) (A.tp + 8) x3 4) (A.tp + 12) x4 4) (A.tp + 16) x5 4 j = _) ∨ (_ ∧ apB (apB (apB (apB (apB (M.1 1) A.tp x1 4) (A.tp + 4) x2 4) (A.tp + 8) x3 4) (A.tp + 12) x4 4) (A.tp + 16) x5 4 j < 0))
      by_cases h : A.tp ≤ j ∧ j < A.tp + 20
      · rw [if_pos h, ap5 h.1 h.2]
        exact (by_rel (by omega)).1
      · rw [if_neg h, ap5_lo (by omega)]
        exact t1.2.1 j (by omega)
