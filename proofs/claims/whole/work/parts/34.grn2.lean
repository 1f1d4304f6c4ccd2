/-- who is known, as bits -/
def kbX (M : Mm) (m : Nat) : Int32 := knB (M.1 133) m 0 0
/-- what the groans' rows keep to -/
def gOk (M : Mm) (ng m L : Nat) : Prop := (M.1 128 0 = nI ng ∧ ng ≤ 24) ∧ (knN (M.1 128 1) (M.1 128 0) = nI m ∧ m ≤ 24) ∧ (∀ i, i < ng → (kbX M m >>> (nI i &&& 31)) &&& 1 = 1 → vp_in (M.1 130 i) 12) ∧ (lsT (kbX M m) (M.1 129) ng + 1 = nI L ∧ L ≤ 64)
/-- the sets below A by B, as bits -/
def bgS (B : Nat → Bool) : Nat → Int64
  | 0 => 0
  | i + 1 => if B i = true then bgS B i ||| ((1 : Int64) <<< ((nI i).toInt64 &&& 63)) else bgS B i
theorem pow6 {n : Nat} (h : n ≤ 6) : 2 ^ n ≤ 64 := Nat.le_trans (Nat.pow_le_pow_right (by decide) h) (by decide)
theorem b01_0 {b : Bool} (h : b01 b = 0) : ¬ b = true := by cases b with | true => exact absurd h (by decide) | false => decide
theorem b01_n {b : Bool} (h : ¬ b01 b = 0) : b = true := by cases b with | true => rfl | false => exact absurd rfl h
theorem tX11_beginners {G : Gx} {l : Launch} {ly : Ly} {M : Mm} {pl n nw nu nv nf : Nat} {ng m L : Nat} (hg : gOk M ng m L) (hXS : XS ly M pl n nw nu nv) (hF : M.1 87 0 = nI nf ∧ nf ≤ 8 ∧ ∀ i, i < nf → vp_in (M.1 88 i) 12) {Q : Qt} (hQ : ∀ M' : Mm, quX M M' → Q (some (.long (bgS (fun i => soB (TG M.1 pl n nw (fun k => M.1 (pl + 7 + k)) (pl + 18) nu (pl + 21) nv (M.1 75 4) 0 1 (M.1 90)) (zsc (M.1 75 15) (lvO (nI i) (fun _ => 0) 6)) (kbX M m) (M.1 129) (M.1 130) (M.1 131) (M.1 132) ng L) (2 ^ nw)))) ly M') : Mt G l mX11_beginners (7, 0, 0, false) [.ref 0] ly M Q := by
  have hXS0 := hXS
  obtain ⟨hX, hpl, hp7, ⟨n0, n1, n2, n3⟩, ⟨hn, hn2, hn12⟩, ⟨hw1, hw2, hw6⟩, ⟨hu1, hu2, hv1, hv2⟩, hgl, hbb⟩ := hXS
  refine Mt.of (lv := [some (.ref 0), none, none, none, none]) rfl ?_
  refine Rn.aload_n dX11_beginners_0 rfl ?_
  refine Rn.getR dX11_beginners_1 fX11_59 rfl (xc0 hX) (show M.2.2 0 11 = some 128 from (xp0_11 hX)) ?_
  refine Rn.callV0 dX11_beginners_4 vX11_372 (xc128 hX) (by decide) rfl (tX4_knownBits (a := 128) (xGroans hX) hg.2.1.1 hg.2.1.2) (by decide) ⟨(Nat.le_of_ble_eq_true rfl), (Nat.le_of_ble_eq_true rfl), (Nat.le_of_ble_eq_true rfl)⟩ (fun h => by cases h) (fun v1 ly1 M1 ⟨q1, q2, q3⟩ => ?_)
  rw [q1, q2, q3]
  show Rn G l mX11_beginners (7, 0, 0, false) 7 [some (.ref 0), none, none, none, none] [.int (kbX M m)] ly M Q
  refine Rn.istore_n (lv' := [some (.ref 0), some (.int (kbX M m)), none, none, none]) dX11_beginners_7 (by decide) rfl ?_
  refine Rn.lconstv (v := 0) dX11_beginners_8 rfl ?_
  refine Rn.lstore_n (lv' := [some (.ref 0), some (.int (kbX M m)), some (.long 0), none, none]) dX11_beginners_9 (by decide) rfl ?_
  refine Rn.iconstv (v := 0) dX11_beginners_10 ic_0 ?_
  refine Rn.istore (lv' := [some (.ref 0), some (.int (kbX M m)), some (.long 0), none, some (.int 0)]) dX11_beginners_11 (by decide) rfl ?_
  have hpw := pow6 hw6
  generalize hA : 2 ^ nw = A at hQ hpw
  have loop : ∀ (k i : Nat) (N1 : Mm), i + k = A → quX M N1 → Rn G l mX11_beginners (7, 0, 0, false) 13 [some (.ref 0), some (.int (kbX M m)), some (.long (bgS (fun i => soB (TG M.1 pl n nw (fun k => M.1 (pl + 7 + k)) (pl + 18) nu (pl + 21) nv (M.1 75 4) 0 1 (M.1 90)) (zsc (M.1 75 15) (lvO (nI i) (fun _ => 0) 6)) (kbX M m) (M.1 129) (M.1 130) (M.1 131) (M.1 132) ng L) i)), none, some (.int (nI i))] [] ly N1 Q := by
    intro k
    induction k with
    | zero =>
      intro i N1 hi hq1
      have hXN1 := (hq1).xw hX
      have hplN1 : N1.2.2 0 3 = some pl := ((hq1).2.2 0 3 (by decide)).trans hpl
      have hnN1 : N1.1 pl 0 = nI n := (congrFun ((hq1).p0 hp7) 0).trans hn
      have hw1N1 : N1.1 (pl + 1) 0 = nI nw := (congrFun ((hq1).pk hp7 (k := 1) (by decide)) 0).trans hw1
      refine Rn.iload dX11_beginners_13 rfl ?_
      refine Rn.iconstv (v := 1) dX11_beginners_15 ic_1 ?_
      refine Rn.aload_n dX11_beginners_16 rfl ?_
      refine Rn.getR dX11_beginners_17 fX11_27 rfl (xc0 hXN1) (show N1.2.2 0 3 = some pl from hplN1) ?_
      refine Rn.getR dX11_beginners_20 fX11_212 rfl (pc0 hXN1 hp7) (show N1.2.2 pl 9 = some (pl + 1) from (pp0_9 hXN1 hp7)) ?_
      refine Rn.iconstv (v := 0) dX11_beginners_23 ic_0 ?_
      refine Rn.iald dX11_beginners_24 (pc1 hXN1 hp7) (by unfold vp_in; decide) ?_
      refine Rn.topI (y := N1.1 (pl + 1) 0) (rfl) ?_
      refine Rn.topI (y := nI nw) (hw1N1) ?_
      refine Rn.ishl dX11_beginners_25 ?_
      refine Rn.topI (y := nI A) ((shl1 nw (by omega)).trans (by rw [hA])) ?_
      refine Rn.icmp_ge dX11_beginners_26 (fun hc => ?_) (fun hc => ?_)
      · skip
        have e : i = A := by omega
        rw [e]
        refine Rn.lload_n dX11_beginners_63 rfl ?_
        exact Rn.lret dX11_beginners_64 rfl (hQ N1 hq1)
      · skip
        exact absurd (nI_le (a := A) (b := i) (by omega) (by omega)) hc
    | succ k ih =>
      intro i N1 hi hq1
      have hXN1 := (hq1).xw hX
      have hplN1 : N1.2.2 0 3 = some pl := ((hq1).2.2 0 3 (by decide)).trans hpl
      have hnN1 : N1.1 pl 0 = nI n := (congrFun ((hq1).p0 hp7) 0).trans hn
      have hw1N1 : N1.1 (pl + 1) 0 = nI nw := (congrFun ((hq1).pk hp7 (k := 1) (by decide)) 0).trans hw1
      refine Rn.iload dX11_beginners_13 rfl ?_
      refine Rn.iconstv (v := 1) dX11_beginners_15 ic_1 ?_
      refine Rn.aload_n dX11_beginners_16 rfl ?_
      refine Rn.getR dX11_beginners_17 fX11_27 rfl (xc0 hXN1) (show N1.2.2 0 3 = some pl from hplN1) ?_
      refine Rn.getR dX11_beginners_20 fX11_212 rfl (pc0 hXN1 hp7) (show N1.2.2 pl 9 = some (pl + 1) from (pp0_9 hXN1 hp7)) ?_
      refine Rn.iconstv (v := 0) dX11_beginners_23 ic_0 ?_
      refine Rn.iald dX11_beginners_24 (pc1 hXN1 hp7) (by unfold vp_in; decide) ?_
      refine Rn.topI (y := N1.1 (pl + 1) 0) (rfl) ?_
      refine Rn.topI (y := nI nw) (hw1N1) ?_
      refine Rn.ishl dX11_beginners_25 ?_
      refine Rn.topI (y := nI A) ((shl1 nw (by omega)).trans (by rw [hA])) ?_
      refine Rn.icmp_ge dX11_beginners_26 (fun hc => ?_) (fun hc => ?_)
      · skip
        exact absurd hc (nI_ge (a := i) (b := A) (by omega) (by omega))
      · skip
        refine Rn.aload_n dX11_beginners_29 rfl ?_
        refine Rn.callV0 dX11_beginners_30 vX11_328 (xc0 hXN1) (by decide) rfl (trRest (Q := fun v0 ly0 M0 => v0 = none ∧ ly0 = ly ∧ Tr ly M M0 pl n (pl + 7) nw (fun k => M.1 (pl + 7 + k)) (pl + 18) nu (pl + 21) nv (M.1 75 4) 0 1 (M.1 90) nf (M.1 88) (M.1 89) (zsc (M.1 75 15) (fun _ => 0)) ∧ quT N1 M0) hXS0 hF.1 hq1 (fun K h u => ⟨rfl, rfl, h, u⟩)) (by decide) ⟨(Nat.le_of_ble_eq_true rfl), (Nat.le_of_ble_eq_true rfl), (Nat.le_of_ble_eq_true rfl)⟩ (fun h => by cases h) (fun v1 ly1 N2 ⟨q1, q2, hT2, hU2⟩ => ?_)
        rw [q1, q2]
        have hXN2 := (hT2.1).xw hX
        have hplN2 : N2.2.2 0 3 = some pl := ((hT2.1).2.2 0 3 (by decide)).trans hpl
        have hnN2 : N2.1 pl 0 = nI n := (congrFun ((hT2.1).p0 hp7) 0).trans hn
        have hw1N2 : N2.1 (pl + 1) 0 = nI nw := (congrFun ((hT2.1).pk hp7 (k := 1) (by decide)) 0).trans hw1
        refine Rn.aload_n dX11_beginners_33 rfl ?_
        refine Rn.getR dX11_beginners_34 fX11_43 rfl (xc0 hXN2) (show N2.2.2 0 6 = some 92 from (xp0_6 hXN2)) ?_
        refine Rn.iload dX11_beginners_37 rfl ?_
        refine Rn.callV1 dX11_beginners_39 vX11_339 (xc92 hXN2) (by decide) rfl (trLeave (Q := fun v0 ly0 M0 => v0 = none ∧ ly0 = ly ∧ Tr ly M M0 pl n (pl + 7) nw (fun k => M.1 (pl + 7 + k)) (pl + 18) nu (pl + 21) nv (M.1 75 4) 0 1 (M.1 90) nf (M.1 88) (M.1 89) (zsc (M.1 75 15) (lvO (nI i) (fun _ => 0) 6)) ∧ quT N2 M0) hXS0.ok hT2 (fun K h u => ⟨rfl, rfl, h, u⟩)) (by decide) ⟨(Nat.le_of_ble_eq_true rfl), (Nat.le_of_ble_eq_true rfl), (Nat.le_of_ble_eq_true rfl)⟩ (fun h => by cases h) (fun v1 ly1 N3 ⟨q1, q2, hT3, hU3⟩ => ?_)
        rw [q1, q2]
        have hXN3 := (hT3.1).xw hX
        have hplN3 : N3.2.2 0 3 = some pl := ((hT3.1).2.2 0 3 (by decide)).trans hpl
        have hnN3 : N3.1 pl 0 = nI n := (congrFun ((hT3.1).p0 hp7) 0).trans hn
        have hw1N3 : N3.1 (pl + 1) 0 = nI nw := (congrFun ((hT3.1).pk hp7 (k := 1) (by decide)) 0).trans hw1
        refine Rn.aload_n dX11_beginners_42 rfl ?_
        refine Rn.iload_n dX11_beginners_43 rfl ?_
        refine Rn.callV1 dX11_beginners_44 vX11_375 (xc0 hXN3) (by decide) rfl (tX11_groansAreSo (Q := fun v0 ly0 M0 => v0 = some (.int (b01 (soB (TG M.1 pl n nw (fun k => M.1 (pl + 7 + k)) (pl + 18) nu (pl + 21) nv (M.1 75 4) 0 1 (M.1 90)) (zsc (M.1 75 15) (lvO (nI i) (fun _ => 0) 6)) (kbX M m) (M.1 129) (M.1 130) (M.1 131) (M.1 132) ng L))) ∧ ly0 = ly ∧ quX M M0) (L := L) hXS0 hg.1 hg.2.2.1 hg.2.2.2 hXS0.ok hT3 (fun K h => ⟨rfl, rfl, h⟩)) (by decide) ⟨(Nat.le_of_ble_eq_true rfl), (Nat.le_of_ble_eq_true rfl), (Nat.le_of_ble_eq_true rfl)⟩ (fun h => by cases h) (fun v1 ly1 N4 ⟨q1, q2, hq4⟩ => ?_)
        rw [q1, q2]
        have hXN4 := (hq4).xw hX
        have hplN4 : N4.2.2 0 3 = some pl := ((hq4).2.2 0 3 (by decide)).trans hpl
        have hnN4 : N4.1 pl 0 = nI n := (congrFun ((hq4).p0 hp7) 0).trans hn
        have hw1N4 : N4.1 (pl + 1) 0 = nI nw := (congrFun ((hq4).pk hp7 (k := 1) (by decide)) 0).trans hw1
        refine Rn.if_eq dX11_beginners_47 (fun hd => ?_) (fun hd => ?_)
        · skip
          have e : bgS (fun i => soB (TG M.1 pl n nw (fun k => M.1 (pl + 7 + k)) (pl + 18) nu (pl + 21) nv (M.1 75 4) 0 1 (M.1 90)) (zsc (M.1 75 15) (lvO (nI i) (fun _ => 0) 6)) (kbX M m) (M.1 129) (M.1 130) (M.1 131) (M.1 132) ng L) (i + 1) = bgS (fun i => soB (TG M.1 pl n nw (fun k => M.1 (pl + 7 + k)) (pl + 18) nu (pl + 21) nv (M.1 75 4) 0 1 (M.1 90)) (zsc (M.1 75 15) (lvO (nI i) (fun _ => 0) 6)) (kbX M m) (M.1 129) (M.1 130) (M.1 131) (M.1 132) ng L) i := if_neg (b01_0 hd)
          rw [← e]
          refine Rn.iincN (lv' := [some (.ref 0), some (.int (kbX M m)), some (.long (bgS (fun i => soB (TG M.1 pl n nw (fun k => M.1 (pl + 7 + k)) (pl + 18) nu (pl + 21) nv (M.1 75 4) 0 1 (M.1 90)) (zsc (M.1 75 15) (lvO (nI i) (fun _ => 0) 6)) (kbX M m) (M.1 129) (M.1 130) (M.1 131) (M.1 132) ng L) (i + 1))), none, some (.int (nI (i + 1)))]) dX11_beginners_57 rfl (by decide) rfl ?_
          refine Rn.goto dX11_beginners_60 ?_
          exact ih (i + 1) N4 (by omega) hq4
        · skip
          have e : bgS (fun i => soB (TG M.1 pl n nw (fun k => M.1 (pl + 7 + k)) (pl + 18) nu (pl + 21) nv (M.1 75 4) 0 1 (M.1 90)) (zsc (M.1 75 15) (lvO (nI i) (fun _ => 0) 6)) (kbX M m) (M.1 129) (M.1 130) (M.1 131) (M.1 132) ng L) (i + 1) = bgS (fun i => soB (TG M.1 pl n nw (fun k => M.1 (pl + 7 + k)) (pl + 18) nu (pl + 21) nv (M.1 75 4) 0 1 (M.1 90)) (zsc (M.1 75 15) (lvO (nI i) (fun _ => 0) 6)) (kbX M m) (M.1 129) (M.1 130) (M.1 131) (M.1 132) ng L) i ||| ((1 : Int64) <<< ((nI i).toInt64 &&& 63)) := if_pos (b01_n hd)
          refine Rn.lload_n dX11_beginners_50 rfl ?_
          refine Rn.lconstv (v := 1) dX11_beginners_51 rfl ?_
          refine Rn.iload dX11_beginners_52 rfl ?_
          refine Rn.lshl dX11_beginners_54 ?_
          refine Rn.lor dX11_beginners_55 ?_
          refine Rn.topL (y := bgS (fun i => soB (TG M.1 pl n nw (fun k => M.1 (pl + 7 + k)) (pl + 18) nu (pl + 21) nv (M.1 75 4) 0 1 (M.1 90)) (zsc (M.1 75 15) (lvO (nI i) (fun _ => 0) 6)) (kbX M m) (M.1 129) (M.1 130) (M.1 131) (M.1 132) ng L) (i + 1)) (e.symm) ?_
          refine Rn.lstore_n (lv' := [some (.ref 0), some (.int (kbX M m)), some (.long (bgS (fun i => soB (TG M.1 pl n nw (fun k => M.1 (pl + 7 + k)) (pl + 18) nu (pl + 21) nv (M.1 75 4) 0 1 (M.1 90)) (zsc (M.1 75 15) (lvO (nI i) (fun _ => 0) 6)) (kbX M m) (M.1 129) (M.1 130) (M.1 131) (M.1 132) ng L) (i + 1))), none, some (.int (nI i))]) dX11_beginners_56 (by decide) rfl ?_
          refine Rn.iincN (lv' := [some (.ref 0), some (.int (kbX M m)), some (.long (bgS (fun i => soB (TG M.1 pl n nw (fun k => M.1 (pl + 7 + k)) (pl + 18) nu (pl + 21) nv (M.1 75 4) 0 1 (M.1 90)) (zsc (M.1 75 15) (lvO (nI i) (fun _ => 0) 6)) (kbX M m) (M.1 129) (M.1 130) (M.1 131) (M.1 132) ng L) (i + 1))), none, some (.int (nI (i + 1)))]) dX11_beginners_57 rfl (by decide) rfl ?_
          refine Rn.goto dX11_beginners_60 ?_
          exact ih (i + 1) N4 (by omega) hq4
  exact loop A 0 M (by omega) quX.rf
theorem ts_bit {w : Int64} {s : UInt64} {j : Nat} (hj : j < 64) (hs : s.toNat = j) : ((w.toUInt64 >>> s).toInt64 &&& 1) = 0 ↔ w.toBitVec.getLsbD j = false := by
  have e : (w.toUInt64 >>> s).toInt64.toBitVec = w.toBitVec >>> j := by
    apply BitVec.eq_of_toNat_eq
    show (w.toUInt64 >>> s).toNat = _
    rw [UInt64.toNat_shiftRight, hs, Nat.mod_eq_of_lt hj, BitVec.toNat_ushiftRight]
    rfl
  rw [← Int64.toBitVec_inj, Int64.toBitVec_and, e]
  show w.toBitVec >>> j &&& 1#64 = 0#64 ↔ _
  constructor
  · intro h
    have t := congrArg (fun x => x.getLsbD 0) h
    simpa using t
  · intro h
    apply BitVec.eq_of_getLsbD_eq
    intro i hi
    cases i with
    | zero => simp [h]
    | succ i => simp
theorem bit1 : ∀ i, i < 64 → ((1 : Int64) <<< ((nI i).toInt64 &&& 63)).toBitVec = BitVec.twoPow 64 i := by decide +kernel
theorem bitc : ∀ i, i < 64 → ((Int64.toUInt64 (Int32.toInt64 (nI i))) &&& Int64.toUInt64 63).toNat = i := by decide +kernel
theorem bgS_bit {B : Nat → Bool} : ∀ (A : Nat), A ≤ 64 → ∀ j, j < 64 → (bgS B A).toBitVec.getLsbD j = (decide (j < A) && B j)
  | 0, _, j, _ => by rw [show (bgS B 0).toBitVec = 0#64 from rfl, BitVec.getLsbD_zero]; simp
  | A + 1, hA, j, hj => by
    have ih := bgS_bit (B := B) A (by omega) j hj
    unfold bgS
    by_cases h : B A = true
    · rw [if_pos h, Int64.toBitVec_or, BitVec.getLsbD_or, ih, bit1 A (by omega), BitVec.getLsbD_twoPow]
      by_cases e : A = j
      · subst e; simp [h, hj]
      · by_cases e2 : j < A
        · simp [e, e2, Nat.lt_succ_of_lt e2]
        · have e3 : ¬ j < A + 1 := by omega
          simp [e, e2, e3]
    · rw [if_neg h, ih]
      by_cases e2 : j < A
      · simp [e2, Nat.lt_succ_of_lt e2]
      · by_cases e : j = A
        · subst e; simp [h]
        · have e3 : ¬ j < A + 1 := by omega
          simp [e2, e3]
/-- the set's bit -/
def sB (B : Nat → Bool) (A j : Nat) : Bool := decide (j < A) && B j
theorem and1_01 (x : Int64) : x &&& 1 = 0 ∨ x &&& 1 = 1 := by
  have h : (x &&& 1).toBitVec = BitVec.ofNat 64 (x.toBitVec.toNat % 2) := by
    apply BitVec.eq_of_toNat_eq
    rw [Int64.toBitVec_and, BitVec.toNat_and, BitVec.toNat_ofNat]
    show x.toBitVec.toNat &&& 1 = _
    rw [Nat.and_one_is_mod]
    exact (Nat.mod_eq_of_lt (by omega)).symm
  rcases Nat.mod_two_eq_zero_or_one x.toBitVec.toNat with e | e
  · left; apply Int64.toBitVec_inj.mp; rw [h, e]; rfl
  · right; apply Int64.toBitVec_inj.mp; rw [h, e]; rfl
theorem bg1 {B : Nat → Bool} {A j : Nat} (hA : A ≤ 64) (hj : j < 64) : ((((bgS B A).toUInt64) >>> ((Int64.toUInt64 (Int32.toInt64 (nI j))) &&& Int64.toUInt64 63)).toInt64 &&& 1 = 1) ↔ sB B A j = true := by
  have h0 := ts_bit (w := bgS B A) hj (bitc j hj)
  rw [bgS_bit A hA j hj] at h0
  unfold sB
  rcases and1_01 (((bgS B A).toUInt64) >>> ((Int64.toUInt64 (Int32.toInt64 (nI j))) &&& Int64.toUInt64 63)).toInt64 with e | e
  · rw [e] at h0 ⊢
    have h0 := h0.mp rfl
    rw [h0]
    exact ⟨fun h => absurd h (by decide), fun h => by cases h⟩
  · rw [e] at h0 ⊢
    refine ⟨fun _ => ?_, fun _ => rfl⟩
    cases hb : (decide (j < A) && B j) with
    | true => rfl
    | false => exact absurd (h0.mpr hb) (by decide)
/-- the k-th set from i on -/
def stK (B : Nat → Bool) : Nat → Nat → Int32 → Int32
  | 0, _, _ => -2
  | f + 1, i, k => if B i = true then (if k = 0 then nI i else stK B f (i + 1) (k + -1)) else stK B f (i + 1) k
theorem tX11_set {G : Gx} {l : Launch} {ly : Ly} {M : Mm} {pl n nw nu nv nf : Nat} {ng m L : Nat} {x : Int32} (hg : gOk M ng m L) (hXS : XS ly M pl n nw nu nv) (hF : M.1 87 0 = nI nf ∧ nf ≤ 8 ∧ ∀ i, i < nf → vp_in (M.1 88 i) 12) {Q : Qt} (hQ : (x < 0 → Q (some (.int (-1))) ly M) ∧ (¬ x < 0 → ∀ M' : Mm, quX M M' → Q (some (.int (stK (sB (fun i => soB (TG M.1 pl n nw (fun k => M.1 (pl + 7 + k)) (pl + 18) nu (pl + 21) nv (M.1 75 4) 0 1 (M.1 90)) (zsc (M.1 75 15) (lvO (nI i) (fun _ => 0) 6)) (kbX M m) (M.1 129) (M.1 130) (M.1 131) (M.1 132) ng L) (2 ^ nw)) 64 0 x))) ly M')) : Mt G l mX11_set (8, 0, 0, false) [.ref 0, .int x] ly M Q := by
  have hXS0 := hXS
  obtain ⟨hX, hpl, hp7, ⟨n0, n1, n2, n3⟩, ⟨hn, hn2, hn12⟩, ⟨hw1, hw2, hw6⟩, ⟨hu1, hu2, hv1, hv2⟩, hgl, hbb⟩ := hXS
  refine Mt.of (lv := [some (.ref 0), some (.int x), none, none, none, none]) rfl ?_
  refine Rn.iload_n dX11_set_0 rfl ?_
  refine Rn.if_ge dX11_set_1 (fun g0 => ?_) (fun g0 => ?_)
  · skip
    have hR := hQ.2 (Int32.not_lt.mpr g0)
    refine Rn.aload_n dX11_set_6 rfl ?_
    refine Rn.callV0 dX11_set_7 vX11_365 (xc0 hX) (by decide) rfl (tX11_beginners (Q := fun v0 ly0 M0 => v0 = some (.long (bgS (fun i => soB (TG M.1 pl n nw (fun k => M.1 (pl + 7 + k)) (pl + 18) nu (pl + 21) nv (M.1 75 4) 0 1 (M.1 90)) (zsc (M.1 75 15) (lvO (nI i) (fun _ => 0) 6)) (kbX M m) (M.1 129) (M.1 130) (M.1 131) (M.1 132) ng L) (2 ^ nw))) ∧ ly0 = ly ∧ quX M M0) hg hXS0 hF (fun K h => ⟨rfl, rfl, h⟩)) (by decide) ⟨(Nat.le_of_ble_eq_true rfl), (Nat.le_of_ble_eq_true rfl), (Nat.le_of_ble_eq_true rfl)⟩ (fun h => by cases h) (fun v1 ly1 N1 ⟨q1, q2, hq1⟩ => ?_)
    rw [q1, q2]
    have hXN1 := (hq1).xw hX
    have hplN1 : N1.2.2 0 3 = some pl := ((hq1).2.2 0 3 (by decide)).trans hpl
    have hnN1 : N1.1 pl 0 = nI n := (congrFun ((hq1).p0 hp7) 0).trans hn
    have hw1N1 : N1.1 (pl + 1) 0 = nI nw := (congrFun ((hq1).pk hp7 (k := 1) (by decide)) 0).trans hw1
    have hpw := pow6 hw6
    generalize (fun i => soB (TG M.1 pl n nw (fun k => M.1 (pl + 7 + k)) (pl + 18) nu (pl + 21) nv (M.1 75 4) 0 1 (M.1 90)) (zsc (M.1 75 15) (lvO (nI i) (fun _ => 0) 6)) (kbX M m) (M.1 129) (M.1 130) (M.1 131) (M.1 132) ng L) = B at hR ⊢
    generalize 2 ^ nw = A at hR hpw ⊢
    refine Rn.lstore_n (lv' := [some (.ref 0), some (.int x), some (.long (bgS B A)), none, none, none]) dX11_set_10 (by decide) rfl ?_
    refine Rn.iload_n dX11_set_11 rfl ?_
    refine Rn.istore (lv' := [some (.ref 0), some (.int x), some (.long (bgS B A)), none, some (.int x), none]) dX11_set_12 (by decide) rfl ?_
    refine Rn.iconstv (v := 0) dX11_set_14 ic_0 ?_
    refine Rn.istore (lv' := [some (.ref 0), some (.int x), some (.long (bgS B A)), none, some (.int x), some (.int 0)]) dX11_set_15 (by decide) rfl ?_
    have loop : ∀ (f i : Nat) (x : Int32), i + f = 64 → Q (some (.int (stK (sB B A) f i x))) ly N1 → Rn G l mX11_set (8, 0, 0, false) 17 [some (.ref 0), none, some (.long (bgS B A)), none, some (.int x), some (.int (nI i))] [] ly N1 Q := by
      intro f
      induction f with
      | zero =>
        intro i x hi hR
        refine Rn.iload dX11_set_17 rfl ?_
        refine Rn.bipushv (v := 64) dX11_set_19 bp_64 ?_
        refine Rn.icmp_ge dX11_set_21 (fun hc => ?_) (fun hc => ?_)
        · skip
          refine Rn.bipushv (v := -2) dX11_set_52 bp_m2 ?_
          exact Rn.iret (ty := .int) dX11_set_54 rfl rfl hR
        · skip
          exact absurd (nI_le (a := 64) (b := i) (by omega) (by omega)) hc
      | succ f ih =>
        intro i x hi hR
        refine Rn.iload dX11_set_17 rfl ?_
        refine Rn.bipushv (v := 64) dX11_set_19 bp_64 ?_
        refine Rn.icmp_ge dX11_set_21 (fun hc => ?_) (fun hc => ?_)
        · skip
          exact absurd hc (nI_ge (a := i) (b := 64) (by omega) (by omega))
        · skip
          refine Rn.lload_n dX11_set_24 rfl ?_
          refine Rn.iload dX11_set_25 rfl ?_
          refine Rn.lushr dX11_set_27 ?_
          refine Rn.lconstv (v := 1) dX11_set_28 rfl ?_
          refine Rn.land dX11_set_29 ?_
          refine Rn.lconstv (v := 1) dX11_set_30 rfl ?_
          refine Rn.lcmp dX11_set_31 ?_
          refine Rn.if_ne dX11_set_32 (fun hd => ?_) (fun hd => ?_)
          · skip
            rw [lg_cmp_eq] at hd
            rw [bg1 hpw (by omega)] at hd
            rw [stK, if_neg hd] at hR
            refine Rn.iincN (lv' := [some (.ref 0), none, some (.long (bgS B A)), none, some (.int x), some (.int (nI (i + 1)))]) dX11_set_46 rfl (by decide) rfl ?_
            refine Rn.goto dX11_set_49 ?_
            exact ih (i + 1) x (by omega) hR
          · skip
            rw [lg_cmp_eq] at hd
            rw [bg1 hpw (by omega)] at hd
            rw [stK, if_pos hd] at hR
            refine Rn.iload dX11_set_35 rfl ?_
            refine Rn.if_ne dX11_set_37 (fun he => ?_) (fun he => ?_)
            · skip
              rw [if_neg he] at hR
              refine Rn.iincv (j' := -1) (lv' := [some (.ref 0), none, some (.long (bgS B A)), none, some (.int (x + (-1))), some (.int (nI i))]) dX11_set_43 rfl rfl (by decide) rfl ?_
              refine Rn.iincN (lv' := [some (.ref 0), none, some (.long (bgS B A)), none, some (.int (x + (-1))), some (.int (nI (i + 1)))]) dX11_set_46 rfl (by decide) rfl ?_
              refine Rn.goto dX11_set_49 ?_
              exact ih (i + 1) _ (by omega) hR
            · skip
              rw [if_pos he] at hR
              refine Rn.iload dX11_set_40 rfl ?_
              exact Rn.iret (ty := .int) dX11_set_42 rfl rfl hR
    refine Rn.forget (lv' := [some (.ref 0), none, some (.long (bgS B A)), none, some (.int x), some (.int 0)]) (⟨rfl, ⟨rfl, ⟨rfl, ⟨rfl, trivial⟩⟩⟩⟩) ?_
    exact loop 64 0 x (by omega) (hR N1 hq1)
  · skip
    refine Rn.iconstv (v := -1) dX11_set_4 ic_m1 ?_
    exact Rn.iret (ty := .int) dX11_set_5 rfl rfl (hQ.1 (Int32.not_le.mp g0))
def inW (i w : Nat) : Int32 := if (nI i >>> (nI w &&& 31)) &&& 1 = 1 then 1 else 0
def srK (B : Nat → Bool) (w : Nat) : Nat → Nat → Int32 → Int32 → Int32 × Int32
  | 0, _, a, b => (a, b)
  | f + 1, i, a, b => if B i = true then srK B w f (i + 1) (a ||| inW i w) (b ||| (if inW i w = 0 then 1 else 0)) else srK B w f (i + 1) a b
def srA (p : Int32 × Int32) : Int32 := if p.1 = 0 then 0 else if p.2 = 0 then 1 else 2
def ftS (B : Nat → Bool) : Nat → Int32
  | 0 => 0
  | i + 1 => if B i = true then ftS B i ||| ((1 : Int32) <<< (nI i &&& 31)) else ftS B i
theorem tX11_fits {G : Gx} {l : Launch} {ly : Ly} {M : Mm} {pl n nw nu nv nf : Nat} {ng m L nm : Nat} {mu : Nat → Nat} (hnm : M.1 (pl + 1) 3 = nI nm ∧ nm ≤ 3) (hmu : ∀ i, i < 3 → M.1 (pl + 25 + 3 * i) 0 = nI (mu i) ∧ mu i ≤ 64) (hg : gOk M ng m L) (hXS : XS ly M pl n nw nu nv) (hF : M.1 87 0 = nI nf ∧ nf ≤ 8 ∧ ∀ i, i < nf → vp_in (M.1 88 i) 12) {Q : Qt} (hQ : ∀ M' : Mm, quX M M' → Q (some (.int (ftS (fun i => if i < nm then soB (TG M.1 pl n nw (fun k => M.1 (pl + 7 + k)) (pl + 25 + 3 * i) (mu i) (pl + 21) nv (M.1 75 4) 0 1 (M.1 90)) (zsc (M.1 75 15) (fun _ => 0)) (kbX M m) (M.1 129) (M.1 130) (M.1 131) (M.1 132) ng L else soB (TG M.1 pl n nw (fun k => M.1 (pl + 7 + k)) (pl + 18) nu (pl + 21) nv (M.1 75 4) 0 1 (M.1 90)) (zsc (M.1 75 15) (fun _ => 0)) (kbX M m) (M.1 129) (M.1 130) (M.1 131) (M.1 132) ng L) (nm + 1)))) ly M') : Mt G l mX11_fits (7, 0, 0, false) [.ref 0] ly M Q := by
  have hXS0 := hXS
  obtain ⟨hX, hpl, hp7, ⟨n0, n1, n2, n3⟩, ⟨hn, hn2, hn12⟩, ⟨hw1, hw2, hw6⟩, ⟨hu1, hu2, hv1, hv2⟩, hgl, hbb⟩ := hXS
  refine Mt.of (lv := [some (.ref 0), none, none, none, none]) rfl ?_
  refine Rn.aload_n dX11_fits_0 rfl ?_
  refine Rn.getR dX11_fits_1 fX11_59 rfl (xc0 hX) (show M.2.2 0 11 = some 128 from (xp0_11 hX)) ?_
  refine Rn.callV0 dX11_fits_4 vX11_372 (xc128 hX) (by decide) rfl (tX4_knownBits (a := 128) (xGroans hX) hg.2.1.1 hg.2.1.2) (by decide) ⟨(Nat.le_of_ble_eq_true rfl), (Nat.le_of_ble_eq_true rfl), (Nat.le_of_ble_eq_true rfl)⟩ (fun h => by cases h) (fun v1 ly1 M1 ⟨q1, q2, q3⟩ => ?_)
  rw [q1, q2, q3]
  show Rn G l mX11_fits (7, 0, 0, false) 7 [some (.ref 0), none, none, none, none] [.int (kbX M m)] ly M Q
  refine Rn.istore_n (lv' := [some (.ref 0), some (.int (kbX M m)), none, none, none]) dX11_fits_7 (by decide) rfl ?_
  refine Rn.aload_n dX11_fits_8 rfl ?_
  refine Rn.getR dX11_fits_9 fX11_27 rfl (xc0 hX) (show M.2.2 0 3 = some pl from hpl) ?_
  refine Rn.getR dX11_fits_12 fX11_212 rfl (pc0 hX hp7) (show M.2.2 pl 9 = some (pl + 1) from (pp0_9 hX hp7)) ?_
  refine Rn.iconstv (v := 3) dX11_fits_15 ic_3 ?_
  refine Rn.iald dX11_fits_16 (pc1 hX hp7) (by unfold vp_in; decide) ?_
  refine Rn.topI (y := M.1 (pl + 1) 3) (rfl) ?_
  refine Rn.topI (y := nI nm) (hnm.1) ?_
  refine Rn.istore_n (lv' := [some (.ref 0), some (.int (kbX M m)), some (.int (nI nm)), none, none]) dX11_fits_17 (by decide) rfl ?_
  refine Rn.iconstv (v := 0) dX11_fits_18 ic_0 ?_
  refine Rn.istore_n (lv' := [some (.ref 0), some (.int (kbX M m)), some (.int (nI nm)), some (.int 0), none]) dX11_fits_19 (by decide) rfl ?_
  refine Rn.iconstv (v := 0) dX11_fits_20 ic_0 ?_
  refine Rn.istore (lv' := [some (.ref 0), some (.int (kbX M m)), some (.int (nI nm)), some (.int 0), some (.int 0)]) dX11_fits_21 (by decide) rfl ?_
  have F4 : 4 ≤ nm + 1 → ∀ N0 : Mm, quX M N0 → Rn G l mX11_fits (7, 0, 0, false) 23 [some (.ref 0), some (.int (kbX M m)), some (.int (nI nm)), some (.int (ftS (fun i => if i < nm then soB (TG M.1 pl n nw (fun k => M.1 (pl + 7 + k)) (pl + 25 + 3 * i) (mu i) (pl + 21) nv (M.1 75 4) 0 1 (M.1 90)) (zsc (M.1 75 15) (fun _ => 0)) (kbX M m) (M.1 129) (M.1 130) (M.1 131) (M.1 132) ng L else soB (TG M.1 pl n nw (fun k => M.1 (pl + 7 + k)) (pl + 18) nu (pl + 21) nv (M.1 75 4) 0 1 (M.1 90)) (zsc (M.1 75 15) (fun _ => 0)) (kbX M m) (M.1 129) (M.1 130) (M.1 131) (M.1 132) ng L) 4)), some (.int 4)] [] ly N0 Q := by
    intro hle N0 hq0
    have hXN0 := (hq0).xw hX
    have hplN0 : N0.2.2 0 3 = some pl := ((hq0).2.2 0 3 (by decide)).trans hpl
    have hnN0 : N0.1 pl 0 = nI n := (congrFun ((hq0).p0 hp7) 0).trans hn
    have hw1N0 : N0.1 (pl + 1) 0 = nI nw := (congrFun ((hq0).pk hp7 (k := 1) (by decide)) 0).trans hw1
    refine Rn.iload dX11_fits_23 rfl ?_
    refine Rn.iload_n dX11_fits_25 rfl ?_
    refine Rn.icmp_gt dX11_fits_26 (fun c4 => ?_) (fun c4 => ?_)
    · skip
      have e : nm + 1 = 4 := by have := (nI_ltI (b := 4) (by omega) (by decide)).mp c4; omega
      refine Rn.iload_n dX11_fits_77 rfl ?_
      exact Rn.iret (ty := .int) dX11_fits_78 rfl rfl (by have h := hQ N0 (hq0); rw [e] at h; exact h)
    · skip
      exact absurd (nI_lt (a := nm) (b := 4) (by omega) (by decide)) c4
  have F3 : 3 ≤ nm + 1 → ∀ N0 : Mm, quX M N0 → Rn G l mX11_fits (7, 0, 0, false) 23 [some (.ref 0), some (.int (kbX M m)), some (.int (nI nm)), some (.int (ftS (fun i => if i < nm then soB (TG M.1 pl n nw (fun k => M.1 (pl + 7 + k)) (pl + 25 + 3 * i) (mu i) (pl + 21) nv (M.1 75 4) 0 1 (M.1 90)) (zsc (M.1 75 15) (fun _ => 0)) (kbX M m) (M.1 129) (M.1 130) (M.1 131) (M.1 132) ng L else soB (TG M.1 pl n nw (fun k => M.1 (pl + 7 + k)) (pl + 18) nu (pl + 21) nv (M.1 75 4) 0 1 (M.1 90)) (zsc (M.1 75 15) (fun _ => 0)) (kbX M m) (M.1 129) (M.1 130) (M.1 131) (M.1 132) ng L) 3)), some (.int 3)] [] ly N0 Q := by
    intro hle N0 hq0
    have hXN0 := (hq0).xw hX
    have hplN0 : N0.2.2 0 3 = some pl := ((hq0).2.2 0 3 (by decide)).trans hpl
    have hnN0 : N0.1 pl 0 = nI n := (congrFun ((hq0).p0 hp7) 0).trans hn
    have hw1N0 : N0.1 (pl + 1) 0 = nI nw := (congrFun ((hq0).pk hp7 (k := 1) (by decide)) 0).trans hw1
    refine Rn.iload dX11_fits_23 rfl ?_
    refine Rn.iload_n dX11_fits_25 rfl ?_
    refine Rn.icmp_gt dX11_fits_26 (fun c3 => ?_) (fun c3 => ?_)
    · skip
      have e : nm + 1 = 3 := by have := (nI_ltI (b := 3) (by omega) (by decide)).mp c3; omega
      refine Rn.iload_n dX11_fits_77 rfl ?_
      exact Rn.iret (ty := .int) dX11_fits_78 rfl rfl (by have h := hQ N0 (hq0); rw [e] at h; exact h)
    · skip
      have h3 : 3 ≤ nm := by have := mt (nI_lt (a := nm) (b := 3) · (by decide)) c3; omega
      refine Rn.aload_n dX11_fits_29 rfl ?_
      refine Rn.callV0 dX11_fits_30 vX11_328 (xc0 hXN0) (by decide) rfl (trRest (Q := fun v0 ly0 M0 => v0 = none ∧ ly0 = ly ∧ Tr ly M M0 pl n (pl + 7) nw (fun k => M.1 (pl + 7 + k)) (pl + 18) nu (pl + 21) nv (M.1 75 4) 0 1 (M.1 90) nf (M.1 88) (M.1 89) (zsc (M.1 75 15) (fun _ => 0)) ∧ quT N0 M0) hXS0 hF.1 hq0 (fun K h u => ⟨rfl, rfl, h, u⟩)) (by decide) ⟨(Nat.le_of_ble_eq_true rfl), (Nat.le_of_ble_eq_true rfl), (Nat.le_of_ble_eq_true rfl)⟩ (fun h => by cases h) (fun v1 ly1 N31 ⟨q1, q2, hT31, hU31⟩ => ?_)
      rw [q1, q2]
      have hXN31 := (hT31.1).xw hX
      have hplN31 : N31.2.2 0 3 = some pl := ((hT31.1).2.2 0 3 (by decide)).trans hpl
      have hnN31 : N31.1 pl 0 = nI n := (congrFun ((hT31.1).p0 hp7) 0).trans hn
      have hw1N31 : N31.1 (pl + 1) 0 = nI nw := (congrFun ((hT31.1).pk hp7 (k := 1) (by decide)) 0).trans hw1
      refine Rn.iload dX11_fits_33 rfl ?_
      refine Rn.iload_n dX11_fits_35 rfl ?_
      refine Rn.icmp_ge dX11_fits_36 (fun d3 => ?_) (fun d3 => ?_)
      · skip
        have hn3 : ¬ 3 < nm := fun h => nI_ge (a := 3) (b := nm) h (by omega) d3
        refine Rn.aload_n dX11_fits_56 rfl ?_
        refine Rn.iload_n dX11_fits_57 rfl ?_
        refine Rn.callV1 dX11_fits_58 vX11_375 (xc0 hXN31) (by decide) rfl (tX11_groansAreSo (Q := fun v0 ly0 M0 => v0 = some (.int (b01 (soB (TG M.1 pl n nw (fun k => M.1 (pl + 7 + k)) (pl + 18) nu (pl + 21) nv (M.1 75 4) 0 1 (M.1 90)) (zsc (M.1 75 15) (fun _ => 0)) (kbX M m) (M.1 129) (M.1 130) (M.1 131) (M.1 132) ng L))) ∧ ly0 = ly ∧ quX M M0) (L := L) hXS0 hg.1 hg.2.2.1 hg.2.2.2 hXS0.ok hT31 (fun K h => ⟨rfl, rfl, h⟩)) (by decide) ⟨(Nat.le_of_ble_eq_true rfl), (Nat.le_of_ble_eq_true rfl), (Nat.le_of_ble_eq_true rfl)⟩ (fun h => by cases h) (fun v1 ly1 N34 ⟨q1, q2, hq34⟩ => ?_)
        rw [q1, q2]
        have hXN34 := (hq34).xw hX
        have hplN34 : N34.2.2 0 3 = some pl := ((hq34).2.2 0 3 (by decide)).trans hpl
        have hnN34 : N34.1 pl 0 = nI n := (congrFun ((hq34).p0 hp7) 0).trans hn
        have hw1N34 : N34.1 (pl + 1) 0 = nI nw := (congrFun ((hq34).pk hp7 (k := 1) (by decide)) 0).trans hw1
        refine Rn.if_eq dX11_fits_61 (fun hd => ?_) (fun hd => ?_)
        · skip
          have e : ftS (fun i => if i < nm then soB (TG M.1 pl n nw (fun k => M.1 (pl + 7 + k)) (pl + 25 + 3 * i) (mu i) (pl + 21) nv (M.1 75 4) 0 1 (M.1 90)) (zsc (M.1 75 15) (fun _ => 0)) (kbX M m) (M.1 129) (M.1 130) (M.1 131) (M.1 132) ng L else soB (TG M.1 pl n nw (fun k => M.1 (pl + 7 + k)) (pl + 18) nu (pl + 21) nv (M.1 75 4) 0 1 (M.1 90)) (zsc (M.1 75 15) (fun _ => 0)) (kbX M m) (M.1 129) (M.1 130) (M.1 131) (M.1 132) ng L) (3 + 1) = ftS (fun i => if i < nm then soB (TG M.1 pl n nw (fun k => M.1 (pl + 7 + k)) (pl + 25 + 3 * i) (mu i) (pl + 21) nv (M.1 75 4) 0 1 (M.1 90)) (zsc (M.1 75 15) (fun _ => 0)) (kbX M m) (M.1 129) (M.1 130) (M.1 131) (M.1 132) ng L else soB (TG M.1 pl n nw (fun k => M.1 (pl + 7 + k)) (pl + 18) nu (pl + 21) nv (M.1 75 4) 0 1 (M.1 90)) (zsc (M.1 75 15) (fun _ => 0)) (kbX M m) (M.1 129) (M.1 130) (M.1 131) (M.1 132) ng L) 3 := if_neg (fun h => b01_0 hd (by have h2 : (if 3 < nm then _ else _) = true := h; rw [if_neg hn3] at h2; exact h2))
          rw [← e]
          refine Rn.iincv (j' := 1) (lv' := [some (.ref 0), some (.int (kbX M m)), some (.int (nI nm)), some (.int (ftS (fun i => if i < nm then soB (TG M.1 pl n nw (fun k => M.1 (pl + 7 + k)) (pl + 25 + 3 * i) (mu i) (pl + 21) nv (M.1 75 4) 0 1 (M.1 90)) (zsc (M.1 75 15) (fun _ => 0)) (kbX M m) (M.1 129) (M.1 130) (M.1 131) (M.1 132) ng L else soB (TG M.1 pl n nw (fun k => M.1 (pl + 7 + k)) (pl + 18) nu (pl + 21) nv (M.1 75 4) 0 1 (M.1 90)) (zsc (M.1 75 15) (fun _ => 0)) (kbX M m) (M.1 129) (M.1 130) (M.1 131) (M.1 132) ng L) (3 + 1))), some (.int (3 + 1))]) dX11_fits_71 rfl rfl (by decide) rfl ?_
          refine Rn.goto dX11_fits_74 ?_
          show Rn G l mX11_fits (7, 0, 0, false) 23 [some (.ref 0), some (.int (kbX M m)), some (.int (nI nm)), some (.int (ftS (fun i => if i < nm then soB (TG M.1 pl n nw (fun k => M.1 (pl + 7 + k)) (pl + 25 + 3 * i) (mu i) (pl + 21) nv (M.1 75 4) 0 1 (M.1 90)) (zsc (M.1 75 15) (fun _ => 0)) (kbX M m) (M.1 129) (M.1 130) (M.1 131) (M.1 132) ng L else soB (TG M.1 pl n nw (fun k => M.1 (pl + 7 + k)) (pl + 18) nu (pl + 21) nv (M.1 75 4) 0 1 (M.1 90)) (zsc (M.1 75 15) (fun _ => 0)) (kbX M m) (M.1 129) (M.1 130) (M.1 131) (M.1 132) ng L) (3 + 1))), some (.int 4)] [] ly N34 Q
          exact F4 (by omega) N34 hq34
        · skip
          have e : ftS (fun i => if i < nm then soB (TG M.1 pl n nw (fun k => M.1 (pl + 7 + k)) (pl + 25 + 3 * i) (mu i) (pl + 21) nv (M.1 75 4) 0 1 (M.1 90)) (zsc (M.1 75 15) (fun _ => 0)) (kbX M m) (M.1 129) (M.1 130) (M.1 131) (M.1 132) ng L else soB (TG M.1 pl n nw (fun k => M.1 (pl + 7 + k)) (pl + 18) nu (pl + 21) nv (M.1 75 4) 0 1 (M.1 90)) (zsc (M.1 75 15) (fun _ => 0)) (kbX M m) (M.1 129) (M.1 130) (M.1 131) (M.1 132) ng L) (3 + 1) = ftS (fun i => if i < nm then soB (TG M.1 pl n nw (fun k => M.1 (pl + 7 + k)) (pl + 25 + 3 * i) (mu i) (pl + 21) nv (M.1 75 4) 0 1 (M.1 90)) (zsc (M.1 75 15) (fun _ => 0)) (kbX M m) (M.1 129) (M.1 130) (M.1 131) (M.1 132) ng L else soB (TG M.1 pl n nw (fun k => M.1 (pl + 7 + k)) (pl + 18) nu (pl + 21) nv (M.1 75 4) 0 1 (M.1 90)) (zsc (M.1 75 15) (fun _ => 0)) (kbX M m) (M.1 129) (M.1 130) (M.1 131) (M.1 132) ng L) 3 ||| ((1 : Int32) <<< (nI 3 &&& 31)) := if_pos (show (if 3 < nm then _ else _) = true by rw [if_neg hn3]; exact b01_n hd)
          refine Rn.iload_n dX11_fits_64 rfl ?_
          refine Rn.iconstv (v := 1) dX11_fits_65 ic_1 ?_
          refine Rn.iload dX11_fits_66 rfl ?_
          refine Rn.ishl dX11_fits_68 ?_
          refine Rn.ior dX11_fits_69 ?_
          refine Rn.topI (y := ftS (fun i => if i < nm then soB (TG M.1 pl n nw (fun k => M.1 (pl + 7 + k)) (pl + 25 + 3 * i) (mu i) (pl + 21) nv (M.1 75 4) 0 1 (M.1 90)) (zsc (M.1 75 15) (fun _ => 0)) (kbX M m) (M.1 129) (M.1 130) (M.1 131) (M.1 132) ng L else soB (TG M.1 pl n nw (fun k => M.1 (pl + 7 + k)) (pl + 18) nu (pl + 21) nv (M.1 75 4) 0 1 (M.1 90)) (zsc (M.1 75 15) (fun _ => 0)) (kbX M m) (M.1 129) (M.1 130) (M.1 131) (M.1 132) ng L) (3 + 1)) (e.symm) ?_
          refine Rn.istore_n (lv' := [some (.ref 0), some (.int (kbX M m)), some (.int (nI nm)), some (.int (ftS (fun i => if i < nm then soB (TG M.1 pl n nw (fun k => M.1 (pl + 7 + k)) (pl + 25 + 3 * i) (mu i) (pl + 21) nv (M.1 75 4) 0 1 (M.1 90)) (zsc (M.1 75 15) (fun _ => 0)) (kbX M m) (M.1 129) (M.1 130) (M.1 131) (M.1 132) ng L else soB (TG M.1 pl n nw (fun k => M.1 (pl + 7 + k)) (pl + 18) nu (pl + 21) nv (M.1 75 4) 0 1 (M.1 90)) (zsc (M.1 75 15) (fun _ => 0)) (kbX M m) (M.1 129) (M.1 130) (M.1 131) (M.1 132) ng L) (3 + 1))), some (.int 3)]) dX11_fits_70 (by decide) rfl ?_
          refine Rn.iincv (j' := 1) (lv' := [some (.ref 0), some (.int (kbX M m)), some (.int (nI nm)), some (.int (ftS (fun i => if i < nm then soB (TG M.1 pl n nw (fun k => M.1 (pl + 7 + k)) (pl + 25 + 3 * i) (mu i) (pl + 21) nv (M.1 75 4) 0 1 (M.1 90)) (zsc (M.1 75 15) (fun _ => 0)) (kbX M m) (M.1 129) (M.1 130) (M.1 131) (M.1 132) ng L else soB (TG M.1 pl n nw (fun k => M.1 (pl + 7 + k)) (pl + 18) nu (pl + 21) nv (M.1 75 4) 0 1 (M.1 90)) (zsc (M.1 75 15) (fun _ => 0)) (kbX M m) (M.1 129) (M.1 130) (M.1 131) (M.1 132) ng L) (3 + 1))), some (.int (3 + 1))]) dX11_fits_71 rfl rfl (by decide) rfl ?_
          refine Rn.goto dX11_fits_74 ?_
          show Rn G l mX11_fits (7, 0, 0, false) 23 [some (.ref 0), some (.int (kbX M m)), some (.int (nI nm)), some (.int (ftS (fun i => if i < nm then soB (TG M.1 pl n nw (fun k => M.1 (pl + 7 + k)) (pl + 25 + 3 * i) (mu i) (pl + 21) nv (M.1 75 4) 0 1 (M.1 90)) (zsc (M.1 75 15) (fun _ => 0)) (kbX M m) (M.1 129) (M.1 130) (M.1 131) (M.1 132) ng L else soB (TG M.1 pl n nw (fun k => M.1 (pl + 7 + k)) (pl + 18) nu (pl + 21) nv (M.1 75 4) 0 1 (M.1 90)) (zsc (M.1 75 15) (fun _ => 0)) (kbX M m) (M.1 129) (M.1 130) (M.1 131) (M.1 132) ng L) (3 + 1))), some (.int 4)] [] ly N34 Q
          exact F4 (by omega) N34 hq34
      · skip
        exact absurd (nI_le (a := nm) (b := 3) (by omega) (by decide)) d3
  have F2 : 2 ≤ nm + 1 → ∀ N0 : Mm, quX M N0 → Rn G l mX11_fits (7, 0, 0, false) 23 [some (.ref 0), some (.int (kbX M m)), some (.int (nI nm)), some (.int (ftS (fun i => if i < nm then soB (TG M.1 pl n nw (fun k => M.1 (pl + 7 + k)) (pl + 25 + 3 * i) (mu i) (pl + 21) nv (M.1 75 4) 0 1 (M.1 90)) (zsc (M.1 75 15) (fun _ => 0)) (kbX M m) (M.1 129) (M.1 130) (M.1 131) (M.1 132) ng L else soB (TG M.1 pl n nw (fun k => M.1 (pl + 7 + k)) (pl + 18) nu (pl + 21) nv (M.1 75 4) 0 1 (M.1 90)) (zsc (M.1 75 15) (fun _ => 0)) (kbX M m) (M.1 129) (M.1 130) (M.1 131) (M.1 132) ng L) 2)), some (.int 2)] [] ly N0 Q := by
    intro hle N0 hq0
    have hXN0 := (hq0).xw hX
    have hplN0 : N0.2.2 0 3 = some pl := ((hq0).2.2 0 3 (by decide)).trans hpl
    have hnN0 : N0.1 pl 0 = nI n := (congrFun ((hq0).p0 hp7) 0).trans hn
    have hw1N0 : N0.1 (pl + 1) 0 = nI nw := (congrFun ((hq0).pk hp7 (k := 1) (by decide)) 0).trans hw1
    refine Rn.iload dX11_fits_23 rfl ?_
    refine Rn.iload_n dX11_fits_25 rfl ?_
    refine Rn.icmp_gt dX11_fits_26 (fun c2 => ?_) (fun c2 => ?_)
    · skip
      have e : nm + 1 = 2 := by have := (nI_ltI (b := 2) (by omega) (by decide)).mp c2; omega
      refine Rn.iload_n dX11_fits_77 rfl ?_
      exact Rn.iret (ty := .int) dX11_fits_78 rfl rfl (by have h := hQ N0 (hq0); rw [e] at h; exact h)
    · skip
      have h2 : 2 ≤ nm := by have := mt (nI_lt (a := nm) (b := 2) · (by decide)) c2; omega
      refine Rn.aload_n dX11_fits_29 rfl ?_
      refine Rn.callV0 dX11_fits_30 vX11_328 (xc0 hXN0) (by decide) rfl (trRest (Q := fun v0 ly0 M0 => v0 = none ∧ ly0 = ly ∧ Tr ly M M0 pl n (pl + 7) nw (fun k => M.1 (pl + 7 + k)) (pl + 18) nu (pl + 21) nv (M.1 75 4) 0 1 (M.1 90) nf (M.1 88) (M.1 89) (zsc (M.1 75 15) (fun _ => 0)) ∧ quT N0 M0) hXS0 hF.1 hq0 (fun K h u => ⟨rfl, rfl, h, u⟩)) (by decide) ⟨(Nat.le_of_ble_eq_true rfl), (Nat.le_of_ble_eq_true rfl), (Nat.le_of_ble_eq_true rfl)⟩ (fun h => by cases h) (fun v1 ly1 N21 ⟨q1, q2, hT21, hU21⟩ => ?_)
      rw [q1, q2]
      have hXN21 := (hT21.1).xw hX
      have hplN21 : N21.2.2 0 3 = some pl := ((hT21.1).2.2 0 3 (by decide)).trans hpl
      have hnN21 : N21.1 pl 0 = nI n := (congrFun ((hT21.1).p0 hp7) 0).trans hn
      have hw1N21 : N21.1 (pl + 1) 0 = nI nw := (congrFun ((hT21.1).pk hp7 (k := 1) (by decide)) 0).trans hw1
      refine Rn.iload dX11_fits_33 rfl ?_
      refine Rn.iload_n dX11_fits_35 rfl ?_
      refine Rn.icmp_ge dX11_fits_36 (fun d2 => ?_) (fun d2 => ?_)
      · skip
        have hn2 : ¬ 2 < nm := fun h => nI_ge (a := 2) (b := nm) h (by omega) d2
        refine Rn.aload_n dX11_fits_56 rfl ?_
        refine Rn.iload_n dX11_fits_57 rfl ?_
        refine Rn.callV1 dX11_fits_58 vX11_375 (xc0 hXN21) (by decide) rfl (tX11_groansAreSo (Q := fun v0 ly0 M0 => v0 = some (.int (b01 (soB (TG M.1 pl n nw (fun k => M.1 (pl + 7 + k)) (pl + 18) nu (pl + 21) nv (M.1 75 4) 0 1 (M.1 90)) (zsc (M.1 75 15) (fun _ => 0)) (kbX M m) (M.1 129) (M.1 130) (M.1 131) (M.1 132) ng L))) ∧ ly0 = ly ∧ quX M M0) (L := L) hXS0 hg.1 hg.2.2.1 hg.2.2.2 hXS0.ok hT21 (fun K h => ⟨rfl, rfl, h⟩)) (by decide) ⟨(Nat.le_of_ble_eq_true rfl), (Nat.le_of_ble_eq_true rfl), (Nat.le_of_ble_eq_true rfl)⟩ (fun h => by cases h) (fun v1 ly1 N24 ⟨q1, q2, hq24⟩ => ?_)
        rw [q1, q2]
        have hXN24 := (hq24).xw hX
        have hplN24 : N24.2.2 0 3 = some pl := ((hq24).2.2 0 3 (by decide)).trans hpl
        have hnN24 : N24.1 pl 0 = nI n := (congrFun ((hq24).p0 hp7) 0).trans hn
        have hw1N24 : N24.1 (pl + 1) 0 = nI nw := (congrFun ((hq24).pk hp7 (k := 1) (by decide)) 0).trans hw1
        refine Rn.if_eq dX11_fits_61 (fun hd => ?_) (fun hd => ?_)
        · skip
          have e : ftS (fun i => if i < nm then soB (TG M.1 pl n nw (fun k => M.1 (pl + 7 + k)) (pl + 25 + 3 * i) (mu i) (pl + 21) nv (M.1 75 4) 0 1 (M.1 90)) (zsc (M.1 75 15) (fun _ => 0)) (kbX M m) (M.1 129) (M.1 130) (M.1 131) (M.1 132) ng L else soB (TG M.1 pl n nw (fun k => M.1 (pl + 7 + k)) (pl + 18) nu (pl + 21) nv (M.1 75 4) 0 1 (M.1 90)) (zsc (M.1 75 15) (fun _ => 0)) (kbX M m) (M.1 129) (M.1 130) (M.1 131) (M.1 132) ng L) (2 + 1) = ftS (fun i => if i < nm then soB (TG M.1 pl n nw (fun k => M.1 (pl + 7 + k)) (pl + 25 + 3 * i) (mu i) (pl + 21) nv (M.1 75 4) 0 1 (M.1 90)) (zsc (M.1 75 15) (fun _ => 0)) (kbX M m) (M.1 129) (M.1 130) (M.1 131) (M.1 132) ng L else soB (TG M.1 pl n nw (fun k => M.1 (pl + 7 + k)) (pl + 18) nu (pl + 21) nv (M.1 75 4) 0 1 (M.1 90)) (zsc (M.1 75 15) (fun _ => 0)) (kbX M m) (M.1 129) (M.1 130) (M.1 131) (M.1 132) ng L) 2 := if_neg (fun h => b01_0 hd (by have h2 : (if 2 < nm then _ else _) = true := h; rw [if_neg hn2] at h2; exact h2))
          rw [← e]
          refine Rn.iincv (j' := 1) (lv' := [some (.ref 0), some (.int (kbX M m)), some (.int (nI nm)), some (.int (ftS (fun i => if i < nm then soB (TG M.1 pl n nw (fun k => M.1 (pl + 7 + k)) (pl + 25 + 3 * i) (mu i) (pl + 21) nv (M.1 75 4) 0 1 (M.1 90)) (zsc (M.1 75 15) (fun _ => 0)) (kbX M m) (M.1 129) (M.1 130) (M.1 131) (M.1 132) ng L else soB (TG M.1 pl n nw (fun k => M.1 (pl + 7 + k)) (pl + 18) nu (pl + 21) nv (M.1 75 4) 0 1 (M.1 90)) (zsc (M.1 75 15) (fun _ => 0)) (kbX M m) (M.1 129) (M.1 130) (M.1 131) (M.1 132) ng L) (2 + 1))), some (.int (2 + 1))]) dX11_fits_71 rfl rfl (by decide) rfl ?_
          refine Rn.goto dX11_fits_74 ?_
          show Rn G l mX11_fits (7, 0, 0, false) 23 [some (.ref 0), some (.int (kbX M m)), some (.int (nI nm)), some (.int (ftS (fun i => if i < nm then soB (TG M.1 pl n nw (fun k => M.1 (pl + 7 + k)) (pl + 25 + 3 * i) (mu i) (pl + 21) nv (M.1 75 4) 0 1 (M.1 90)) (zsc (M.1 75 15) (fun _ => 0)) (kbX M m) (M.1 129) (M.1 130) (M.1 131) (M.1 132) ng L else soB (TG M.1 pl n nw (fun k => M.1 (pl + 7 + k)) (pl + 18) nu (pl + 21) nv (M.1 75 4) 0 1 (M.1 90)) (zsc (M.1 75 15) (fun _ => 0)) (kbX M m) (M.1 129) (M.1 130) (M.1 131) (M.1 132) ng L) (2 + 1))), some (.int 3)] [] ly N24 Q
          exact F3 (by omega) N24 hq24
        · skip
          have e : ftS (fun i => if i < nm then soB (TG M.1 pl n nw (fun k => M.1 (pl + 7 + k)) (pl + 25 + 3 * i) (mu i) (pl + 21) nv (M.1 75 4) 0 1 (M.1 90)) (zsc (M.1 75 15) (fun _ => 0)) (kbX M m) (M.1 129) (M.1 130) (M.1 131) (M.1 132) ng L else soB (TG M.1 pl n nw (fun k => M.1 (pl + 7 + k)) (pl + 18) nu (pl + 21) nv (M.1 75 4) 0 1 (M.1 90)) (zsc (M.1 75 15) (fun _ => 0)) (kbX M m) (M.1 129) (M.1 130) (M.1 131) (M.1 132) ng L) (2 + 1) = ftS (fun i => if i < nm then soB (TG M.1 pl n nw (fun k => M.1 (pl + 7 + k)) (pl + 25 + 3 * i) (mu i) (pl + 21) nv (M.1 75 4) 0 1 (M.1 90)) (zsc (M.1 75 15) (fun _ => 0)) (kbX M m) (M.1 129) (M.1 130) (M.1 131) (M.1 132) ng L else soB (TG M.1 pl n nw (fun k => M.1 (pl + 7 + k)) (pl + 18) nu (pl + 21) nv (M.1 75 4) 0 1 (M.1 90)) (zsc (M.1 75 15) (fun _ => 0)) (kbX M m) (M.1 129) (M.1 130) (M.1 131) (M.1 132) ng L) 2 ||| ((1 : Int32) <<< (nI 2 &&& 31)) := if_pos (show (if 2 < nm then _ else _) = true by rw [if_neg hn2]; exact b01_n hd)
          refine Rn.iload_n dX11_fits_64 rfl ?_
          refine Rn.iconstv (v := 1) dX11_fits_65 ic_1 ?_
          refine Rn.iload dX11_fits_66 rfl ?_
          refine Rn.ishl dX11_fits_68 ?_
          refine Rn.ior dX11_fits_69 ?_
          refine Rn.topI (y := ftS (fun i => if i < nm then soB (TG M.1 pl n nw (fun k => M.1 (pl + 7 + k)) (pl + 25 + 3 * i) (mu i) (pl + 21) nv (M.1 75 4) 0 1 (M.1 90)) (zsc (M.1 75 15) (fun _ => 0)) (kbX M m) (M.1 129) (M.1 130) (M.1 131) (M.1 132) ng L else soB (TG M.1 pl n nw (fun k => M.1 (pl + 7 + k)) (pl + 18) nu (pl + 21) nv (M.1 75 4) 0 1 (M.1 90)) (zsc (M.1 75 15) (fun _ => 0)) (kbX M m) (M.1 129) (M.1 130) (M.1 131) (M.1 132) ng L) (2 + 1)) (e.symm) ?_
          refine Rn.istore_n (lv' := [some (.ref 0), some (.int (kbX M m)), some (.int (nI nm)), some (.int (ftS (fun i => if i < nm then soB (TG M.1 pl n nw (fun k => M.1 (pl + 7 + k)) (pl + 25 + 3 * i) (mu i) (pl + 21) nv (M.1 75 4) 0 1 (M.1 90)) (zsc (M.1 75 15) (fun _ => 0)) (kbX M m) (M.1 129) (M.1 130) (M.1 131) (M.1 132) ng L else soB (TG M.1 pl n nw (fun k => M.1 (pl + 7 + k)) (pl + 18) nu (pl + 21) nv (M.1 75 4) 0 1 (M.1 90)) (zsc (M.1 75 15) (fun _ => 0)) (kbX M m) (M.1 129) (M.1 130) (M.1 131) (M.1 132) ng L) (2 + 1))), some (.int 2)]) dX11_fits_70 (by decide) rfl ?_
          refine Rn.iincv (j' := 1) (lv' := [some (.ref 0), some (.int (kbX M m)), some (.int (nI nm)), some (.int (ftS (fun i => if i < nm then soB (TG M.1 pl n nw (fun k => M.1 (pl + 7 + k)) (pl + 25 + 3 * i) (mu i) (pl + 21) nv (M.1 75 4) 0 1 (M.1 90)) (zsc (M.1 75 15) (fun _ => 0)) (kbX M m) (M.1 129) (M.1 130) (M.1 131) (M.1 132) ng L else soB (TG M.1 pl n nw (fun k => M.1 (pl + 7 + k)) (pl + 18) nu (pl + 21) nv (M.1 75 4) 0 1 (M.1 90)) (zsc (M.1 75 15) (fun _ => 0)) (kbX M m) (M.1 129) (M.1 130) (M.1 131) (M.1 132) ng L) (2 + 1))), some (.int (2 + 1))]) dX11_fits_71 rfl rfl (by decide) rfl ?_
          refine Rn.goto dX11_fits_74 ?_
          show Rn G l mX11_fits (7, 0, 0, false) 23 [some (.ref 0), some (.int (kbX M m)), some (.int (nI nm)), some (.int (ftS (fun i => if i < nm then soB (TG M.1 pl n nw (fun k => M.1 (pl + 7 + k)) (pl + 25 + 3 * i) (mu i) (pl + 21) nv (M.1 75 4) 0 1 (M.1 90)) (zsc (M.1 75 15) (fun _ => 0)) (kbX M m) (M.1 129) (M.1 130) (M.1 131) (M.1 132) ng L else soB (TG M.1 pl n nw (fun k => M.1 (pl + 7 + k)) (pl + 18) nu (pl + 21) nv (M.1 75 4) 0 1 (M.1 90)) (zsc (M.1 75 15) (fun _ => 0)) (kbX M m) (M.1 129) (M.1 130) (M.1 131) (M.1 132) ng L) (2 + 1))), some (.int 3)] [] ly N24 Q
          exact F3 (by omega) N24 hq24
      · skip
        have hn2 : 2 < nm := Nat.lt_of_not_le (fun h => d2 (nI_le (a := nm) (b := 2) h (by decide)))
        refine Rn.aload_n dX11_fits_39 rfl ?_
        refine Rn.getR dX11_fits_40 fX11_43 rfl (xc0 hXN21) (show N21.2.2 0 6 = some 92 from (xp0_6 hXN21)) ?_
        refine Rn.aload_n dX11_fits_43 rfl ?_
        refine Rn.getR dX11_fits_44 fX11_27 rfl (xc0 hXN21) (show N21.2.2 0 3 = some pl from hplN21) ?_
        refine Rn.getR dX11_fits_47 fX11_378 rfl (pc0 hXN21 hp7) (show N21.2.2 pl 17 = some (pl + 24) from (pp0_17 hXN21 hp7)) ?_
        refine Rn.iload dX11_fits_50 rfl ?_
        refine Rn.aldq (a2 := pl + 31) dX11_fits_52 (pc24 hXN21 hp7) (by unfold vp_in; decide) (show N21.2.2 (pl + 24) 2 = some (pl + 31) from pp24_2 hXN21 hp7) ?_
        refine Rn.putR dX11_fits_53 fX11_382 rfl rfl (by decide +kernel) (xc92 hXN21) ?_
        have hT22m : Tr ly M (sR N21 92 (va_up (N21.2.2 92) 2 (some (pl + 31)))) pl n (pl + 7) nw (fun k => M.1 (pl + 7 + k)) (pl + 31) (mu 2) (pl + 21) nv (M.1 75 4) 0 1 (M.1 90) nf (M.1 88) (M.1 89) (zsc (M.1 75 15) (fun _ => 0)) := Tr.s_n (nu' := mu 2) (nv' := nv) (Tr.s_u hXS0.ok hT21 (pl + 31))
        revert hT22m
        generalize (sR N21 92 (va_up (N21.2.2 92) 2 (some (pl + 31)))) = N22
        intro hT22m
        have hT22 : Tr ly M N22 pl n (pl + 7) nw (fun k => M.1 (pl + 7 + k)) (pl + 31) (mu 2) (pl + 21) nv (M.1 75 4) 0 1 (M.1 90) nf (M.1 88) (M.1 89) (zsc (M.1 75 15) (fun _ => 0)) := hT22m
        have hXN22 := (hT22.1).xw hX
        have hplN22 : N22.2.2 0 3 = some pl := ((hT22.1).2.2 0 3 (by decide)).trans hpl
        have hnN22 : N22.1 pl 0 = nI n := (congrFun ((hT22.1).p0 hp7) 0).trans hn
        have hw1N22 : N22.1 (pl + 1) 0 = nI nw := (congrFun ((hT22.1).pk hp7 (k := 1) (by decide)) 0).trans hw1
        have hok2 : okT ly M pl n (pl + 7) nw (pl + 31) (mu 2) (pl + 21) nv := ⟨hX, hp7, ⟨hn, hn12⟩, Or.inl rfl, hw6, (by omega), hmu 2 (by omega), Or.inl rfl, ⟨hv1, hv2⟩, hgl⟩
        refine Rn.aload_n dX11_fits_56 rfl ?_
        refine Rn.iload_n dX11_fits_57 rfl ?_
        refine Rn.callV1 dX11_fits_58 vX11_375 (xc0 hXN22) (by decide) rfl (tX11_groansAreSo (Q := fun v0 ly0 M0 => v0 = some (.int (b01 (soB (TG M.1 pl n nw (fun k => M.1 (pl + 7 + k)) (pl + 25 + 3 * 2) (mu 2) (pl + 21) nv (M.1 75 4) 0 1 (M.1 90)) (zsc (M.1 75 15) (fun _ => 0)) (kbX M m) (M.1 129) (M.1 130) (M.1 131) (M.1 132) ng L))) ∧ ly0 = ly ∧ quX M M0) (L := L) hXS0 hg.1 hg.2.2.1 hg.2.2.2 hok2 hT22 (fun K h => ⟨rfl, rfl, h⟩)) (by decide) ⟨(Nat.le_of_ble_eq_true rfl), (Nat.le_of_ble_eq_true rfl), (Nat.le_of_ble_eq_true rfl)⟩ (fun h => by cases h) (fun v1 ly1 N24 ⟨q1, q2, hq24⟩ => ?_)
        rw [q1, q2]
        have hXN24 := (hq24).xw hX
        have hplN24 : N24.2.2 0 3 = some pl := ((hq24).2.2 0 3 (by decide)).trans hpl
        have hnN24 : N24.1 pl 0 = nI n := (congrFun ((hq24).p0 hp7) 0).trans hn
        have hw1N24 : N24.1 (pl + 1) 0 = nI nw := (congrFun ((hq24).pk hp7 (k := 1) (by decide)) 0).trans hw1
        refine Rn.if_eq dX11_fits_61 (fun hd => ?_) (fun hd => ?_)
        · skip
          have e : ftS (fun i => if i < nm then soB (TG M.1 pl n nw (fun k => M.1 (pl + 7 + k)) (pl + 25 + 3 * i) (mu i) (pl + 21) nv (M.1 75 4) 0 1 (M.1 90)) (zsc (M.1 75 15) (fun _ => 0)) (kbX M m) (M.1 129) (M.1 130) (M.1 131) (M.1 132) ng L else soB (TG M.1 pl n nw (fun k => M.1 (pl + 7 + k)) (pl + 18) nu (pl + 21) nv (M.1 75 4) 0 1 (M.1 90)) (zsc (M.1 75 15) (fun _ => 0)) (kbX M m) (M.1 129) (M.1 130) (M.1 131) (M.1 132) ng L) (2 + 1) = ftS (fun i => if i < nm then soB (TG M.1 pl n nw (fun k => M.1 (pl + 7 + k)) (pl + 25 + 3 * i) (mu i) (pl + 21) nv (M.1 75 4) 0 1 (M.1 90)) (zsc (M.1 75 15) (fun _ => 0)) (kbX M m) (M.1 129) (M.1 130) (M.1 131) (M.1 132) ng L else soB (TG M.1 pl n nw (fun k => M.1 (pl + 7 + k)) (pl + 18) nu (pl + 21) nv (M.1 75 4) 0 1 (M.1 90)) (zsc (M.1 75 15) (fun _ => 0)) (kbX M m) (M.1 129) (M.1 130) (M.1 131) (M.1 132) ng L) 2 := if_neg (fun h => b01_0 hd (by have h2 : (if 2 < nm then _ else _) = true := h; rw [if_pos hn2] at h2; exact h2))
          rw [← e]
          refine Rn.iincv (j' := 1) (lv' := [some (.ref 0), some (.int (kbX M m)), some (.int (nI nm)), some (.int (ftS (fun i => if i < nm then soB (TG M.1 pl n nw (fun k => M.1 (pl + 7 + k)) (pl + 25 + 3 * i) (mu i) (pl + 21) nv (M.1 75 4) 0 1 (M.1 90)) (zsc (M.1 75 15) (fun _ => 0)) (kbX M m) (M.1 129) (M.1 130) (M.1 131) (M.1 132) ng L else soB (TG M.1 pl n nw (fun k => M.1 (pl + 7 + k)) (pl + 18) nu (pl + 21) nv (M.1 75 4) 0 1 (M.1 90)) (zsc (M.1 75 15) (fun _ => 0)) (kbX M m) (M.1 129) (M.1 130) (M.1 131) (M.1 132) ng L) (2 + 1))), some (.int (2 + 1))]) dX11_fits_71 rfl rfl (by decide) rfl ?_
          refine Rn.goto dX11_fits_74 ?_
          show Rn G l mX11_fits (7, 0, 0, false) 23 [some (.ref 0), some (.int (kbX M m)), some (.int (nI nm)), some (.int (ftS (fun i => if i < nm then soB (TG M.1 pl n nw (fun k => M.1 (pl + 7 + k)) (pl + 25 + 3 * i) (mu i) (pl + 21) nv (M.1 75 4) 0 1 (M.1 90)) (zsc (M.1 75 15) (fun _ => 0)) (kbX M m) (M.1 129) (M.1 130) (M.1 131) (M.1 132) ng L else soB (TG M.1 pl n nw (fun k => M.1 (pl + 7 + k)) (pl + 18) nu (pl + 21) nv (M.1 75 4) 0 1 (M.1 90)) (zsc (M.1 75 15) (fun _ => 0)) (kbX M m) (M.1 129) (M.1 130) (M.1 131) (M.1 132) ng L) (2 + 1))), some (.int 3)] [] ly N24 Q
          exact F3 (by omega) N24 hq24
        · skip
          have e : ftS (fun i => if i < nm then soB (TG M.1 pl n nw (fun k => M.1 (pl + 7 + k)) (pl + 25 + 3 * i) (mu i) (pl + 21) nv (M.1 75 4) 0 1 (M.1 90)) (zsc (M.1 75 15) (fun _ => 0)) (kbX M m) (M.1 129) (M.1 130) (M.1 131) (M.1 132) ng L else soB (TG M.1 pl n nw (fun k => M.1 (pl + 7 + k)) (pl + 18) nu (pl + 21) nv (M.1 75 4) 0 1 (M.1 90)) (zsc (M.1 75 15) (fun _ => 0)) (kbX M m) (M.1 129) (M.1 130) (M.1 131) (M.1 132) ng L) (2 + 1) = ftS (fun i => if i < nm then soB (TG M.1 pl n nw (fun k => M.1 (pl + 7 + k)) (pl + 25 + 3 * i) (mu i) (pl + 21) nv (M.1 75 4) 0 1 (M.1 90)) (zsc (M.1 75 15) (fun _ => 0)) (kbX M m) (M.1 129) (M.1 130) (M.1 131) (M.1 132) ng L else soB (TG M.1 pl n nw (fun k => M.1 (pl + 7 + k)) (pl + 18) nu (pl + 21) nv (M.1 75 4) 0 1 (M.1 90)) (zsc (M.1 75 15) (fun _ => 0)) (kbX M m) (M.1 129) (M.1 130) (M.1 131) (M.1 132) ng L) 2 ||| ((1 : Int32) <<< (nI 2 &&& 31)) := if_pos (show (if 2 < nm then _ else _) = true by rw [if_pos hn2]; exact b01_n hd)
          refine Rn.iload_n dX11_fits_64 rfl ?_
          refine Rn.iconstv (v := 1) dX11_fits_65 ic_1 ?_
          refine Rn.iload dX11_fits_66 rfl ?_
          refine Rn.ishl dX11_fits_68 ?_
          refine Rn.ior dX11_fits_69 ?_
          refine Rn.topI (y := ftS (fun i => if i < nm then soB (TG M.1 pl n nw (fun k => M.1 (pl + 7 + k)) (pl + 25 + 3 * i) (mu i) (pl + 21) nv (M.1 75 4) 0 1 (M.1 90)) (zsc (M.1 75 15) (fun _ => 0)) (kbX M m) (M.1 129) (M.1 130) (M.1 131) (M.1 132) ng L else soB (TG M.1 pl n nw (fun k => M.1 (pl + 7 + k)) (pl + 18) nu (pl + 21) nv (M.1 75 4) 0 1 (M.1 90)) (zsc (M.1 75 15) (fun _ => 0)) (kbX M m) (M.1 129) (M.1 130) (M.1 131) (M.1 132) ng L) (2 + 1)) (e.symm) ?_
          refine Rn.istore_n (lv' := [some (.ref 0), some (.int (kbX M m)), some (.int (nI nm)), some (.int (ftS (fun i => if i < nm then soB (TG M.1 pl n nw (fun k => M.1 (pl + 7 + k)) (pl + 25 + 3 * i) (mu i) (pl + 21) nv (M.1 75 4) 0 1 (M.1 90)) (zsc (M.1 75 15) (fun _ => 0)) (kbX M m) (M.1 129) (M.1 130) (M.1 131) (M.1 132) ng L else soB (TG M.1 pl n nw (fun k => M.1 (pl + 7 + k)) (pl + 18) nu (pl + 21) nv (M.1 75 4) 0 1 (M.1 90)) (zsc (M.1 75 15) (fun _ => 0)) (kbX M m) (M.1 129) (M.1 130) (M.1 131) (M.1 132) ng L) (2 + 1))), some (.int 2)]) dX11_fits_70 (by decide) rfl ?_
          refine Rn.iincv (j' := 1) (lv' := [some (.ref 0), some (.int (kbX M m)), some (.int (nI nm)), some (.int (ftS (fun i => if i < nm then soB (TG M.1 pl n nw (fun k => M.1 (pl + 7 + k)) (pl + 25 + 3 * i) (mu i) (pl + 21) nv (M.1 75 4) 0 1 (M.1 90)) (zsc (M.1 75 15) (fun _ => 0)) (kbX M m) (M.1 129) (M.1 130) (M.1 131) (M.1 132) ng L else soB (TG M.1 pl n nw (fun k => M.1 (pl + 7 + k)) (pl + 18) nu (pl + 21) nv (M.1 75 4) 0 1 (M.1 90)) (zsc (M.1 75 15) (fun _ => 0)) (kbX M m) (M.1 129) (M.1 130) (M.1 131) (M.1 132) ng L) (2 + 1))), some (.int (2 + 1))]) dX11_fits_71 rfl rfl (by decide) rfl ?_
          refine Rn.goto dX11_fits_74 ?_
          show Rn G l mX11_fits (7, 0, 0, false) 23 [some (.ref 0), some (.int (kbX M m)), some (.int (nI nm)), some (.int (ftS (fun i => if i < nm then soB (TG M.1 pl n nw (fun k => M.1 (pl + 7 + k)) (pl + 25 + 3 * i) (mu i) (pl + 21) nv (M.1 75 4) 0 1 (M.1 90)) (zsc (M.1 75 15) (fun _ => 0)) (kbX M m) (M.1 129) (M.1 130) (M.1 131) (M.1 132) ng L else soB (TG M.1 pl n nw (fun k => M.1 (pl + 7 + k)) (pl + 18) nu (pl + 21) nv (M.1 75 4) 0 1 (M.1 90)) (zsc (M.1 75 15) (fun _ => 0)) (kbX M m) (M.1 129) (M.1 130) (M.1 131) (M.1 132) ng L) (2 + 1))), some (.int 3)] [] ly N24 Q
          exact F3 (by omega) N24 hq24
  have F1 : 1 ≤ nm + 1 → ∀ N0 : Mm, quX M N0 → Rn G l mX11_fits (7, 0, 0, false) 23 [some (.ref 0), some (.int (kbX M m)), some (.int (nI nm)), some (.int (ftS (fun i => if i < nm then soB (TG M.1 pl n nw (fun k => M.1 (pl + 7 + k)) (pl + 25 + 3 * i) (mu i) (pl + 21) nv (M.1 75 4) 0 1 (M.1 90)) (zsc (M.1 75 15) (fun _ => 0)) (kbX M m) (M.1 129) (M.1 130) (M.1 131) (M.1 132) ng L else soB (TG M.1 pl n nw (fun k => M.1 (pl + 7 + k)) (pl + 18) nu (pl + 21) nv (M.1 75 4) 0 1 (M.1 90)) (zsc (M.1 75 15) (fun _ => 0)) (kbX M m) (M.1 129) (M.1 130) (M.1 131) (M.1 132) ng L) 1)), some (.int 1)] [] ly N0 Q := by
    intro hle N0 hq0
    have hXN0 := (hq0).xw hX
    have hplN0 : N0.2.2 0 3 = some pl := ((hq0).2.2 0 3 (by decide)).trans hpl
    have hnN0 : N0.1 pl 0 = nI n := (congrFun ((hq0).p0 hp7) 0).trans hn
    have hw1N0 : N0.1 (pl + 1) 0 = nI nw := (congrFun ((hq0).pk hp7 (k := 1) (by decide)) 0).trans hw1
    refine Rn.iload dX11_fits_23 rfl ?_
    refine Rn.iload_n dX11_fits_25 rfl ?_
    refine Rn.icmp_gt dX11_fits_26 (fun c1 => ?_) (fun c1 => ?_)
    · skip
      have e : nm + 1 = 1 := by have := (nI_ltI (b := 1) (by omega) (by decide)).mp c1; omega
      refine Rn.iload_n dX11_fits_77 rfl ?_
      exact Rn.iret (ty := .int) dX11_fits_78 rfl rfl (by have h := hQ N0 (hq0); rw [e] at h; exact h)
    · skip
      have h1 : 1 ≤ nm := by have := mt (nI_lt (a := nm) (b := 1) · (by decide)) c1; omega
      refine Rn.aload_n dX11_fits_29 rfl ?_
      refine Rn.callV0 dX11_fits_30 vX11_328 (xc0 hXN0) (by decide) rfl (trRest (Q := fun v0 ly0 M0 => v0 = none ∧ ly0 = ly ∧ Tr ly M M0 pl n (pl + 7) nw (fun k => M.1 (pl + 7 + k)) (pl + 18) nu (pl + 21) nv (M.1 75 4) 0 1 (M.1 90) nf (M.1 88) (M.1 89) (zsc (M.1 75 15) (fun _ => 0)) ∧ quT N0 M0) hXS0 hF.1 hq0 (fun K h u => ⟨rfl, rfl, h, u⟩)) (by decide) ⟨(Nat.le_of_ble_eq_true rfl), (Nat.le_of_ble_eq_true rfl), (Nat.le_of_ble_eq_true rfl)⟩ (fun h => by cases h) (fun v1 ly1 N11 ⟨q1, q2, hT11, hU11⟩ => ?_)
      rw [q1, q2]
      have hXN11 := (hT11.1).xw hX
      have hplN11 : N11.2.2 0 3 = some pl := ((hT11.1).2.2 0 3 (by decide)).trans hpl
      have hnN11 : N11.1 pl 0 = nI n := (congrFun ((hT11.1).p0 hp7) 0).trans hn
      have hw1N11 : N11.1 (pl + 1) 0 = nI nw := (congrFun ((hT11.1).pk hp7 (k := 1) (by decide)) 0).trans hw1
      refine Rn.iload dX11_fits_33 rfl ?_
      refine Rn.iload_n dX11_fits_35 rfl ?_
      refine Rn.icmp_ge dX11_fits_36 (fun d1 => ?_) (fun d1 => ?_)
      · skip
        have hn1 : ¬ 1 < nm := fun h => nI_ge (a := 1) (b := nm) h (by omega) d1
        refine Rn.aload_n dX11_fits_56 rfl ?_
        refine Rn.iload_n dX11_fits_57 rfl ?_
        refine Rn.callV1 dX11_fits_58 vX11_375 (xc0 hXN11) (by decide) rfl (tX11_groansAreSo (Q := fun v0 ly0 M0 => v0 = some (.int (b01 (soB (TG M.1 pl n nw (fun k => M.1 (pl + 7 + k)) (pl + 18) nu (pl + 21) nv (M.1 75 4) 0 1 (M.1 90)) (zsc (M.1 75 15) (fun _ => 0)) (kbX M m) (M.1 129) (M.1 130) (M.1 131) (M.1 132) ng L))) ∧ ly0 = ly ∧ quX M M0) (L := L) hXS0 hg.1 hg.2.2.1 hg.2.2.2 hXS0.ok hT11 (fun K h => ⟨rfl, rfl, h⟩)) (by decide) ⟨(Nat.le_of_ble_eq_true rfl), (Nat.le_of_ble_eq_true rfl), (Nat.le_of_ble_eq_true rfl)⟩ (fun h => by cases h) (fun v1 ly1 N14 ⟨q1, q2, hq14⟩ => ?_)
        rw [q1, q2]
        have hXN14 := (hq14).xw hX
        have hplN14 : N14.2.2 0 3 = some pl := ((hq14).2.2 0 3 (by decide)).trans hpl
        have hnN14 : N14.1 pl 0 = nI n := (congrFun ((hq14).p0 hp7) 0).trans hn
        have hw1N14 : N14.1 (pl + 1) 0 = nI nw := (congrFun ((hq14).pk hp7 (k := 1) (by decide)) 0).trans hw1
        refine Rn.if_eq dX11_fits_61 (fun hd => ?_) (fun hd => ?_)
        · skip
          have e : ftS (fun i => if i < nm then soB (TG M.1 pl n nw (fun k => M.1 (pl + 7 + k)) (pl + 25 + 3 * i) (mu i) (pl + 21) nv (M.1 75 4) 0 1 (M.1 90)) (zsc (M.1 75 15) (fun _ => 0)) (kbX M m) (M.1 129) (M.1 130) (M.1 131) (M.1 132) ng L else soB (TG M.1 pl n nw (fun k => M.1 (pl + 7 + k)) (pl + 18) nu (pl + 21) nv (M.1 75 4) 0 1 (M.1 90)) (zsc (M.1 75 15) (fun _ => 0)) (kbX M m) (M.1 129) (M.1 130) (M.1 131) (M.1 132) ng L) (1 + 1) = ftS (fun i => if i < nm then soB (TG M.1 pl n nw (fun k => M.1 (pl + 7 + k)) (pl + 25 + 3 * i) (mu i) (pl + 21) nv (M.1 75 4) 0 1 (M.1 90)) (zsc (M.1 75 15) (fun _ => 0)) (kbX M m) (M.1 129) (M.1 130) (M.1 131) (M.1 132) ng L else soB (TG M.1 pl n nw (fun k => M.1 (pl + 7 + k)) (pl + 18) nu (pl + 21) nv (M.1 75 4) 0 1 (M.1 90)) (zsc (M.1 75 15) (fun _ => 0)) (kbX M m) (M.1 129) (M.1 130) (M.1 131) (M.1 132) ng L) 1 := if_neg (fun h => b01_0 hd (by have h2 : (if 1 < nm then _ else _) = true := h; rw [if_neg hn1] at h2; exact h2))
          rw [← e]
          refine Rn.iincv (j' := 1) (lv' := [some (.ref 0), some (.int (kbX M m)), some (.int (nI nm)), some (.int (ftS (fun i => if i < nm then soB (TG M.1 pl n nw (fun k => M.1 (pl + 7 + k)) (pl + 25 + 3 * i) (mu i) (pl + 21) nv (M.1 75 4) 0 1 (M.1 90)) (zsc (M.1 75 15) (fun _ => 0)) (kbX M m) (M.1 129) (M.1 130) (M.1 131) (M.1 132) ng L else soB (TG M.1 pl n nw (fun k => M.1 (pl + 7 + k)) (pl + 18) nu (pl + 21) nv (M.1 75 4) 0 1 (M.1 90)) (zsc (M.1 75 15) (fun _ => 0)) (kbX M m) (M.1 129) (M.1 130) (M.1 131) (M.1 132) ng L) (1 + 1))), some (.int (1 + 1))]) dX11_fits_71 rfl rfl (by decide) rfl ?_
          refine Rn.goto dX11_fits_74 ?_
          show Rn G l mX11_fits (7, 0, 0, false) 23 [some (.ref 0), some (.int (kbX M m)), some (.int (nI nm)), some (.int (ftS (fun i => if i < nm then soB (TG M.1 pl n nw (fun k => M.1 (pl + 7 + k)) (pl + 25 + 3 * i) (mu i) (pl + 21) nv (M.1 75 4) 0 1 (M.1 90)) (zsc (M.1 75 15) (fun _ => 0)) (kbX M m) (M.1 129) (M.1 130) (M.1 131) (M.1 132) ng L else soB (TG M.1 pl n nw (fun k => M.1 (pl + 7 + k)) (pl + 18) nu (pl + 21) nv (M.1 75 4) 0 1 (M.1 90)) (zsc (M.1 75 15) (fun _ => 0)) (kbX M m) (M.1 129) (M.1 130) (M.1 131) (M.1 132) ng L) (1 + 1))), some (.int 2)] [] ly N14 Q
          exact F2 (by omega) N14 hq14
        · skip
          have e : ftS (fun i => if i < nm then soB (TG M.1 pl n nw (fun k => M.1 (pl + 7 + k)) (pl + 25 + 3 * i) (mu i) (pl + 21) nv (M.1 75 4) 0 1 (M.1 90)) (zsc (M.1 75 15) (fun _ => 0)) (kbX M m) (M.1 129) (M.1 130) (M.1 131) (M.1 132) ng L else soB (TG M.1 pl n nw (fun k => M.1 (pl + 7 + k)) (pl + 18) nu (pl + 21) nv (M.1 75 4) 0 1 (M.1 90)) (zsc (M.1 75 15) (fun _ => 0)) (kbX M m) (M.1 129) (M.1 130) (M.1 131) (M.1 132) ng L) (1 + 1) = ftS (fun i => if i < nm then soB (TG M.1 pl n nw (fun k => M.1 (pl + 7 + k)) (pl + 25 + 3 * i) (mu i) (pl + 21) nv (M.1 75 4) 0 1 (M.1 90)) (zsc (M.1 75 15) (fun _ => 0)) (kbX M m) (M.1 129) (M.1 130) (M.1 131) (M.1 132) ng L else soB (TG M.1 pl n nw (fun k => M.1 (pl + 7 + k)) (pl + 18) nu (pl + 21) nv (M.1 75 4) 0 1 (M.1 90)) (zsc (M.1 75 15) (fun _ => 0)) (kbX M m) (M.1 129) (M.1 130) (M.1 131) (M.1 132) ng L) 1 ||| ((1 : Int32) <<< (nI 1 &&& 31)) := if_pos (show (if 1 < nm then _ else _) = true by rw [if_neg hn1]; exact b01_n hd)
          refine Rn.iload_n dX11_fits_64 rfl ?_
          refine Rn.iconstv (v := 1) dX11_fits_65 ic_1 ?_
          refine Rn.iload dX11_fits_66 rfl ?_
          refine Rn.ishl dX11_fits_68 ?_
          refine Rn.ior dX11_fits_69 ?_
          refine Rn.topI (y := ftS (fun i => if i < nm then soB (TG M.1 pl n nw (fun k => M.1 (pl + 7 + k)) (pl + 25 + 3 * i) (mu i) (pl + 21) nv (M.1 75 4) 0 1 (M.1 90)) (zsc (M.1 75 15) (fun _ => 0)) (kbX M m) (M.1 129) (M.1 130) (M.1 131) (M.1 132) ng L else soB (TG M.1 pl n nw (fun k => M.1 (pl + 7 + k)) (pl + 18) nu (pl + 21) nv (M.1 75 4) 0 1 (M.1 90)) (zsc (M.1 75 15) (fun _ => 0)) (kbX M m) (M.1 129) (M.1 130) (M.1 131) (M.1 132) ng L) (1 + 1)) (e.symm) ?_
          refine Rn.istore_n (lv' := [some (.ref 0), some (.int (kbX M m)), some (.int (nI nm)), some (.int (ftS (fun i => if i < nm then soB (TG M.1 pl n nw (fun k => M.1 (pl + 7 + k)) (pl + 25 + 3 * i) (mu i) (pl + 21) nv (M.1 75 4) 0 1 (M.1 90)) (zsc (M.1 75 15) (fun _ => 0)) (kbX M m) (M.1 129) (M.1 130) (M.1 131) (M.1 132) ng L else soB (TG M.1 pl n nw (fun k => M.1 (pl + 7 + k)) (pl + 18) nu (pl + 21) nv (M.1 75 4) 0 1 (M.1 90)) (zsc (M.1 75 15) (fun _ => 0)) (kbX M m) (M.1 129) (M.1 130) (M.1 131) (M.1 132) ng L) (1 + 1))), some (.int 1)]) dX11_fits_70 (by decide) rfl ?_
          refine Rn.iincv (j' := 1) (lv' := [some (.ref 0), some (.int (kbX M m)), some (.int (nI nm)), some (.int (ftS (fun i => if i < nm then soB (TG M.1 pl n nw (fun k => M.1 (pl + 7 + k)) (pl + 25 + 3 * i) (mu i) (pl + 21) nv (M.1 75 4) 0 1 (M.1 90)) (zsc (M.1 75 15) (fun _ => 0)) (kbX M m) (M.1 129) (M.1 130) (M.1 131) (M.1 132) ng L else soB (TG M.1 pl n nw (fun k => M.1 (pl + 7 + k)) (pl + 18) nu (pl + 21) nv (M.1 75 4) 0 1 (M.1 90)) (zsc (M.1 75 15) (fun _ => 0)) (kbX M m) (M.1 129) (M.1 130) (M.1 131) (M.1 132) ng L) (1 + 1))), some (.int (1 + 1))]) dX11_fits_71 rfl rfl (by decide) rfl ?_
          refine Rn.goto dX11_fits_74 ?_
          show Rn G l mX11_fits (7, 0, 0, false) 23 [some (.ref 0), some (.int (kbX M m)), some (.int (nI nm)), some (.int (ftS (fun i => if i < nm then soB (TG M.1 pl n nw (fun k => M.1 (pl + 7 + k)) (pl + 25 + 3 * i) (mu i) (pl + 21) nv (M.1 75 4) 0 1 (M.1 90)) (zsc (M.1 75 15) (fun _ => 0)) (kbX M m) (M.1 129) (M.1 130) (M.1 131) (M.1 132) ng L else soB (TG M.1 pl n nw (fun k => M.1 (pl + 7 + k)) (pl + 18) nu (pl + 21) nv (M.1 75 4) 0 1 (M.1 90)) (zsc (M.1 75 15) (fun _ => 0)) (kbX M m) (M.1 129) (M.1 130) (M.1 131) (M.1 132) ng L) (1 + 1))), some (.int 2)] [] ly N14 Q
          exact F2 (by omega) N14 hq14
      · skip
        have hn1 : 1 < nm := Nat.lt_of_not_le (fun h => d1 (nI_le (a := nm) (b := 1) h (by decide)))
        refine Rn.aload_n dX11_fits_39 rfl ?_
        refine Rn.getR dX11_fits_40 fX11_43 rfl (xc0 hXN11) (show N11.2.2 0 6 = some 92 from (xp0_6 hXN11)) ?_
        refine Rn.aload_n dX11_fits_43 rfl ?_
        refine Rn.getR dX11_fits_44 fX11_27 rfl (xc0 hXN11) (show N11.2.2 0 3 = some pl from hplN11) ?_
        refine Rn.getR dX11_fits_47 fX11_378 rfl (pc0 hXN11 hp7) (show N11.2.2 pl 17 = some (pl + 24) from (pp0_17 hXN11 hp7)) ?_
        refine Rn.iload dX11_fits_50 rfl ?_
        refine Rn.aldq (a2 := pl + 28) dX11_fits_52 (pc24 hXN11 hp7) (by unfold vp_in; decide) (show N11.2.2 (pl + 24) 1 = some (pl + 28) from pp24_1 hXN11 hp7) ?_
        refine Rn.putR dX11_fits_53 fX11_382 rfl rfl (by decide +kernel) (xc92 hXN11) ?_
        have hT12m : Tr ly M (sR N11 92 (va_up (N11.2.2 92) 2 (some (pl + 28)))) pl n (pl + 7) nw (fun k => M.1 (pl + 7 + k)) (pl + 28) (mu 1) (pl + 21) nv (M.1 75 4) 0 1 (M.1 90) nf (M.1 88) (M.1 89) (zsc (M.1 75 15) (fun _ => 0)) := Tr.s_n (nu' := mu 1) (nv' := nv) (Tr.s_u hXS0.ok hT11 (pl + 28))
        revert hT12m
        generalize (sR N11 92 (va_up (N11.2.2 92) 2 (some (pl + 28)))) = N12
        intro hT12m
        have hT12 : Tr ly M N12 pl n (pl + 7) nw (fun k => M.1 (pl + 7 + k)) (pl + 28) (mu 1) (pl + 21) nv (M.1 75 4) 0 1 (M.1 90) nf (M.1 88) (M.1 89) (zsc (M.1 75 15) (fun _ => 0)) := hT12m
        have hXN12 := (hT12.1).xw hX
        have hplN12 : N12.2.2 0 3 = some pl := ((hT12.1).2.2 0 3 (by decide)).trans hpl
        have hnN12 : N12.1 pl 0 = nI n := (congrFun ((hT12.1).p0 hp7) 0).trans hn
        have hw1N12 : N12.1 (pl + 1) 0 = nI nw := (congrFun ((hT12.1).pk hp7 (k := 1) (by decide)) 0).trans hw1
        have hok1 : okT ly M pl n (pl + 7) nw (pl + 28) (mu 1) (pl + 21) nv := ⟨hX, hp7, ⟨hn, hn12⟩, Or.inl rfl, hw6, (by omega), hmu 1 (by omega), Or.inl rfl, ⟨hv1, hv2⟩, hgl⟩
        refine Rn.aload_n dX11_fits_56 rfl ?_
        refine Rn.iload_n dX11_fits_57 rfl ?_
        refine Rn.callV1 dX11_fits_58 vX11_375 (xc0 hXN12) (by decide) rfl (tX11_groansAreSo (Q := fun v0 ly0 M0 => v0 = some (.int (b01 (soB (TG M.1 pl n nw (fun k => M.1 (pl + 7 + k)) (pl + 25 + 3 * 1) (mu 1) (pl + 21) nv (M.1 75 4) 0 1 (M.1 90)) (zsc (M.1 75 15) (fun _ => 0)) (kbX M m) (M.1 129) (M.1 130) (M.1 131) (M.1 132) ng L))) ∧ ly0 = ly ∧ quX M M0) (L := L) hXS0 hg.1 hg.2.2.1 hg.2.2.2 hok1 hT12 (fun K h => ⟨rfl, rfl, h⟩)) (by decide) ⟨(Nat.le_of_ble_eq_true rfl), (Nat.le_of_ble_eq_true rfl), (Nat.le_of_ble_eq_true rfl)⟩ (fun h => by cases h) (fun v1 ly1 N14 ⟨q1, q2, hq14⟩ => ?_)
        rw [q1, q2]
        have hXN14 := (hq14).xw hX
        have hplN14 : N14.2.2 0 3 = some pl := ((hq14).2.2 0 3 (by decide)).trans hpl
        have hnN14 : N14.1 pl 0 = nI n := (congrFun ((hq14).p0 hp7) 0).trans hn
        have hw1N14 : N14.1 (pl + 1) 0 = nI nw := (congrFun ((hq14).pk hp7 (k := 1) (by decide)) 0).trans hw1
        refine Rn.if_eq dX11_fits_61 (fun hd => ?_) (fun hd => ?_)
        · skip
          have e : ftS (fun i => if i < nm then soB (TG M.1 pl n nw (fun k => M.1 (pl + 7 + k)) (pl + 25 + 3 * i) (mu i) (pl + 21) nv (M.1 75 4) 0 1 (M.1 90)) (zsc (M.1 75 15) (fun _ => 0)) (kbX M m) (M.1 129) (M.1 130) (M.1 131) (M.1 132) ng L else soB (TG M.1 pl n nw (fun k => M.1 (pl + 7 + k)) (pl + 18) nu (pl + 21) nv (M.1 75 4) 0 1 (M.1 90)) (zsc (M.1 75 15) (fun _ => 0)) (kbX M m) (M.1 129) (M.1 130) (M.1 131) (M.1 132) ng L) (1 + 1) = ftS (fun i => if i < nm then soB (TG M.1 pl n nw (fun k => M.1 (pl + 7 + k)) (pl + 25 + 3 * i) (mu i) (pl + 21) nv (M.1 75 4) 0 1 (M.1 90)) (zsc (M.1 75 15) (fun _ => 0)) (kbX M m) (M.1 129) (M.1 130) (M.1 131) (M.1 132) ng L else soB (TG M.1 pl n nw (fun k => M.1 (pl + 7 + k)) (pl + 18) nu (pl + 21) nv (M.1 75 4) 0 1 (M.1 90)) (zsc (M.1 75 15) (fun _ => 0)) (kbX M m) (M.1 129) (M.1 130) (M.1 131) (M.1 132) ng L) 1 := if_neg (fun h => b01_0 hd (by have h2 : (if 1 < nm then _ else _) = true := h; rw [if_pos hn1] at h2; exact h2))
          rw [← e]
          refine Rn.iincv (j' := 1) (lv' := [some (.ref 0), some (.int (kbX M m)), some (.int (nI nm)), some (.int (ftS (fun i => if i < nm then soB (TG M.1 pl n nw (fun k => M.1 (pl + 7 + k)) (pl + 25 + 3 * i) (mu i) (pl + 21) nv (M.1 75 4) 0 1 (M.1 90)) (zsc (M.1 75 15) (fun _ => 0)) (kbX M m) (M.1 129) (M.1 130) (M.1 131) (M.1 132) ng L else soB (TG M.1 pl n nw (fun k => M.1 (pl + 7 + k)) (pl + 18) nu (pl + 21) nv (M.1 75 4) 0 1 (M.1 90)) (zsc (M.1 75 15) (fun _ => 0)) (kbX M m) (M.1 129) (M.1 130) (M.1 131) (M.1 132) ng L) (1 + 1))), some (.int (1 + 1))]) dX11_fits_71 rfl rfl (by decide) rfl ?_
          refine Rn.goto dX11_fits_74 ?_
          show Rn G l mX11_fits (7, 0, 0, false) 23 [some (.ref 0), some (.int (kbX M m)), some (.int (nI nm)), some (.int (ftS (fun i => if i < nm then soB (TG M.1 pl n nw (fun k => M.1 (pl + 7 + k)) (pl + 25 + 3 * i) (mu i) (pl + 21) nv (M.1 75 4) 0 1 (M.1 90)) (zsc (M.1 75 15) (fun _ => 0)) (kbX M m) (M.1 129) (M.1 130) (M.1 131) (M.1 132) ng L else soB (TG M.1 pl n nw (fun k => M.1 (pl + 7 + k)) (pl + 18) nu (pl + 21) nv (M.1 75 4) 0 1 (M.1 90)) (zsc (M.1 75 15) (fun _ => 0)) (kbX M m) (M.1 129) (M.1 130) (M.1 131) (M.1 132) ng L) (1 + 1))), some (.int 2)] [] ly N14 Q
          exact F2 (by omega) N14 hq14
        · skip
          have e : ftS (fun i => if i < nm then soB (TG M.1 pl n nw (fun k => M.1 (pl + 7 + k)) (pl + 25 + 3 * i) (mu i) (pl + 21) nv (M.1 75 4) 0 1 (M.1 90)) (zsc (M.1 75 15) (fun _ => 0)) (kbX M m) (M.1 129) (M.1 130) (M.1 131) (M.1 132) ng L else soB (TG M.1 pl n nw (fun k => M.1 (pl + 7 + k)) (pl + 18) nu (pl + 21) nv (M.1 75 4) 0 1 (M.1 90)) (zsc (M.1 75 15) (fun _ => 0)) (kbX M m) (M.1 129) (M.1 130) (M.1 131) (M.1 132) ng L) (1 + 1) = ftS (fun i => if i < nm then soB (TG M.1 pl n nw (fun k => M.1 (pl + 7 + k)) (pl + 25 + 3 * i) (mu i) (pl + 21) nv (M.1 75 4) 0 1 (M.1 90)) (zsc (M.1 75 15) (fun _ => 0)) (kbX M m) (M.1 129) (M.1 130) (M.1 131) (M.1 132) ng L else soB (TG M.1 pl n nw (fun k => M.1 (pl + 7 + k)) (pl + 18) nu (pl + 21) nv (M.1 75 4) 0 1 (M.1 90)) (zsc (M.1 75 15) (fun _ => 0)) (kbX M m) (M.1 129) (M.1 130) (M.1 131) (M.1 132) ng L) 1 ||| ((1 : Int32) <<< (nI 1 &&& 31)) := if_pos (show (if 1 < nm then _ else _) = true by rw [if_pos hn1]; exact b01_n hd)
          refine Rn.iload_n dX11_fits_64 rfl ?_
          refine Rn.iconstv (v := 1) dX11_fits_65 ic_1 ?_
          refine Rn.iload dX11_fits_66 rfl ?_
          refine Rn.ishl dX11_fits_68 ?_
          refine Rn.ior dX11_fits_69 ?_
          refine Rn.topI (y := ftS (fun i => if i < nm then soB (TG M.1 pl n nw (fun k => M.1 (pl + 7 + k)) (pl + 25 + 3 * i) (mu i) (pl + 21) nv (M.1 75 4) 0 1 (M.1 90)) (zsc (M.1 75 15) (fun _ => 0)) (kbX M m) (M.1 129) (M.1 130) (M.1 131) (M.1 132) ng L else soB (TG M.1 pl n nw (fun k => M.1 (pl + 7 + k)) (pl + 18) nu (pl + 21) nv (M.1 75 4) 0 1 (M.1 90)) (zsc (M.1 75 15) (fun _ => 0)) (kbX M m) (M.1 129) (M.1 130) (M.1 131) (M.1 132) ng L) (1 + 1)) (e.symm) ?_
          refine Rn.istore_n (lv' := [some (.ref 0), some (.int (kbX M m)), some (.int (nI nm)), some (.int (ftS (fun i => if i < nm then soB (TG M.1 pl n nw (fun k => M.1 (pl + 7 + k)) (pl + 25 + 3 * i) (mu i) (pl + 21) nv (M.1 75 4) 0 1 (M.1 90)) (zsc (M.1 75 15) (fun _ => 0)) (kbX M m) (M.1 129) (M.1 130) (M.1 131) (M.1 132) ng L else soB (TG M.1 pl n nw (fun k => M.1 (pl + 7 + k)) (pl + 18) nu (pl + 21) nv (M.1 75 4) 0 1 (M.1 90)) (zsc (M.1 75 15) (fun _ => 0)) (kbX M m) (M.1 129) (M.1 130) (M.1 131) (M.1 132) ng L) (1 + 1))), some (.int 1)]) dX11_fits_70 (by decide) rfl ?_
          refine Rn.iincv (j' := 1) (lv' := [some (.ref 0), some (.int (kbX M m)), some (.int (nI nm)), some (.int (ftS (fun i => if i < nm then soB (TG M.1 pl n nw (fun k => M.1 (pl + 7 + k)) (pl + 25 + 3 * i) (mu i) (pl + 21) nv (M.1 75 4) 0 1 (M.1 90)) (zsc (M.1 75 15) (fun _ => 0)) (kbX M m) (M.1 129) (M.1 130) (M.1 131) (M.1 132) ng L else soB (TG M.1 pl n nw (fun k => M.1 (pl + 7 + k)) (pl + 18) nu (pl + 21) nv (M.1 75 4) 0 1 (M.1 90)) (zsc (M.1 75 15) (fun _ => 0)) (kbX M m) (M.1 129) (M.1 130) (M.1 131) (M.1 132) ng L) (1 + 1))), some (.int (1 + 1))]) dX11_fits_71 rfl rfl (by decide) rfl ?_
          refine Rn.goto dX11_fits_74 ?_
          show Rn G l mX11_fits (7, 0, 0, false) 23 [some (.ref 0), some (.int (kbX M m)), some (.int (nI nm)), some (.int (ftS (fun i => if i < nm then soB (TG M.1 pl n nw (fun k => M.1 (pl + 7 + k)) (pl + 25 + 3 * i) (mu i) (pl + 21) nv (M.1 75 4) 0 1 (M.1 90)) (zsc (M.1 75 15) (fun _ => 0)) (kbX M m) (M.1 129) (M.1 130) (M.1 131) (M.1 132) ng L else soB (TG M.1 pl n nw (fun k => M.1 (pl + 7 + k)) (pl + 18) nu (pl + 21) nv (M.1 75 4) 0 1 (M.1 90)) (zsc (M.1 75 15) (fun _ => 0)) (kbX M m) (M.1 129) (M.1 130) (M.1 131) (M.1 132) ng L) (1 + 1))), some (.int 2)] [] ly N14 Q
          exact F2 (by omega) N14 hq14
  have F0 : 0 ≤ nm + 1 → ∀ N0 : Mm, quX M N0 → Rn G l mX11_fits (7, 0, 0, false) 23 [some (.ref 0), some (.int (kbX M m)), some (.int (nI nm)), some (.int (ftS (fun i => if i < nm then soB (TG M.1 pl n nw (fun k => M.1 (pl + 7 + k)) (pl + 25 + 3 * i) (mu i) (pl + 21) nv (M.1 75 4) 0 1 (M.1 90)) (zsc (M.1 75 15) (fun _ => 0)) (kbX M m) (M.1 129) (M.1 130) (M.1 131) (M.1 132) ng L else soB (TG M.1 pl n nw (fun k => M.1 (pl + 7 + k)) (pl + 18) nu (pl + 21) nv (M.1 75 4) 0 1 (M.1 90)) (zsc (M.1 75 15) (fun _ => 0)) (kbX M m) (M.1 129) (M.1 130) (M.1 131) (M.1 132) ng L) 0)), some (.int 0)] [] ly N0 Q := by
    intro hle N0 hq0
    have hXN0 := (hq0).xw hX
    have hplN0 : N0.2.2 0 3 = some pl := ((hq0).2.2 0 3 (by decide)).trans hpl
    have hnN0 : N0.1 pl 0 = nI n := (congrFun ((hq0).p0 hp7) 0).trans hn
    have hw1N0 : N0.1 (pl + 1) 0 = nI nw := (congrFun ((hq0).pk hp7 (k := 1) (by decide)) 0).trans hw1
    refine Rn.iload dX11_fits_23 rfl ?_
    refine Rn.iload_n dX11_fits_25 rfl ?_
    refine Rn.icmp_gt dX11_fits_26 (fun c0 => ?_) (fun c0 => ?_)
    · skip
      exact absurd c0 (nI_pos (by omega))
    · skip
      have h0 : 0 ≤ nm := by have := mt (nI_lt (a := nm) (b := 0) · (by decide)) c0; omega
      refine Rn.aload_n dX11_fits_29 rfl ?_
      refine Rn.callV0 dX11_fits_30 vX11_328 (xc0 hXN0) (by decide) rfl (trRest (Q := fun v0 ly0 M0 => v0 = none ∧ ly0 = ly ∧ Tr ly M M0 pl n (pl + 7) nw (fun k => M.1 (pl + 7 + k)) (pl + 18) nu (pl + 21) nv (M.1 75 4) 0 1 (M.1 90) nf (M.1 88) (M.1 89) (zsc (M.1 75 15) (fun _ => 0)) ∧ quT N0 M0) hXS0 hF.1 hq0 (fun K h u => ⟨rfl, rfl, h, u⟩)) (by decide) ⟨(Nat.le_of_ble_eq_true rfl), (Nat.le_of_ble_eq_true rfl), (Nat.le_of_ble_eq_true rfl)⟩ (fun h => by cases h) (fun v1 ly1 N1 ⟨q1, q2, hT1, hU1⟩ => ?_)
      rw [q1, q2]
      have hXN1 := (hT1.1).xw hX
      have hplN1 : N1.2.2 0 3 = some pl := ((hT1.1).2.2 0 3 (by decide)).trans hpl
      have hnN1 : N1.1 pl 0 = nI n := (congrFun ((hT1.1).p0 hp7) 0).trans hn
      have hw1N1 : N1.1 (pl + 1) 0 = nI nw := (congrFun ((hT1.1).pk hp7 (k := 1) (by decide)) 0).trans hw1
      refine Rn.iload dX11_fits_33 rfl ?_
      refine Rn.iload_n dX11_fits_35 rfl ?_
      refine Rn.icmp_ge dX11_fits_36 (fun d0 => ?_) (fun d0 => ?_)
      · skip
        have hn0 : ¬ 0 < nm := fun h => nI_ge (a := 0) (b := nm) h (by omega) d0
        refine Rn.aload_n dX11_fits_56 rfl ?_
        refine Rn.iload_n dX11_fits_57 rfl ?_
        refine Rn.callV1 dX11_fits_58 vX11_375 (xc0 hXN1) (by decide) rfl (tX11_groansAreSo (Q := fun v0 ly0 M0 => v0 = some (.int (b01 (soB (TG M.1 pl n nw (fun k => M.1 (pl + 7 + k)) (pl + 18) nu (pl + 21) nv (M.1 75 4) 0 1 (M.1 90)) (zsc (M.1 75 15) (fun _ => 0)) (kbX M m) (M.1 129) (M.1 130) (M.1 131) (M.1 132) ng L))) ∧ ly0 = ly ∧ quX M M0) (L := L) hXS0 hg.1 hg.2.2.1 hg.2.2.2 hXS0.ok hT1 (fun K h => ⟨rfl, rfl, h⟩)) (by decide) ⟨(Nat.le_of_ble_eq_true rfl), (Nat.le_of_ble_eq_true rfl), (Nat.le_of_ble_eq_true rfl)⟩ (fun h => by cases h) (fun v1 ly1 N4 ⟨q1, q2, hq4⟩ => ?_)
        rw [q1, q2]
        have hXN4 := (hq4).xw hX
        have hplN4 : N4.2.2 0 3 = some pl := ((hq4).2.2 0 3 (by decide)).trans hpl
        have hnN4 : N4.1 pl 0 = nI n := (congrFun ((hq4).p0 hp7) 0).trans hn
        have hw1N4 : N4.1 (pl + 1) 0 = nI nw := (congrFun ((hq4).pk hp7 (k := 1) (by decide)) 0).trans hw1
        refine Rn.if_eq dX11_fits_61 (fun hd => ?_) (fun hd => ?_)
        · skip
          have e : ftS (fun i => if i < nm then soB (TG M.1 pl n nw (fun k => M.1 (pl + 7 + k)) (pl + 25 + 3 * i) (mu i) (pl + 21) nv (M.1 75 4) 0 1 (M.1 90)) (zsc (M.1 75 15) (fun _ => 0)) (kbX M m) (M.1 129) (M.1 130) (M.1 131) (M.1 132) ng L else soB (TG M.1 pl n nw (fun k => M.1 (pl + 7 + k)) (pl + 18) nu (pl + 21) nv (M.1 75 4) 0 1 (M.1 90)) (zsc (M.1 75 15) (fun _ => 0)) (kbX M m) (M.1 129) (M.1 130) (M.1 131) (M.1 132) ng L) (0 + 1) = ftS (fun i => if i < nm then soB (TG M.1 pl n nw (fun k => M.1 (pl + 7 + k)) (pl + 25 + 3 * i) (mu i) (pl + 21) nv (M.1 75 4) 0 1 (M.1 90)) (zsc (M.1 75 15) (fun _ => 0)) (kbX M m) (M.1 129) (M.1 130) (M.1 131) (M.1 132) ng L else soB (TG M.1 pl n nw (fun k => M.1 (pl + 7 + k)) (pl + 18) nu (pl + 21) nv (M.1 75 4) 0 1 (M.1 90)) (zsc (M.1 75 15) (fun _ => 0)) (kbX M m) (M.1 129) (M.1 130) (M.1 131) (M.1 132) ng L) 0 := if_neg (fun h => b01_0 hd (by have h2 : (if 0 < nm then _ else _) = true := h; rw [if_neg hn0] at h2; exact h2))
          rw [← e]
          refine Rn.iincv (j' := 1) (lv' := [some (.ref 0), some (.int (kbX M m)), some (.int (nI nm)), some (.int (ftS (fun i => if i < nm then soB (TG M.1 pl n nw (fun k => M.1 (pl + 7 + k)) (pl + 25 + 3 * i) (mu i) (pl + 21) nv (M.1 75 4) 0 1 (M.1 90)) (zsc (M.1 75 15) (fun _ => 0)) (kbX M m) (M.1 129) (M.1 130) (M.1 131) (M.1 132) ng L else soB (TG M.1 pl n nw (fun k => M.1 (pl + 7 + k)) (pl + 18) nu (pl + 21) nv (M.1 75 4) 0 1 (M.1 90)) (zsc (M.1 75 15) (fun _ => 0)) (kbX M m) (M.1 129) (M.1 130) (M.1 131) (M.1 132) ng L) (0 + 1))), some (.int (0 + 1))]) dX11_fits_71 rfl rfl (by decide) rfl ?_
          refine Rn.goto dX11_fits_74 ?_
          show Rn G l mX11_fits (7, 0, 0, false) 23 [some (.ref 0), some (.int (kbX M m)), some (.int (nI nm)), some (.int (ftS (fun i => if i < nm then soB (TG M.1 pl n nw (fun k => M.1 (pl + 7 + k)) (pl + 25 + 3 * i) (mu i) (pl + 21) nv (M.1 75 4) 0 1 (M.1 90)) (zsc (M.1 75 15) (fun _ => 0)) (kbX M m) (M.1 129) (M.1 130) (M.1 131) (M.1 132) ng L else soB (TG M.1 pl n nw (fun k => M.1 (pl + 7 + k)) (pl + 18) nu (pl + 21) nv (M.1 75 4) 0 1 (M.1 90)) (zsc (M.1 75 15) (fun _ => 0)) (kbX M m) (M.1 129) (M.1 130) (M.1 131) (M.1 132) ng L) (0 + 1))), some (.int 1)] [] ly N4 Q
          exact F1 (by omega) N4 hq4
        · skip
          have e : ftS (fun i => if i < nm then soB (TG M.1 pl n nw (fun k => M.1 (pl + 7 + k)) (pl + 25 + 3 * i) (mu i) (pl + 21) nv (M.1 75 4) 0 1 (M.1 90)) (zsc (M.1 75 15) (fun _ => 0)) (kbX M m) (M.1 129) (M.1 130) (M.1 131) (M.1 132) ng L else soB (TG M.1 pl n nw (fun k => M.1 (pl + 7 + k)) (pl + 18) nu (pl + 21) nv (M.1 75 4) 0 1 (M.1 90)) (zsc (M.1 75 15) (fun _ => 0)) (kbX M m) (M.1 129) (M.1 130) (M.1 131) (M.1 132) ng L) (0 + 1) = ftS (fun i => if i < nm then soB (TG M.1 pl n nw (fun k => M.1 (pl + 7 + k)) (pl + 25 + 3 * i) (mu i) (pl + 21) nv (M.1 75 4) 0 1 (M.1 90)) (zsc (M.1 75 15) (fun _ => 0)) (kbX M m) (M.1 129) (M.1 130) (M.1 131) (M.1 132) ng L else soB (TG M.1 pl n nw (fun k => M.1 (pl + 7 + k)) (pl + 18) nu (pl + 21) nv (M.1 75 4) 0 1 (M.1 90)) (zsc (M.1 75 15) (fun _ => 0)) (kbX M m) (M.1 129) (M.1 130) (M.1 131) (M.1 132) ng L) 0 ||| ((1 : Int32) <<< (nI 0 &&& 31)) := if_pos (show (if 0 < nm then _ else _) = true by rw [if_neg hn0]; exact b01_n hd)
          refine Rn.iload_n dX11_fits_64 rfl ?_
          refine Rn.iconstv (v := 1) dX11_fits_65 ic_1 ?_
          refine Rn.iload dX11_fits_66 rfl ?_
          refine Rn.ishl dX11_fits_68 ?_
          refine Rn.ior dX11_fits_69 ?_
          refine Rn.topI (y := ftS (fun i => if i < nm then soB (TG M.1 pl n nw (fun k => M.1 (pl + 7 + k)) (pl + 25 + 3 * i) (mu i) (pl + 21) nv (M.1 75 4) 0 1 (M.1 90)) (zsc (M.1 75 15) (fun _ => 0)) (kbX M m) (M.1 129) (M.1 130) (M.1 131) (M.1 132) ng L else soB (TG M.1 pl n nw (fun k => M.1 (pl + 7 + k)) (pl + 18) nu (pl + 21) nv (M.1 75 4) 0 1 (M.1 90)) (zsc (M.1 75 15) (fun _ => 0)) (kbX M m) (M.1 129) (M.1 130) (M.1 131) (M.1 132) ng L) (0 + 1)) (e.symm) ?_
          refine Rn.istore_n (lv' := [some (.ref 0), some (.int (kbX M m)), some (.int (nI nm)), some (.int (ftS (fun i => if i < nm then soB (TG M.1 pl n nw (fun k => M.1 (pl + 7 + k)) (pl + 25 + 3 * i) (mu i) (pl + 21) nv (M.1 75 4) 0 1 (M.1 90)) (zsc (M.1 75 15) (fun _ => 0)) (kbX M m) (M.1 129) (M.1 130) (M.1 131) (M.1 132) ng L else soB (TG M.1 pl n nw (fun k => M.1 (pl + 7 + k)) (pl + 18) nu (pl + 21) nv (M.1 75 4) 0 1 (M.1 90)) (zsc (M.1 75 15) (fun _ => 0)) (kbX M m) (M.1 129) (M.1 130) (M.1 131) (M.1 132) ng L) (0 + 1))), some (.int 0)]) dX11_fits_70 (by decide) rfl ?_
          refine Rn.iincv (j' := 1) (lv' := [some (.ref 0), some (.int (kbX M m)), some (.int (nI nm)), some (.int (ftS (fun i => if i < nm then soB (TG M.1 pl n nw (fun k => M.1 (pl + 7 + k)) (pl + 25 + 3 * i) (mu i) (pl + 21) nv (M.1 75 4) 0 1 (M.1 90)) (zsc (M.1 75 15) (fun _ => 0)) (kbX M m) (M.1 129) (M.1 130) (M.1 131) (M.1 132) ng L else soB (TG M.1 pl n nw (fun k => M.1 (pl + 7 + k)) (pl + 18) nu (pl + 21) nv (M.1 75 4) 0 1 (M.1 90)) (zsc (M.1 75 15) (fun _ => 0)) (kbX M m) (M.1 129) (M.1 130) (M.1 131) (M.1 132) ng L) (0 + 1))), some (.int (0 + 1))]) dX11_fits_71 rfl rfl (by decide) rfl ?_
          refine Rn.goto dX11_fits_74 ?_
          show Rn G l mX11_fits (7, 0, 0, false) 23 [some (.ref 0), some (.int (kbX M m)), some (.int (nI nm)), some (.int (ftS (fun i => if i < nm then soB (TG M.1 pl n nw (fun k => M.1 (pl + 7 + k)) (pl + 25 + 3 * i) (mu i) (pl + 21) nv (M.1 75 4) 0 1 (M.1 90)) (zsc (M.1 75 15) (fun _ => 0)) (kbX M m) (M.1 129) (M.1 130) (M.1 131) (M.1 132) ng L else soB (TG M.1 pl n nw (fun k => M.1 (pl + 7 + k)) (pl + 18) nu (pl + 21) nv (M.1 75 4) 0 1 (M.1 90)) (zsc (M.1 75 15) (fun _ => 0)) (kbX M m) (M.1 129) (M.1 130) (M.1 131) (M.1 132) ng L) (0 + 1))), some (.int 1)] [] ly N4 Q
          exact F1 (by omega) N4 hq4
      · skip
        have hn0 : 0 < nm := Nat.lt_of_not_le (fun h => d0 (nI_le (a := nm) (b := 0) h (by decide)))
        refine Rn.aload_n dX11_fits_39 rfl ?_
        refine Rn.getR dX11_fits_40 fX11_43 rfl (xc0 hXN1) (show N1.2.2 0 6 = some 92 from (xp0_6 hXN1)) ?_
        refine Rn.aload_n dX11_fits_43 rfl ?_
        refine Rn.getR dX11_fits_44 fX11_27 rfl (xc0 hXN1) (show N1.2.2 0 3 = some pl from hplN1) ?_
        refine Rn.getR dX11_fits_47 fX11_378 rfl (pc0 hXN1 hp7) (show N1.2.2 pl 17 = some (pl + 24) from (pp0_17 hXN1 hp7)) ?_
        refine Rn.iload dX11_fits_50 rfl ?_
        refine Rn.aldq (a2 := pl + 25) dX11_fits_52 (pc24 hXN1 hp7) (by unfold vp_in; decide) (show N1.2.2 (pl + 24) 0 = some (pl + 25) from pp24_0 hXN1 hp7) ?_
        refine Rn.putR dX11_fits_53 fX11_382 rfl rfl (by decide +kernel) (xc92 hXN1) ?_
        have hT2m : Tr ly M (sR N1 92 (va_up (N1.2.2 92) 2 (some (pl + 25)))) pl n (pl + 7) nw (fun k => M.1 (pl + 7 + k)) (pl + 25) (mu 0) (pl + 21) nv (M.1 75 4) 0 1 (M.1 90) nf (M.1 88) (M.1 89) (zsc (M.1 75 15) (fun _ => 0)) := Tr.s_n (nu' := mu 0) (nv' := nv) (Tr.s_u hXS0.ok hT1 (pl + 25))
        revert hT2m
        generalize (sR N1 92 (va_up (N1.2.2 92) 2 (some (pl + 25)))) = N2
        intro hT2m
        have hT2 : Tr ly M N2 pl n (pl + 7) nw (fun k => M.1 (pl + 7 + k)) (pl + 25) (mu 0) (pl + 21) nv (M.1 75 4) 0 1 (M.1 90) nf (M.1 88) (M.1 89) (zsc (M.1 75 15) (fun _ => 0)) := hT2m
        have hXN2 := (hT2.1).xw hX
        have hplN2 : N2.2.2 0 3 = some pl := ((hT2.1).2.2 0 3 (by decide)).trans hpl
        have hnN2 : N2.1 pl 0 = nI n := (congrFun ((hT2.1).p0 hp7) 0).trans hn
        have hw1N2 : N2.1 (pl + 1) 0 = nI nw := (congrFun ((hT2.1).pk hp7 (k := 1) (by decide)) 0).trans hw1
        have hok0 : okT ly M pl n (pl + 7) nw (pl + 25) (mu 0) (pl + 21) nv := ⟨hX, hp7, ⟨hn, hn12⟩, Or.inl rfl, hw6, (by omega), hmu 0 (by omega), Or.inl rfl, ⟨hv1, hv2⟩, hgl⟩
        refine Rn.aload_n dX11_fits_56 rfl ?_
        refine Rn.iload_n dX11_fits_57 rfl ?_
        refine Rn.callV1 dX11_fits_58 vX11_375 (xc0 hXN2) (by decide) rfl (tX11_groansAreSo (Q := fun v0 ly0 M0 => v0 = some (.int (b01 (soB (TG M.1 pl n nw (fun k => M.1 (pl + 7 + k)) (pl + 25 + 3 * 0) (mu 0) (pl + 21) nv (M.1 75 4) 0 1 (M.1 90)) (zsc (M.1 75 15) (fun _ => 0)) (kbX M m) (M.1 129) (M.1 130) (M.1 131) (M.1 132) ng L))) ∧ ly0 = ly ∧ quX M M0) (L := L) hXS0 hg.1 hg.2.2.1 hg.2.2.2 hok0 hT2 (fun K h => ⟨rfl, rfl, h⟩)) (by decide) ⟨(Nat.le_of_ble_eq_true rfl), (Nat.le_of_ble_eq_true rfl), (Nat.le_of_ble_eq_true rfl)⟩ (fun h => by cases h) (fun v1 ly1 N4 ⟨q1, q2, hq4⟩ => ?_)
        rw [q1, q2]
        have hXN4 := (hq4).xw hX
        have hplN4 : N4.2.2 0 3 = some pl := ((hq4).2.2 0 3 (by decide)).trans hpl
        have hnN4 : N4.1 pl 0 = nI n := (congrFun ((hq4).p0 hp7) 0).trans hn
        have hw1N4 : N4.1 (pl + 1) 0 = nI nw := (congrFun ((hq4).pk hp7 (k := 1) (by decide)) 0).trans hw1
        refine Rn.if_eq dX11_fits_61 (fun hd => ?_) (fun hd => ?_)
        · skip
          have e : ftS (fun i => if i < nm then soB (TG M.1 pl n nw (fun k => M.1 (pl + 7 + k)) (pl + 25 + 3 * i) (mu i) (pl + 21) nv (M.1 75 4) 0 1 (M.1 90)) (zsc (M.1 75 15) (fun _ => 0)) (kbX M m) (M.1 129) (M.1 130) (M.1 131) (M.1 132) ng L else soB (TG M.1 pl n nw (fun k => M.1 (pl + 7 + k)) (pl + 18) nu (pl + 21) nv (M.1 75 4) 0 1 (M.1 90)) (zsc (M.1 75 15) (fun _ => 0)) (kbX M m) (M.1 129) (M.1 130) (M.1 131) (M.1 132) ng L) (0 + 1) = ftS (fun i => if i < nm then soB (TG M.1 pl n nw (fun k => M.1 (pl + 7 + k)) (pl + 25 + 3 * i) (mu i) (pl + 21) nv (M.1 75 4) 0 1 (M.1 90)) (zsc (M.1 75 15) (fun _ => 0)) (kbX M m) (M.1 129) (M.1 130) (M.1 131) (M.1 132) ng L else soB (TG M.1 pl n nw (fun k => M.1 (pl + 7 + k)) (pl + 18) nu (pl + 21) nv (M.1 75 4) 0 1 (M.1 90)) (zsc (M.1 75 15) (fun _ => 0)) (kbX M m) (M.1 129) (M.1 130) (M.1 131) (M.1 132) ng L) 0 := if_neg (fun h => b01_0 hd (by have h2 : (if 0 < nm then _ else _) = true := h; rw [if_pos hn0] at h2; exact h2))
          rw [← e]
          refine Rn.iincv (j' := 1) (lv' := [some (.ref 0), some (.int (kbX M m)), some (.int (nI nm)), some (.int (ftS (fun i => if i < nm then soB (TG M.1 pl n nw (fun k => M.1 (pl + 7 + k)) (pl + 25 + 3 * i) (mu i) (pl + 21) nv (M.1 75 4) 0 1 (M.1 90)) (zsc (M.1 75 15) (fun _ => 0)) (kbX M m) (M.1 129) (M.1 130) (M.1 131) (M.1 132) ng L else soB (TG M.1 pl n nw (fun k => M.1 (pl + 7 + k)) (pl + 18) nu (pl + 21) nv (M.1 75 4) 0 1 (M.1 90)) (zsc (M.1 75 15) (fun _ => 0)) (kbX M m) (M.1 129) (M.1 130) (M.1 131) (M.1 132) ng L) (0 + 1))), some (.int (0 + 1))]) dX11_fits_71 rfl rfl (by decide) rfl ?_
          refine Rn.goto dX11_fits_74 ?_
          show Rn G l mX11_fits (7, 0, 0, false) 23 [some (.ref 0), some (.int (kbX M m)), some (.int (nI nm)), some (.int (ftS (fun i => if i < nm then soB (TG M.1 pl n nw (fun k => M.1 (pl + 7 + k)) (pl + 25 + 3 * i) (mu i) (pl + 21) nv (M.1 75 4) 0 1 (M.1 90)) (zsc (M.1 75 15) (fun _ => 0)) (kbX M m) (M.1 129) (M.1 130) (M.1 131) (M.1 132) ng L else soB (TG M.1 pl n nw (fun k => M.1 (pl + 7 + k)) (pl + 18) nu (pl + 21) nv (M.1 75 4) 0 1 (M.1 90)) (zsc (M.1 75 15) (fun _ => 0)) (kbX M m) (M.1 129) (M.1 130) (M.1 131) (M.1 132) ng L) (0 + 1))), some (.int 1)] [] ly N4 Q
          exact F1 (by omega) N4 hq4
        · skip
          have e : ftS (fun i => if i < nm then soB (TG M.1 pl n nw (fun k => M.1 (pl + 7 + k)) (pl + 25 + 3 * i) (mu i) (pl + 21) nv (M.1 75 4) 0 1 (M.1 90)) (zsc (M.1 75 15) (fun _ => 0)) (kbX M m) (M.1 129) (M.1 130) (M.1 131) (M.1 132) ng L else soB (TG M.1 pl n nw (fun k => M.1 (pl + 7 + k)) (pl + 18) nu (pl + 21) nv (M.1 75 4) 0 1 (M.1 90)) (zsc (M.1 75 15) (fun _ => 0)) (kbX M m) (M.1 129) (M.1 130) (M.1 131) (M.1 132) ng L) (0 + 1) = ftS (fun i => if i < nm then soB (TG M.1 pl n nw (fun k => M.1 (pl + 7 + k)) (pl + 25 + 3 * i) (mu i) (pl + 21) nv (M.1 75 4) 0 1 (M.1 90)) (zsc (M.1 75 15) (fun _ => 0)) (kbX M m) (M.1 129) (M.1 130) (M.1 131) (M.1 132) ng L else soB (TG M.1 pl n nw (fun k => M.1 (pl + 7 + k)) (pl + 18) nu (pl + 21) nv (M.1 75 4) 0 1 (M.1 90)) (zsc (M.1 75 15) (fun _ => 0)) (kbX M m) (M.1 129) (M.1 130) (M.1 131) (M.1 132) ng L) 0 ||| ((1 : Int32) <<< (nI 0 &&& 31)) := if_pos (show (if 0 < nm then _ else _) = true by rw [if_pos hn0]; exact b01_n hd)
          refine Rn.iload_n dX11_fits_64 rfl ?_
          refine Rn.iconstv (v := 1) dX11_fits_65 ic_1 ?_
          refine Rn.iload dX11_fits_66 rfl ?_
          refine Rn.ishl dX11_fits_68 ?_
          refine Rn.ior dX11_fits_69 ?_
          refine Rn.topI (y := ftS (fun i => if i < nm then soB (TG M.1 pl n nw (fun k => M.1 (pl + 7 + k)) (pl + 25 + 3 * i) (mu i) (pl + 21) nv (M.1 75 4) 0 1 (M.1 90)) (zsc (M.1 75 15) (fun _ => 0)) (kbX M m) (M.1 129) (M.1 130) (M.1 131) (M.1 132) ng L else soB (TG M.1 pl n nw (fun k => M.1 (pl + 7 + k)) (pl + 18) nu (pl + 21) nv (M.1 75 4) 0 1 (M.1 90)) (zsc (M.1 75 15) (fun _ => 0)) (kbX M m) (M.1 129) (M.1 130) (M.1 131) (M.1 132) ng L) (0 + 1)) (e.symm) ?_
          refine Rn.istore_n (lv' := [some (.ref 0), some (.int (kbX M m)), some (.int (nI nm)), some (.int (ftS (fun i => if i < nm then soB (TG M.1 pl n nw (fun k => M.1 (pl + 7 + k)) (pl + 25 + 3 * i) (mu i) (pl + 21) nv (M.1 75 4) 0 1 (M.1 90)) (zsc (M.1 75 15) (fun _ => 0)) (kbX M m) (M.1 129) (M.1 130) (M.1 131) (M.1 132) ng L else soB (TG M.1 pl n nw (fun k => M.1 (pl + 7 + k)) (pl + 18) nu (pl + 21) nv (M.1 75 4) 0 1 (M.1 90)) (zsc (M.1 75 15) (fun _ => 0)) (kbX M m) (M.1 129) (M.1 130) (M.1 131) (M.1 132) ng L) (0 + 1))), some (.int 0)]) dX11_fits_70 (by decide) rfl ?_
          refine Rn.iincv (j' := 1) (lv' := [some (.ref 0), some (.int (kbX M m)), some (.int (nI nm)), some (.int (ftS (fun i => if i < nm then soB (TG M.1 pl n nw (fun k => M.1 (pl + 7 + k)) (pl + 25 + 3 * i) (mu i) (pl + 21) nv (M.1 75 4) 0 1 (M.1 90)) (zsc (M.1 75 15) (fun _ => 0)) (kbX M m) (M.1 129) (M.1 130) (M.1 131) (M.1 132) ng L else soB (TG M.1 pl n nw (fun k => M.1 (pl + 7 + k)) (pl + 18) nu (pl + 21) nv (M.1 75 4) 0 1 (M.1 90)) (zsc (M.1 75 15) (fun _ => 0)) (kbX M m) (M.1 129) (M.1 130) (M.1 131) (M.1 132) ng L) (0 + 1))), some (.int (0 + 1))]) dX11_fits_71 rfl rfl (by decide) rfl ?_
          refine Rn.goto dX11_fits_74 ?_
          show Rn G l mX11_fits (7, 0, 0, false) 23 [some (.ref 0), some (.int (kbX M m)), some (.int (nI nm)), some (.int (ftS (fun i => if i < nm then soB (TG M.1 pl n nw (fun k => M.1 (pl + 7 + k)) (pl + 25 + 3 * i) (mu i) (pl + 21) nv (M.1 75 4) 0 1 (M.1 90)) (zsc (M.1 75 15) (fun _ => 0)) (kbX M m) (M.1 129) (M.1 130) (M.1 131) (M.1 132) ng L else soB (TG M.1 pl n nw (fun k => M.1 (pl + 7 + k)) (pl + 18) nu (pl + 21) nv (M.1 75 4) 0 1 (M.1 90)) (zsc (M.1 75 15) (fun _ => 0)) (kbX M m) (M.1 129) (M.1 130) (M.1 131) (M.1 132) ng L) (0 + 1))), some (.int 1)] [] ly N4 Q
          exact F1 (by omega) N4 hq4
  exact F0 (by omega) M quX.rf
theorem tX11_groan {G : Gx} {l : Launch} {ly : Ly} {M : Mm} {pl n nw nu nv : Nat} {ng : Nat} {x y z v : Int32} (hv01 : v = 0 ∨ v = 1) (hG : M.1 128 0 = nI ng ∧ ng ≤ 24) (hXS : XS ly M pl n nw nu nv) {Q : Qt} (hQ : (¬ ((0 ≤ x ∧ x ≤ 63) ∧ (∃ j : Nat, j < n ∧ y = nI j) ∧ (0 ≤ z ∧ z ≤ 99999)) → Q (some (.int (-1))) ly M) ∧ (ng = 24 → Q (some (.int (-1))) ly M) ∧ ((0 ≤ x ∧ x ≤ 63) → (∃ j : Nat, j < n ∧ y = nI j) → (0 ≤ z ∧ z ≤ 99999) → ng < 24 → Q (some (.int (nI ng))) ly (sI (sI (sI (sI (sI (sI M 129 (upd (M.1 129) ng x)) 130 (upd (M.1 130) ng y)) 131 (upd (M.1 131) ng z)) 132 (upd (M.1 132) ng v)) 133 (upd (M.1 133) ng (-1))) 128 (upd (M.1 128) 0 (nI (ng + 1)))))) : Mt G l mX11_groan (3, 0, 0, false) [.ref 0, .int x, .int y, .int z, .int v] ly M Q := by
  have hXS0 := hXS
  obtain ⟨hX, hpl, hp7, ⟨n0, n1, n2, n3⟩, ⟨hn, hn2, hn12⟩, ⟨hw1, hw2, hw6⟩, ⟨hu1, hu2, hv1, hv2⟩, hgl, hbb⟩ := hXS
  refine Mt.of (lv := [some (.ref 0), some (.int x), some (.int y), some (.int z), some (.int v)]) rfl ?_
  refine Rn.iload_n dX11_groan_0 rfl ?_
  refine Rn.iconstv (v := 0) dX11_groan_1 ic_0 ?_
  refine Rn.bipushv (v := 63) dX11_groan_2 bp_63 ?_
  refine Rn.callS3 dX11_groan_4 vX11_295 (tX11_isIn) (by decide) ⟨(Nat.le_of_ble_eq_true rfl), (Nat.le_of_ble_eq_true rfl), (Nat.le_of_ble_eq_true rfl)⟩ (fun h => by cases h) (fun v1 ly1 M1 ⟨q1, q2, q3⟩ => ?_)
  rw [q1, q2, q3]
  refine Rn.if_eq dX11_groan_7 (fun g1 => ?_) (fun g1 => ?_)
  · skip
    refine Rn.iconstv (v := -1) dX11_groan_29 ic_m1 ?_
    exact Rn.iret (ty := .int) dX11_groan_30 rfl rfl (hQ.1 (fun h => inR_1.elim (fun k => k.2 h.1) (fun k => absurd (k.1.symm.trans g1) (by decide))))
  · skip
    have g1h : 0 ≤ x ∧ x ≤ 63 := (inR_1 (x := x) (lo := 0) (hi := 63)).elim (fun k => absurd k.1 g1) (fun k => k.2)
    refine Rn.aload_n dX11_groan_10 rfl ?_
    refine Rn.iload_n dX11_groan_11 rfl ?_
    refine Rn.callV1 dX11_groan_12 vX11_159 (xc0 hX) (by decide) rfl (tX11_isCell hX hpl hp7) (by decide) ⟨(Nat.le_of_ble_eq_true rfl), (Nat.le_of_ble_eq_true rfl), (Nat.le_of_ble_eq_true rfl)⟩ (fun h => by cases h) (fun v1 ly1 M1 ⟨q1, q2, q3⟩ => ?_)
    rw [q1, q2, q3]
    refine Rn.topI (y := inN y (nI n)) (by rw [hn]) ?_
    refine Rn.if_eq dX11_groan_15 (fun g2 => ?_) (fun g2 => ?_)
    · skip
      refine Rn.iconstv (v := -1) dX11_groan_29 ic_m1 ?_
      exact Rn.iret (ty := .int) dX11_groan_30 rfl rfl (hQ.1 (fun h => (inN_1 (x := y) (k := n) (lt31c hn12)).elim (fun k => k.2 h.2.1) (fun k => absurd (k.1.symm.trans g2) (by decide))))
    · skip
      obtain ⟨c, hc, rfl⟩ : ∃ j : Nat, j < n ∧ y = nI j := (inN_1 (x := y) (k := n) (lt31c hn12)).elim (fun k => absurd k.1 g2) (fun k => k.2)
      refine Rn.iload_n dX11_groan_18 rfl ?_
      refine Rn.iconstv (v := 0) dX11_groan_19 ic_0 ?_
      refine Rn.ldcw dX11_groan_20 kX11_355 ?_
      refine Rn.callS3 dX11_groan_23 vX11_295 (tX11_isIn) (by decide) ⟨(Nat.le_of_ble_eq_true rfl), (Nat.le_of_ble_eq_true rfl), (Nat.le_of_ble_eq_true rfl)⟩ (fun h => by cases h) (fun v1 ly1 M1 ⟨q1, q2, q3⟩ => ?_)
      rw [q1, q2, q3]
      refine Rn.if_ne dX11_groan_26 (fun g3 => ?_) (fun g3 => ?_)
      · skip
        have g3h : 0 ≤ z ∧ z ≤ 99999 := (inR_1 (x := z) (lo := 0) (hi := 99999)).elim (fun k => absurd k.1 g3) (fun k => k.2)
        refine Rn.aload_n dX11_groan_31 rfl ?_
        refine Rn.getR dX11_groan_32 fX11_59 rfl (xc0 hX) (show M.2.2 0 11 = some 128 from (xp0_11 hX)) ?_
        refine Rn.iload_n dX11_groan_35 rfl ?_
        refine Rn.iload_n dX11_groan_36 rfl ?_
        refine Rn.iload_n dX11_groan_37 rfl ?_
        refine Rn.iload dX11_groan_38 rfl ?_
        rcases Nat.lt_or_eq_of_le hG.2 with hlt | rfl
        · skip
          refine Rn.callV4 dX11_groan_40 vX11_356 (xc128 hX) (by decide) rfl (tX4_add (a := 128) (xGroans hX) hG.1 hlt hv01) (by decide) ⟨(Nat.le_of_ble_eq_true rfl), (Nat.le_of_ble_eq_true rfl), (Nat.le_of_ble_eq_true rfl)⟩ (fun h => by cases h) (fun v1 ly1 M1 ⟨q1, q2, q3⟩ => ?_)
          rw [q1, q2, q3]
          exact Rn.iret (ty := .int) dX11_groan_43 rfl rfl (hQ.2.2 g1h ⟨c, hc, rfl⟩ g3h hlt)
        · skip
          refine Rn.callV4 dX11_groan_40 vX11_356 (xc128 hX) (by decide) rfl (tX4_addFull (a := 128) (xGroans hX) hG.1) (by decide) ⟨(Nat.le_of_ble_eq_true rfl), (Nat.le_of_ble_eq_true rfl), (Nat.le_of_ble_eq_true rfl)⟩ (fun h => by cases h) (fun v1 ly1 M1 ⟨q1, q2, q3⟩ => ?_)
          rw [q1, q2, q3]
          exact Rn.iret (ty := .int) dX11_groan_43 rfl rfl (hQ.2.1 rfl)
      · skip
        refine Rn.iconstv (v := -1) dX11_groan_29 ic_m1 ?_
        exact Rn.iret (ty := .int) dX11_groan_30 rfl rfl (hQ.1 (fun h => inR_1.elim (fun k => k.2 h.2.2) (fun k => absurd (k.1.symm.trans g3) (by decide))))
theorem tX11_unsay {G : Gx} {l : Launch} {ly : Ly} {M : Mm} {pl n nw nu nv : Nat} {ng : Nat} {x : Int32} (hG : M.1 128 0 = nI ng ∧ ng ≤ 24) (hXS : XS ly M pl n nw nu nv) {Q : Qt} (hQ : (x < 0 ∨ nI ng ≤ x ∨ ng = 24 → Q (some (.int (-1))) ly M) ∧ (¬ x < 0 → ¬ nI ng ≤ x → ng < 24 → Q (some (.int (nI ng))) ly (sI (sI M 133 (upd (M.1 133) ng x)) 128 (upd (M.1 128) 0 (nI (ng + 1)))))) : Mt G l mX11_unsay (3, 0, 0, false) [.ref 0, .int x] ly M Q := by
  have hXS0 := hXS
  obtain ⟨hX, hpl, hp7, ⟨n0, n1, n2, n3⟩, ⟨hn, hn2, hn12⟩, ⟨hw1, hw2, hw6⟩, ⟨hu1, hu2, hv1, hv2⟩, hgl, hbb⟩ := hXS
  refine Mt.of (lv := [some (.ref 0), some (.int x)]) rfl ?_
  refine Rn.aload_n dX11_unsay_0 rfl ?_
  refine Rn.getR dX11_unsay_1 fX11_59 rfl (xc0 hX) (show M.2.2 0 11 = some 128 from (xp0_11 hX)) ?_
  refine Rn.iload_n dX11_unsay_4 rfl ?_
  refine Rn.callV1 dX11_unsay_5 vX11_359 (xc128 hX) (by decide) rfl (tX4_addStrike (Q := fun v0 ly0 M0 => ∃ y, v0 = some (.int y) ∧ Q (some (.int y)) ly0 M0) (a := 128) (xGroans hX) hG.1 hG.2 ⟨fun h => ⟨_, rfl, hQ.1 h⟩, fun h1 h2 h3 => ⟨_, rfl, hQ.2 h1 h2 h3⟩⟩) (by decide) ⟨(Nat.le_of_ble_eq_true rfl), (Nat.le_of_ble_eq_true rfl), (Nat.le_of_ble_eq_true rfl)⟩ (fun h => by cases h) (fun v1 ly1 M1 ⟨y, q1, hq⟩ => ?_)
  rw [q1]
  exact Rn.iret (ty := .int) dX11_unsay_8 rfl rfl hq
theorem tX11_known {G : Gx} {l : Launch} {ly : Ly} {M : Mm} {pl n nw nu nv : Nat} {ng : Nat} {x : Int32} (hG : M.1 128 0 = nI ng ∧ ng ≤ 24) (hXS : XS ly M pl n nw nu nv) {Q : Qt} (hQ : (x < -1 ∨ nI ng < x → Q (some (.int 0)) ly M) ∧ (¬ x < -1 → ¬ nI ng < x → Q (some (.int 1)) ly (sI M 128 (upd (M.1 128) 1 x)))) : Mt G l mX11_known (1, 0, 0, false) [.ref 0, .int x] ly M Q := by
  have hXS0 := hXS
  obtain ⟨hX, hpl, hp7, ⟨n0, n1, n2, n3⟩, ⟨hn, hn2, hn12⟩, ⟨hw1, hw2, hw6⟩, ⟨hu1, hu2, hv1, hv2⟩, hgl, hbb⟩ := hXS
  refine Mt.of (lv := [some (.ref 0), some (.int x)]) rfl ?_
  refine Rn.iload_n dX11_known_0 rfl ?_
  refine Rn.iconstv (v := -1) dX11_known_1 ic_m1 ?_
  refine Rn.icmp_lt dX11_known_2 (fun k1 => ?_) (fun k1 => ?_)
  · skip
    refine Rn.iconstv (v := 0) dX11_known_16 ic_0 ?_
    exact Rn.iret (ty := .boolean) dX11_known_17 rfl rfl (hQ.1 (Or.inl k1))
  · skip
    refine Rn.iload_n dX11_known_5 rfl ?_
    refine Rn.aload_n dX11_known_6 rfl ?_
    refine Rn.getR dX11_known_7 fX11_59 rfl (xc0 hX) (show M.2.2 0 11 = some 128 from (xp0_11 hX)) ?_
    refine Rn.getI dX11_known_10 fX11_230 rfl (xc128 hX) ?_
    refine Rn.topI (y := nI ng) (hG.1) ?_
    refine Rn.icmp_le dX11_known_13 (fun k2 => ?_) (fun k2 => ?_)
    · skip
      refine Rn.aload_n dX11_known_18 rfl ?_
      refine Rn.getR dX11_known_19 fX11_59 rfl (xc0 hX) (show M.2.2 0 11 = some 128 from (xp0_11 hX)) ?_
      refine Rn.iload_n dX11_known_22 rfl ?_
      refine Rn.putI dX11_known_23 fX11_362 rfl rfl rfl (xc128 hX) ?_
      refine Rn.iconstv (v := 1) dX11_known_26 ic_1 ?_
      exact Rn.iret (ty := .boolean) dX11_known_27 rfl rfl (hQ.2 k1 (Int32.not_lt.mpr k2))
    · skip
      refine Rn.iconstv (v := 0) dX11_known_16 ic_0 ?_
      exact Rn.iret (ty := .boolean) dX11_known_17 rfl rfl (hQ.1 (Or.inr (Int32.not_le.mp k2)))
