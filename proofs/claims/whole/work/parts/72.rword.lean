def wdT : List (Nat × Nat) := [(0, 6), (7, 4), (12, 4), (17, 4), (22, 6), (29, 3), (33, 5), (39, 4), (44, 4), (49, 3), (53, 3), (57, 5), (63, 4), (68, 4), (73, 4), (78, 4), (83, 2), (86, 3), (90, 3), (94, 6), (101, 4), (106, 5), (112, 4), (117, 4), (122, 4), (127, 0)]
def wOf (w : Nat) : Nat := (wdT.getD w (0, 0)).1
def wLn (w : Nat) : Nat := (wdT.getD w (0, 0)).2
theorem wT : ∀ w, w < 25 → wOf w + wLn w < 127 ∧ lgB (wOf w + wLn w) = 32 ∧ wOf (w + 1) = wOf w + wLn w + 1 := by decide +kernel
theorem wN : ∀ w, w < 25 → ∀ i, i < wLn w → ¬ lgB (wOf w + i) = 32 := by decide +kernel
/-- the word w stands there -/
def mtB (f : Nat → Int32) (p e w : Nat) : Bool := decide (e = p + wLn w ∧ ∀ i, i < wLn w → f (p + i) = lgB (wOf w + i))
def wdF (B : Nat → Bool) : Nat → Nat → Int32
  | 0, _ => -1
  | k + 1, w => if B w = true then nI w else wdF B k (w + 1)
/-- six letters -/
def pkR (f : Nat → Int32) (p e : Nat) : Nat → Int32
  | 0 => 0
  | k + 1 => (pkR f p e k <<< ((5 : Int32) &&& 31)) ||| (if p + k < e then f (p + k) - 97 + 1 else 0)
theorem tX12_name {G : Gx} {l : Launch} {ly : Ly} {M : Mm} {p e : Nat} (hat : M.1 149 25 = nI e ∧ e ≤ 700) (hpl : M.1 149 26 = nI p ∧ p ≤ e) (hR : RW ly M.2.2) {Q : Qt} (hQ : ∀ K, tkF M K → K.1 149 25 = M.1 149 25 → K.1 149 26 = M.1 149 26 → K.1 149 27 = M.1 149 27 → K.1 149 28 = pkR (M.1 150) p e 6 → Q none ly K) : Mt G l mX12_name (0, 0, 0, false) [.ref 149] ly M Q := by
  refine Mt.of (lv := [some (.ref 149), none]) rfl ?_
  refine Rn.aload_n dX12_name_0 rfl ?_
  refine Rn.iconstv (v := 0) dX12_name_1 ic_0 ?_
  refine Rn.putI dX12_name_2 fX12_198 rfl rfl rfl (rc149 hR) ?_
  refine Rn.iconstv (v := 0) dX12_name_5 ic_0 ?_
  refine Rn.istore_n (lv' := [some (.ref 149), some (.int 0)]) dX12_name_6 (by decide) rfl ?_
  have loop : ∀ f k : Nat, k + f = 6 → Rn G l mX12_name (0, 0, 0, false) 7 [some (.ref 149), some (.int (nI k))] [] ly (sI M 149 (upd (M.1 149) 28 (pkR (M.1 150) p e k))) Q := by
    intro f
    induction f with
    | zero =>
      intro k hk
      refine Rn.iload_n dX12_name_7 rfl ?_
      refine Rn.bipushv (v := 6) dX12_name_8 bp_6 ?_
      refine Rn.icmp_ge dX12_name_10 (fun hc => ?_) (fun hc => ?_)
      · skip
        have ek : k = 6 := by omega
        rw [ek]
        exact Rn.vret dX12_name_63 rfl (hQ _ (tkF.rf.p (by omega)) rfl rfl rfl rfl)
      · skip
        exact absurd (nI_le (a := 6) (b := k) (by omega) (by omega)) hc
    | succ f ih =>
      intro k hk
      refine Rn.iload_n dX12_name_7 rfl ?_
      refine Rn.bipushv (v := 6) dX12_name_8 bp_6 ?_
      refine Rn.icmp_ge dX12_name_10 (fun hc => ?_) (fun hc => ?_)
      · skip
        exact absurd hc (nI_ge (a := k) (b := 6) (by omega) (by omega))
      · skip
        refine Rn.aload_n dX12_name_13 rfl ?_
        refine Rn.aload_n dX12_name_14 rfl ?_
        refine Rn.getI dX12_name_15 fX12_198 rfl (rc149 hR) ?_
        refine Rn.iconstv (v := 5) dX12_name_18 ic_5 ?_
        refine Rn.ishl dX12_name_19 ?_
        refine Rn.aload_n dX12_name_20 rfl ?_
        refine Rn.getI dX12_name_21 fX12_185 rfl (rc149 hR) ?_
        refine Rn.topI (y := nI p) (hpl.1) ?_
        refine Rn.iload_n dX12_name_24 rfl ?_
        refine Rn.iadd dX12_name_25 ?_
        refine Rn.topI (y := nI (p + k)) (nI_add p k) ?_
        refine Rn.aload_n dX12_name_26 rfl ?_
        refine Rn.getI dX12_name_27 fX12_175 rfl (rc149 hR) ?_
        refine Rn.topI (y := nI e) (hat.1) ?_
        have join : Rn G l mX12_name (0, 0, 0, false) 53 [some (.ref 149), some (.int (nI k))] [.int (if p + k < e then M.1 150 (p + k) - 97 + 1 else 0), .int ((pkR (M.1 150) p e k) <<< (5 &&& 31)), .ref 149] ly (sI M 149 (upd (M.1 149) 28 (pkR (M.1 150) p e k))) Q := by
          refine Rn.ior dX12_name_53 ?_
          refine Rn.topI (y := pkR (M.1 150) p e (k + 1)) (rfl) ?_
          refine Rn.putI dX12_name_54 fX12_198 rfl rfl rfl (rc149 hR) ?_
          refine Rn.meq (M2 := sI M 149 (upd (upd (M.1 149) 28 (pkR (M.1 150) p e k)) 28 (pkR (M.1 150) p e (k + 1)))) (sI_sI _ _ _ _) ?_
          refine Rn.iincN (lv' := [some (.ref 149), some (.int (nI (k + 1)))]) dX12_name_57 rfl (by decide) rfl ?_
          refine Rn.goto dX12_name_60 ?_
          refine Rn.meq (M2 := sI M 149 (upd (M.1 149) 28 (pkR (M.1 150) p e (k + 1)))) (congrArg (sI M 149) (upd_upd _ _ _ _)) ?_
          exact ih (k + 1) (by omega)
        refine Rn.icmp_ge dX12_name_30 (fun h1 => ?_) (fun h1 => ?_)
        · skip
          refine Rn.iconstv (v := 0) dX12_name_52 ic_0 ?_
          refine Rn.topI (y := (if p + k < e then M.1 150 (p + k) - 97 + 1 else 0)) ((if_neg (fun h => absurd h1 (nI_ge (a := p + k) (b := e) h (by omega)))).symm) ?_
          exact join
        · skip
          have hlt : p + k < e := Nat.lt_of_not_le (fun h => h1 (nI_le (a := e) (b := p + k) h (by omega)))
          refine Rn.aload_n dX12_name_33 rfl ?_
          refine Rn.getR dX12_name_34 fX12_9 rfl (rc149 hR) (show M.2.2 149 1 = some 150 from (rpt1 hR)) ?_
          refine Rn.aload_n dX12_name_37 rfl ?_
          refine Rn.getI dX12_name_38 fX12_185 rfl (rc149 hR) ?_
          refine Rn.topI (y := nI p) (hpl.1) ?_
          refine Rn.iload_n dX12_name_41 rfl ?_
          refine Rn.iadd dX12_name_42 ?_
          refine Rn.topI (y := nI (p + k)) (nI_add p k) ?_
          refine Rn.ialdN (k0 := (p + k)) dX12_name_43 (rc150 hR) (by omega) (by decide) ?_
          refine Rn.bipushv (v := 97) dX12_name_44 bp_97 ?_
          refine Rn.isub dX12_name_46 ?_
          refine Rn.iconstv (v := 1) dX12_name_47 ic_1 ?_
          refine Rn.iadd dX12_name_48 ?_
          refine Rn.goto dX12_name_49 ?_
          refine Rn.topI (y := (if p + k < e then M.1 150 (p + k) - 97 + 1 else 0)) ((if_pos hlt).symm) ?_
          exact join
  exact loop 6 0 (by omega)
theorem tX12_word {G : Gx} {l : Launch} {ly : Ly} {M : Mm} {p e : Nat} (hat : M.1 149 25 = nI e ∧ e ≤ 700) (hpl : M.1 149 26 = nI p ∧ p ≤ e) (hR : RW ly M.2.2) : Mt G l mX12_word (5, 0, 0, false) [.ref 149] ly M (Is (some (.int (wdF (mtB (M.1 150) p e) 25 0))) ly M) := by
  refine Mt.is (fun Q hQ => ?_)
  refine Mt.of (lv := [some (.ref 149), none, none, none]) rfl ?_
  have hx : (3 : UInt32) = 2 ∨ (3 : UInt32) = 3 := Or.inr rfl
  refine Rn.iconstv (v := 0) dX12_word_0 ic_0 ?_
  refine Rn.istore_n (lv' := [some (.ref 149), some (.int 0), none, none]) dX12_word_1 (by decide) rfl ?_
  refine Rn.iconstv (v := 0) dX12_word_2 ic_0 ?_
  refine Rn.istore_n (lv' := [some (.ref 149), some (.int 0), some (.int 0), none]) dX12_word_3 (by decide) rfl ?_
  have loop : ∀ f w : Nat, w + f = 25 → wdF (mtB (M.1 150) p e) 25 0 = wdF (mtB (M.1 150) p e) f w → Rn G l mX12_word (5, 0, 0, false) 4 [some (.ref 149), some (.int (nI w)), some (.int (nI (wOf w))), none] [] ly M Q := by
    intro f
    induction f with
    | zero =>
      intro w hw hst
      refine Rn.iload_n dX12_word_4 rfl ?_
      refine Rn.ldcM dX12_word_5 rfl ?_
      refine Rn.callVE0 dX12_word_7 vX12_213 hx rfl (tJ0_length (x := 3) hx) (by decide) ⟨(Nat.le_of_ble_eq_true rfl), (Nat.le_of_ble_eq_true rfl), (Nat.le_of_ble_eq_true rfl)⟩ (fun h => by cases h) (fun v1 ly1 M1 ⟨q1, q2, q3⟩ => ?_)
      rw [q1, q2, q3]
      refine Rn.icmp_ge dX12_word_10 (fun hc => ?_) (fun hc => ?_)
      · skip
        refine Rn.iconstv (v := -1) dX12_word_123 ic_m1 ?_
        rw [hst] at hQ
        exact Rn.iret (ty := .int) dX12_word_124 rfl rfl hQ
      · skip
        have ew : w = 25 := by omega
        rw [ew] at hc
        exact absurd (show (127 : Int32) ≤ nI (wOf 25) by decide) hc
    | succ f ih =>
      intro w hw hst
      refine Rn.iload_n dX12_word_4 rfl ?_
      refine Rn.ldcM dX12_word_5 rfl ?_
      refine Rn.callVE0 dX12_word_7 vX12_213 hx rfl (tJ0_length (x := 3) hx) (by decide) ⟨(Nat.le_of_ble_eq_true rfl), (Nat.le_of_ble_eq_true rfl), (Nat.le_of_ble_eq_true rfl)⟩ (fun h => by cases h) (fun v1 ly1 M1 ⟨q1, q2, q3⟩ => ?_)
      rw [q1, q2, q3]
      refine Rn.icmp_ge dX12_word_10 (fun hc => ?_) (fun hc => ?_)
      · skip
        have h9 := (wT w (by omega)).1
        exact absurd hc (nI_ge (a := wOf w) (b := 127) (by omega) (by omega))
      · skip
        obtain ⟨t1, t2, t3⟩ := wT w (by omega)
        have tn := wN w (by omega)
        have hst2 : wdF (mtB (M.1 150) p e) (f + 1) w = if mtB (M.1 150) p e w = true then nI w else wdF (mtB (M.1 150) p e) f (w + 1) := rfl
        have skip : ¬ mtB (M.1 150) p e w = true → ∀ g j : Nat, j + g = wLn w → Rn G l mX12_word (5, 0, 0, false) 97 [some (.ref 149), some (.int (nI w)), some (.int (nI (wOf w + j))), none] [] ly M Q := by
          intro hB g
          induction g with
          | zero =>
            intro j hj
            refine Rn.ldcM dX12_word_97 rfl ?_
            refine Rn.iload_n dX12_word_99 rfl ?_
            refine Rn.callVE1 dX12_word_100 vX12_218 hx rfl (tJ0_charAt (x := 3) (k := wOf w + j) hx (by omega)) (by decide) ⟨(Nat.le_of_ble_eq_true rfl), (Nat.le_of_ble_eq_true rfl), (Nat.le_of_ble_eq_true rfl)⟩ (fun h => by cases h) (fun v1 ly1 M1 ⟨q1, q2, q3⟩ => ?_)
            rw [q1, q2, q3]
            refine Rn.bipushv (v := 32) dX12_word_103 bp_32 ?_
            refine Rn.icmp_eq dX12_word_105 (fun h1 => ?_) (fun h1 => ?_)
            · skip
              refine Rn.iincN (lv' := [some (.ref 149), some (.int (nI w)), some (.int (nI ((wOf w + j) + 1))), none]) dX12_word_114 rfl (by decide) rfl ?_
              refine Rn.iincN (lv' := [some (.ref 149), some (.int (nI (w + 1))), some (.int (nI ((wOf w + j) + 1))), none]) dX12_word_117 rfl (by decide) rfl ?_
              refine Rn.goto dX12_word_120 ?_
              refine Rn.lveq (lv2 := [some (.ref 149), some (.int (nI (w + 1))), some (.int (nI (wOf (w + 1)))), none]) (by rw [t3, show j = wLn w by omega]) ?_
              exact ih (w + 1) (by omega) (by rw [hst, hst2, if_neg hB])
            · skip
              exact absurd (show lgB (wOf w + j) = 32 by rw [show j = wLn w by omega]; exact t2) h1
          | succ g ihg =>
            intro j hj
            refine Rn.ldcM dX12_word_97 rfl ?_
            refine Rn.iload_n dX12_word_99 rfl ?_
            refine Rn.callVE1 dX12_word_100 vX12_218 hx rfl (tJ0_charAt (x := 3) (k := wOf w + j) hx (by omega)) (by decide) ⟨(Nat.le_of_ble_eq_true rfl), (Nat.le_of_ble_eq_true rfl), (Nat.le_of_ble_eq_true rfl)⟩ (fun h => by cases h) (fun v1 ly1 M1 ⟨q1, q2, q3⟩ => ?_)
            rw [q1, q2, q3]
            refine Rn.bipushv (v := 32) dX12_word_103 bp_32 ?_
            refine Rn.icmp_eq dX12_word_105 (fun h1 => ?_) (fun h1 => ?_)
            · skip
              exact absurd h1 (tn j (by omega))
            · skip
              refine Rn.iincN (lv' := [some (.ref 149), some (.int (nI w)), some (.int (nI ((wOf w + j) + 1))), none]) dX12_word_108 rfl (by decide) rfl ?_
              refine Rn.goto dX12_word_111 ?_
              exact ihg (j + 1) (by omega)
        have join : ∀ i : Nat, i ≤ wLn w → p + i ≤ e → (∀ j, j < i → M.1 150 (p + j) = lgB (wOf w + j)) → (i = wLn w ∨ e ≤ p + i ∨ ¬ M.1 150 (p + i) = lgB (wOf w + i)) → Rn G l mX12_word (5, 0, 0, false) 69 [some (.ref 149), some (.int (nI w)), some (.int (nI (wOf w))), some (.int (nI i))] [] ly M Q := by
          intro i hi hpe hm hx2
          have hlt : i < wLn w → ¬ mtB (M.1 150) p e w = true := fun h hB => by
            obtain ⟨h1, h2⟩ := of_decide_eq_true hB
            rcases hx2 with h3 | h3 | h3
            · omega
            · omega
            · exact h3 (h2 i h)
          refine Rn.ldcM dX12_word_69 rfl ?_
          refine Rn.iload_n dX12_word_71 rfl ?_
          refine Rn.iload_n dX12_word_72 rfl ?_
          refine Rn.iadd dX12_word_73 ?_
          refine Rn.topI (y := nI (wOf w + i)) (nI_add (wOf w) i) ?_
          refine Rn.callVE1 dX12_word_74 vX12_218 hx rfl (tJ0_charAt (x := 3) (k := wOf w + i) hx (by omega)) (by decide) ⟨(Nat.le_of_ble_eq_true rfl), (Nat.le_of_ble_eq_true rfl), (Nat.le_of_ble_eq_true rfl)⟩ (fun h => by cases h) (fun v1 ly1 M1 ⟨q1, q2, q3⟩ => ?_)
          rw [q1, q2, q3]
          refine Rn.bipushv (v := 32) dX12_word_77 bp_32 ?_
          refine Rn.icmp_ne dX12_word_79 (fun h1 => ?_) (fun h1 => ?_)
          · skip
            have hi2 : i < wLn w := Nat.lt_of_le_of_ne hi (fun e2 => h1 (by rw [e2]; exact t2))
            refine Rn.forget (lv' := [some (.ref 149), some (.int (nI w)), some (.int (nI (wOf w))), none]) (⟨rfl, ⟨rfl, ⟨rfl, trivial⟩⟩⟩) ?_
            exact skip (hlt hi2) (wLn w) 0 (by omega)
          · skip
            have hi2 : i = wLn w := Nat.le_antisymm hi (Nat.le_of_not_lt (fun h => tn i h h1))
            refine Rn.aload_n dX12_word_82 rfl ?_
            refine Rn.getI dX12_word_83 fX12_185 rfl (rc149 hR) ?_
            refine Rn.topI (y := nI p) (hpl.1) ?_
            refine Rn.iload_n dX12_word_86 rfl ?_
            refine Rn.iadd dX12_word_87 ?_
            refine Rn.topI (y := nI (p + i)) (nI_add p i) ?_
            refine Rn.aload_n dX12_word_88 rfl ?_
            refine Rn.getI dX12_word_89 fX12_175 rfl (rc149 hR) ?_
            refine Rn.topI (y := nI e) (hat.1) ?_
            refine Rn.icmp_ne dX12_word_92 (fun h2 => ?_) (fun h2 => ?_)
            · skip
              refine Rn.forget (lv' := [some (.ref 149), some (.int (nI w)), some (.int (nI (wOf w))), none]) (⟨rfl, ⟨rfl, ⟨rfl, trivial⟩⟩⟩) ?_
              exact skip (fun hB => h2 (by rw [(of_decide_eq_true hB).1, hi2])) (wLn w) 0 (by omega)
            · skip
              have he : p + i = e := (nI_eq (by omega) (by omega)).mp h2
              refine Rn.iload_n dX12_word_95 rfl ?_
              have hB : mtB (M.1 150) p e w = true := decide_eq_true ⟨by rw [← hi2]; exact he.symm, fun j hj => hm j (by omega)⟩
              rw [hst, hst2, if_pos hB] at hQ
              exact Rn.iret (ty := .int) dX12_word_96 rfl rfl hQ
        refine Rn.iconstv (v := 0) dX12_word_13 ic_0 ?_
        refine Rn.istore_n (lv' := [some (.ref 149), some (.int (nI w)), some (.int (nI (wOf w))), some (.int 0)]) dX12_word_14 (by decide) rfl ?_
        have inner : ∀ g i : Nat, i + g = wLn w → p + i ≤ e → (∀ j, j < i → M.1 150 (p + j) = lgB (wOf w + j)) → Rn G l mX12_word (5, 0, 0, false) 15 [some (.ref 149), some (.int (nI w)), some (.int (nI (wOf w))), some (.int (nI i))] [] ly M Q := by
          intro g
          induction g with
          | zero =>
            intro i hi hpe hm
            refine Rn.ldcM dX12_word_15 rfl ?_
            refine Rn.iload_n dX12_word_17 rfl ?_
            refine Rn.iload_n dX12_word_18 rfl ?_
            refine Rn.iadd dX12_word_19 ?_
            refine Rn.topI (y := nI (wOf w + i)) (nI_add (wOf w) i) ?_
            refine Rn.callVE1 dX12_word_20 vX12_218 hx rfl (tJ0_charAt (x := 3) (k := wOf w + i) hx (by omega)) (by decide) ⟨(Nat.le_of_ble_eq_true rfl), (Nat.le_of_ble_eq_true rfl), (Nat.le_of_ble_eq_true rfl)⟩ (fun h => by cases h) (fun v1 ly1 M1 ⟨q1, q2, q3⟩ => ?_)
            rw [q1, q2, q3]
            refine Rn.bipushv (v := 32) dX12_word_23 bp_32 ?_
            refine Rn.icmp_eq dX12_word_25 (fun h1 => ?_) (fun h1 => ?_)
            · skip
              exact join i (by omega) hpe hm (Or.inl (by omega))
            · skip
              exact absurd (show lgB (wOf w + i) = 32 by rw [show i = wLn w by omega]; exact t2) h1
          | succ g ihg =>
            intro i hi hpe hm
            refine Rn.ldcM dX12_word_15 rfl ?_
            refine Rn.iload_n dX12_word_17 rfl ?_
            refine Rn.iload_n dX12_word_18 rfl ?_
            refine Rn.iadd dX12_word_19 ?_
            refine Rn.topI (y := nI (wOf w + i)) (nI_add (wOf w) i) ?_
            refine Rn.callVE1 dX12_word_20 vX12_218 hx rfl (tJ0_charAt (x := 3) (k := wOf w + i) hx (by omega)) (by decide) ⟨(Nat.le_of_ble_eq_true rfl), (Nat.le_of_ble_eq_true rfl), (Nat.le_of_ble_eq_true rfl)⟩ (fun h => by cases h) (fun v1 ly1 M1 ⟨q1, q2, q3⟩ => ?_)
            rw [q1, q2, q3]
            refine Rn.bipushv (v := 32) dX12_word_23 bp_32 ?_
            refine Rn.icmp_eq dX12_word_25 (fun h1 => ?_) (fun h1 => ?_)
            · skip
              exact absurd h1 (tn i (by omega))
            · skip
              refine Rn.aload_n dX12_word_28 rfl ?_
              refine Rn.getI dX12_word_29 fX12_185 rfl (rc149 hR) ?_
              refine Rn.topI (y := nI p) (hpl.1) ?_
              refine Rn.iload_n dX12_word_32 rfl ?_
              refine Rn.iadd dX12_word_33 ?_
              refine Rn.topI (y := nI (p + i)) (nI_add p i) ?_
              refine Rn.aload_n dX12_word_34 rfl ?_
              refine Rn.getI dX12_word_35 fX12_175 rfl (rc149 hR) ?_
              refine Rn.topI (y := nI e) (hat.1) ?_
              refine Rn.icmp_ge dX12_word_38 (fun h2 => ?_) (fun h2 => ?_)
              · skip
                exact join i (by omega) hpe hm (Or.inr (Or.inl (Nat.le_of_not_lt (fun h => absurd h2 (nI_ge (a := p + i) (b := e) h (by omega))))))
              · skip
                have hlt : p + i < e := Nat.lt_of_not_le (fun h => h2 (nI_le (a := e) (b := p + i) h (by omega)))
                refine Rn.aload_n dX12_word_41 rfl ?_
                refine Rn.getR dX12_word_42 fX12_9 rfl (rc149 hR) (show M.2.2 149 1 = some 150 from (rpt1 hR)) ?_
                refine Rn.aload_n dX12_word_45 rfl ?_
                refine Rn.getI dX12_word_46 fX12_185 rfl (rc149 hR) ?_
                refine Rn.topI (y := nI p) (hpl.1) ?_
                refine Rn.iload_n dX12_word_49 rfl ?_
                refine Rn.iadd dX12_word_50 ?_
                refine Rn.topI (y := nI (p + i)) (nI_add p i) ?_
                refine Rn.ialdN (k0 := (p + i)) dX12_word_51 (rc150 hR) (by omega) (by decide) ?_
                refine Rn.ldcM dX12_word_52 rfl ?_
                refine Rn.iload_n dX12_word_54 rfl ?_
                refine Rn.iload_n dX12_word_55 rfl ?_
                refine Rn.iadd dX12_word_56 ?_
                refine Rn.topI (y := nI (wOf w + i)) (nI_add (wOf w) i) ?_
                refine Rn.callVE1 dX12_word_57 vX12_218 hx rfl (tJ0_charAt (x := 3) (k := wOf w + i) hx (by omega)) (by decide) ⟨(Nat.le_of_ble_eq_true rfl), (Nat.le_of_ble_eq_true rfl), (Nat.le_of_ble_eq_true rfl)⟩ (fun h => by cases h) (fun v1 ly1 M1 ⟨q1, q2, q3⟩ => ?_)
                rw [q1, q2, q3]
                refine Rn.icmp_ne dX12_word_60 (fun h3 => ?_) (fun h3 => ?_)
                · skip
                  exact join i (by omega) hpe hm (Or.inr (Or.inr h3))
                · skip
                  refine Rn.iincN (lv' := [some (.ref 149), some (.int (nI w)), some (.int (nI (wOf w))), some (.int (nI (i + 1)))]) dX12_word_63 rfl (by decide) rfl ?_
                  refine Rn.goto dX12_word_66 ?_
                  exact ihg (i + 1) (by omega) (by omega) (fun j hj => if e2 : j = i then by rw [e2]; exact h3 else hm j (by omega))
        exact inner (wLn w) 0 (by omega) (by omega) (fun j hj => absurd hj (by omega))
  exact loop 25 0 (by omega) rfl
