/-- what reading a law may change -/
def fmR (M K : Mm) (q pq : Nat) : Prop := (∀ a j, ¬ (a = 5 ∧ (j = 1 ∨ j = 2)) → K.2.2 a j = M.2.2 a j) ∧ (∀ a, a ≠ 3 → a ≠ 5 → a ≠ 6 → a ≠ q → a ≠ q + 1 → a ≠ pq → K.1 a = M.1 a) ∧ (∀ j, j ≠ 8 → K.1 pq j = M.1 pq j)
theorem fmR.cm {M N K : Mm} {q pq : Nat} (h : fmR M N q pq) (g : cmF N K q pq) : fmR M K q pq := ⟨fun a j x => by rw [g.1]; exact h.1 a j x, fun a a1 a2 a3 a4 a5 a6 => (g.2.1 a a2 a3 a4 a5 a6).trans (h.2.1 a a1 a2 a3 a4 a5 a6), fun j a1 => (g.2.2 j a1).trans (h.2.2 j a1)⟩
theorem fmR.xr {M N K : Mm} {q pq : Nat} (h : fmR M N q pq) (g : xrF N K) (hp : 7 ≤ pq) : fmR M K q pq := ⟨fun a j x => by rw [g.1]; exact h.1 a j x, fun a a1 a2 a3 a4 a5 a6 => (g.2.1 a a1).trans (h.2.1 a a1 a2 a3 a4 a5 a6), fun j a1 => by rw [g.2.1 pq (by omega)]; exact h.2.2 j a1⟩
theorem xFin_5 : ∀ p ∈ xFin, ¬ (p.1 = 5 ∧ (p.2.1 = 1 ∨ p.2.1 = 2)) := by decide +kernel
theorem fmR.xw {M K : Mm} {q pq : Nat} {ly : Ly} (h : fmR M K q pq) (hX : XW ly M.2.2) : XW ly K.2.2 := hX.of (fun p hp => h.1 _ _ (xFin_5 p hp))
theorem CRd.cm {M K : Mm} {q pq : Nat} {f : Nat → Int32} {n i : Nat} (h : CRd M f n i) (g : cmF M K q pq) (hq : 7 ≤ q) (hp : 7 ≤ pq) : CRd K f n i := h.of (g.2.1 1 (by decide) (by decide) (by omega) (by omega) (by omega)) (g.2.1 3 (by decide) (by decide) (by omega) (by omega) (by omega)) (g.2.1 4 (by decide) (by decide) (by omega) (by omega) (by omega))
theorem CMs.xr {ly : Ly} {M K : Mm} {q pq : Nat} {s : Ms} (h : CMs ly M q pq s) (g : xrF M K) : CMs ly K q pq s := by
  obtain ⟨h1, ⟨h2, h3, h4, h5⟩, ⟨h6, h7, h8, h9, h10⟩, ⟨h11, h12⟩, h13, h14, h15, h16⟩ := h
  have hq7 := h6.1
  refine ⟨h1, ⟨by rw [g.1]; exact h2, h3, h4, by rw [g.2.1 pq (by omega)]; exact h5⟩, ⟨by rw [g.1]; exact h6, h7, h8, by rw [g.2.1 q (by omega)]; exact h9, by rw [g.2.1 (q + 1) (by omega)]; exact h10⟩, ⟨?_, ?_⟩, ?_, ?_, ?_, ?_⟩
  · rw [g.2.1 5 (by decide)]; exact h11
  · rw [g.2.1 6 (by decide)]; exact h12
  · rw [g.2.1 5 (by decide)]; exact h13
  · rw [g.2.1 5 (by decide)]; exact h14
  · rw [g.2.1 5 (by decide)]; exact h15
  · rw [g.2.1 5 (by decide)]; exact h16
def rdP (ly : Ly) (M : Mm) (f : Nat → Int32) (n q pq i c : Nat) : Qt := fun v ly2 K => ly2 = ly ∧ fmR M K q pq ∧ ∃ (r : Mres) (i2 : Nat), Mrun (kdF f n) (nvF f n) (nx f n) (ms0 i c) r ∧ CRd K f n i2 ∧ ((∃ (c2 : Nat) (em : List Int32), r = mFin i2 c2 em ∧ v = some (.int 0) ∧ K.1 pq 8 = nI c2 ∧ c2 ≤ 64 ∧ em.length ≤ 64 ∧ K.1 q 0 = nI em.length ∧ lsR (K.1 (q + 1)) em) ∨ (∃ k, r = mNo k i2 ∧ v = some (.int k) ∧ ¬ k = 0))
theorem kd40 {kd nv : Nat → Int32} {nx : Nat → Nat} {i c op : Nat} {em wt : List Int32} {cb : Nat → Bool} {due nt : Bool} {t : Ms} (h : kd i = 40) (hst : mst kd nv nx (i, c, em, wt, op, cb, due, nt) = .inr t) : False := by
  cases due with
  | true =>
    rw [mst_on (by rw [h]; decide) (by rw [h]; decide) (by rw [h]; exact fun g => absurd g.1 (by decide))] at hst
    cases hst
  | false =>
    rw [mst_no (by rw [h]; exact fun g => absurd g.2 (by decide)) (by rw [h]; exact fun g => absurd g.1 (by decide)) (by rw [h]; exact Or.inl (by decide))] at hst
    cases hst
theorem tX3_read {G : Gx} {l : Launch} {ly : Ly} {M : Mm} {f : Nat → Int32} {n q pq i c : Nat} (hr : CRd M f n i) (hp7 : 7 ≤ pq) (hpl : ly[pq]? = some (.inr 7)) (hc : M.1 pq 8 = nI c ∧ c ≤ 64) (hq : 7 ≤ q ∧ ly[q]? = some (.inr 5) ∧ M.2.2 q 1 = some (q + 1) ∧ ly[q + 1]? = some (.inl (0, 64))) (hqp : q ≠ pq ∧ q + 1 ≠ pq) (hX : XW ly M.2.2) : Mt G l mX3_read (3, 0, 0, false) [.ref 5, .ref pq, .ref q] ly M (rdP ly M f n q pq i c) := by
  refine Mt.of (lv := [some (.ref 5), some (.ref pq), some (.ref q), none, none]) rfl ?_
  obtain ⟨hq7, hq5, hq1, hqa⟩ := hq
  have loop : ∀ (k : Nat) (KK : Mm) (s : Ms) (t : Nat), n - s.i = k → t ≤ s.i → CMs ly KK q pq s → CRd KK f n s.i → fmR M KK q pq → (∀ r, Mrun (kdF f n) (nvF f n) (nx f n) s r → Mrun (kdF f n) (nvF f n) (nx f n) (ms0 i c) r) → Rn G l mX3_read (3, 0, 0, false) 45 [some (.ref 5), some (.ref pq), some (.ref q), some (.int (nI t)), none] [] ly KK (rdP ly M f n q pq i c) := by
    intro k
    induction k using Nat.strongRecOn with
    | _ k ih =>
      rintro KK ⟨i2, c2, em, wt, op, cb, due, nt⟩ t hkk ht hC hr hF hm
      change n - i2 = k at hkk
      change t ≤ i2 at ht
      change CRd KK f n i2 at hr
      have hXKK : XW ly KK.2.2 := hF.xw hX
      obtain ⟨⟨r1, r2, r3, r4⟩, r5, r6, r7, r8, r9, r10, r11⟩ := id hr
      obtain ⟨h1, ⟨h2, h3, h4, h5⟩, ⟨h6, h7, h8, h9_, h10⟩, ⟨h11, h12⟩, h13, h14, h15, h16⟩ := id hC
      refine Rn.iload_n dX3_read_45 rfl ?_
      refine Rn.sipushv (v := 700) dX3_read_46 sp_700 ?_
      refine Rn.icmp_gt dX3_read_49 (fun h9 => absurd ((nI_ltI (a := 700) (b := t) (by decide) (by omega)).mp h9) (by omega)) (fun h9 => ?_)
      cases due with
      | true =>
        have h15b : KK.1 5 7 = 1 := h15
        refine Rn.aload_n dX3_read_52 rfl ?_
        refine Rn.getI dX3_read_53 fX3_42 rfl (xc5 hXKK) ?_
        refine Rn.topI (y := 1) (h15b) ?_
        refine Rn.if_ne dX3_read_56 (fun h9 => ?_) (fun h9 => (by first | exact absurd h9 (by decide) | exact absurd (by decide) h9))
        refine Rn.aload_n dX3_read_85 rfl ?_
        refine Rn.getI dX3_read_86 fX3_42 rfl (xc5 hXKK) ?_
        refine Rn.topI (y := 1) (h15b) ?_
        refine Rn.if_eq dX3_read_89 (fun h9 => (by first | exact absurd h9 (by decide) | exact absurd (by decide) h9)) (fun h9 => ?_)
        refine Rn.aload_n dX3_read_92 rfl ?_
        refine Rn.aload_n dX3_read_93 rfl ?_
        refine Rn.getR dX3_read_94 fX3_15 rfl (xc5 hXKK) (show KK.2.2 5 0 = some 3 from (xp5_0 hXKK)) ?_
        refine Rn.getI dX3_read_97 fX3_49 rfl (xc3 hXKK) ?_
        refine Rn.topI (y := kdF f n i2) (r6) ?_
        refine Rn.callV1 dX3_read_100 vX3_58 (xc5 hXKK) (by decide) rfl (oprStep (M := KK) (kd := kdF f n) (nv := nvF f n) (nx := nx f n) hC r9 hXKK) (by decide) ⟨(Nat.le_of_ble_eq_true rfl), (Nat.le_of_ble_eq_true rfl), (Nat.le_of_ble_eq_true rfl)⟩ (fun h => by cases h) (fun v1 ly1 N1 hh9 => ?_)
        obtain ⟨q2, hh⟩ := hh9
        rw [q2]
        rcases hh with ⟨k9, hst, q1, hk9, q3⟩ | ⟨t9, hst, hti, q1, hF1, hC1⟩
        · skip
          rw [q1, q3]
          refine Rn.goto dX3_read_103 ?_
          refine Rn.istore (lv' := [some (.ref 5), some (.ref pq), some (.ref q), some (.int (nI t)), some (.int k9)]) dX3_read_117 (by decide) rfl ?_
          refine Rn.iload dX3_read_119 rfl ?_
          refine Rn.if_eq dX3_read_121 (fun h9 => absurd h9 hk9) (fun h9 => ?_)
          refine Rn.iload dX3_read_124 rfl ?_
          exact Rn.iret (ty := .int) dX3_read_126 rfl rfl ⟨rfl, hF, _, i2, hm _ (Mrun.stop hst), hr, Or.inr ⟨k9, rfl, rfl, hk9⟩⟩
        · skip
          rw [q1]
          have hF2 := hF.cm hF1
          have hXN1 : XW ly N1.2.2 := hF2.xw hX
          have hr1 := hr.cm hF1 hq7 hp7
          refine Rn.goto dX3_read_103 ?_
          refine Rn.istore (lv' := [some (.ref 5), some (.ref pq), some (.ref q), some (.int (nI t)), some (.int 0)]) dX3_read_117 (by decide) rfl ?_
          refine Rn.iload dX3_read_119 rfl ?_
          refine Rn.if_eq dX3_read_121 (fun h9 => ?_) (fun h9 => (by first | exact absurd h9 (by decide) | exact absurd (by decide) h9))
          refine Rn.aload_n dX3_read_127 rfl ?_
          refine Rn.getR dX3_read_128 fX3_15 rfl (xc5 hXN1) (show N1.2.2 5 0 = some 3 from (xp5_0 hXN1)) ?_
          refine Rn.callV0 dX3_read_131 vX3_65 (xc3 hXN1) (by decide) rfl (advC (M := N1) hr1 hXN1) (by decide) ⟨(Nat.le_of_ble_eq_true rfl), (Nat.le_of_ble_eq_true rfl), (Nat.le_of_ble_eq_true rfl)⟩ (fun h => by cases h) (fun v1 ly1 N2 ⟨q1, q2, f2, hr2⟩ => ?_)
          rw [q1, q2]
          have hF3 := hF2.xr f2 hp7
          have hXN2 : XW ly N2.2.2 := hF3.xw hX
          refine Rn.forget (lv' := [some (.ref 5), some (.ref pq), some (.ref q), some (.int (nI t)), none]) (⟨rfl, ⟨rfl, ⟨rfl, ⟨rfl, trivial⟩⟩⟩⟩) ?_
          refine Rn.iincN (lv' := [some (.ref 5), some (.ref pq), some (.ref q), some (.int (nI (t + 1))), none]) dX3_read_134 rfl (by decide) rfl ?_
          refine Rn.goto dX3_read_137 ?_
          have hlt : i2 < nx f n i2 := nx_lt r3 r2 (fun g => kd40 g hst)
          have hnn := (nx_le r3 r2).1
          exact ih (n - nx f n i2) (by omega) N2 t9 (t + 1) (by rw [hti]) (by rw [hti]; omega) (hC1.xr f2) (by rw [hti]; exact hr2) hF3 (fun r hrr => hm r (Mrun.go hst hrr))
      | false =>
        have h15b : KK.1 5 7 = 0 := h15
        have tail : ¬ (op = 0 ∧ kdF f n i2 = 37) → Rn G l mX3_read (3, 0, 0, false) 85 [some (.ref 5), some (.ref pq), some (.ref q), some (.int (nI t)), none] [] ly KK (rdP ly M f n q pq i c) := by
          intro hn1
          refine Rn.aload_n dX3_read_85 rfl ?_
          refine Rn.getI dX3_read_86 fX3_42 rfl (xc5 hXKK) ?_
          refine Rn.topI (y := 0) (h15b) ?_
          refine Rn.if_eq dX3_read_89 (fun h9 => ?_) (fun h9 => (by first | exact absurd h9 (by decide) | exact absurd (by decide) h9))
          refine Rn.aload_n dX3_read_106 rfl ?_
          refine Rn.aload_n dX3_read_107 rfl ?_
          refine Rn.getR dX3_read_108 fX3_15 rfl (xc5 hXKK) (show KK.2.2 5 0 = some 3 from (xp5_0 hXKK)) ?_
          refine Rn.getI dX3_read_111 fX3_49 rfl (xc3 hXKK) ?_
          refine Rn.topI (y := kdF f n i2) (r6) ?_
          refine Rn.callV1 dX3_read_114 vX3_62 (xc5 hXKK) (by decide) rfl (sgStep (M := KK) (kd := kdF f n) (nv := nvF f n) (nx := nx f n) hC hn1 hXKK) (by decide) ⟨(Nat.le_of_ble_eq_true rfl), (Nat.le_of_ble_eq_true rfl), (Nat.le_of_ble_eq_true rfl)⟩ (fun h => by cases h) (fun v1 ly1 N1 hh9 => ?_)
          obtain ⟨q2, hh⟩ := hh9
          rw [q2]
          rcases hh with ⟨k9, hst, q1, hk9, q3⟩ | ⟨t9, hst, hti, q1, hF1, hC1⟩
          · skip
            rw [q1, q3]
            refine Rn.istore (lv' := [some (.ref 5), some (.ref pq), some (.ref q), some (.int (nI t)), some (.int k9)]) dX3_read_117 (by decide) rfl ?_
            refine Rn.iload dX3_read_119 rfl ?_
            refine Rn.if_eq dX3_read_121 (fun h9 => absurd h9 hk9) (fun h9 => ?_)
            refine Rn.iload dX3_read_124 rfl ?_
            exact Rn.iret (ty := .int) dX3_read_126 rfl rfl ⟨rfl, hF, _, i2, hm _ (Mrun.stop hst), hr, Or.inr ⟨k9, rfl, rfl, hk9⟩⟩
          · skip
            rw [q1]
            have hF2 := hF.cm hF1
            have hXN1 : XW ly N1.2.2 := hF2.xw hX
            have hr1 := hr.cm hF1 hq7 hp7
            refine Rn.istore (lv' := [some (.ref 5), some (.ref pq), some (.ref q), some (.int (nI t)), some (.int 0)]) dX3_read_117 (by decide) rfl ?_
            refine Rn.iload dX3_read_119 rfl ?_
            refine Rn.if_eq dX3_read_121 (fun h9 => ?_) (fun h9 => (by first | exact absurd h9 (by decide) | exact absurd (by decide) h9))
            refine Rn.aload_n dX3_read_127 rfl ?_
            refine Rn.getR dX3_read_128 fX3_15 rfl (xc5 hXN1) (show N1.2.2 5 0 = some 3 from (xp5_0 hXN1)) ?_
            refine Rn.callV0 dX3_read_131 vX3_65 (xc3 hXN1) (by decide) rfl (advC (M := N1) hr1 hXN1) (by decide) ⟨(Nat.le_of_ble_eq_true rfl), (Nat.le_of_ble_eq_true rfl), (Nat.le_of_ble_eq_true rfl)⟩ (fun h => by cases h) (fun v1 ly1 N2 ⟨q1, q2, f2, hr2⟩ => ?_)
            rw [q1, q2]
            have hF3 := hF2.xr f2 hp7
            have hXN2 : XW ly N2.2.2 := hF3.xw hX
            refine Rn.forget (lv' := [some (.ref 5), some (.ref pq), some (.ref q), some (.int (nI t)), none]) (⟨rfl, ⟨rfl, ⟨rfl, ⟨rfl, trivial⟩⟩⟩⟩) ?_
            refine Rn.iincN (lv' := [some (.ref 5), some (.ref pq), some (.ref q), some (.int (nI (t + 1))), none]) dX3_read_134 rfl (by decide) rfl ?_
            refine Rn.goto dX3_read_137 ?_
            have hlt : i2 < nx f n i2 := nx_lt r3 r2 (fun g => kd40 g hst)
            have hnn := (nx_le r3 r2).1
            exact ih (n - nx f n i2) (by omega) N2 t9 (t + 1) (by rw [hti]) (by rw [hti]; omega) (hC1.xr f2) (by rw [hti]; exact hr2) hF3 (fun r hrr => hm r (Mrun.go hst hrr))
        refine Rn.aload_n dX3_read_52 rfl ?_
        refine Rn.getI dX3_read_53 fX3_42 rfl (xc5 hXKK) ?_
        refine Rn.topI (y := 0) (h15b) ?_
        refine Rn.if_ne dX3_read_56 (fun h9 => (by first | exact absurd h9 (by decide) | exact absurd (by decide) h9)) (fun h9 => ?_)
        refine Rn.aload_n dX3_read_59 rfl ?_
        refine Rn.getI dX3_read_60 fX3_36 rfl (xc5 hXKK) ?_
        refine Rn.topI (y := nI op) (h13) ?_
        refine Rn.if_ne dX3_read_63 (fun h0 => ?_) (fun h0 => ?_)
        · skip
          exact tail (fun g => h0 (by rw [g.1]; rfl))
        · skip
          refine Rn.aload_n dX3_read_66 rfl ?_
          refine Rn.getR dX3_read_67 fX3_15 rfl (xc5 hXKK) (show KK.2.2 5 0 = some 3 from (xp5_0 hXKK)) ?_
          refine Rn.getI dX3_read_70 fX3_49 rfl (xc3 hXKK) ?_
          refine Rn.topI (y := kdF f n i2) (r6) ?_
          refine Rn.bipushv (v := 37) dX3_read_73 bp_37 ?_
          refine Rn.icmp_ne dX3_read_75 (fun h37 => ?_) (fun h37 => ?_)
          · skip
            exact tail (fun g => h37 g.2)
          · skip
            refine Rn.aload_n dX3_read_78 rfl ?_
            refine Rn.iconstv (v := 1) dX3_read_79 ic_1 ?_
            have hop : op = 0 := nI_inj (by have : op ≤ 8 := h1.2.2.2.1; omega) (by decide) h0
            refine Rn.callV1 dX3_read_80 vX3_54 (xc5 hXKK) (by decide) rfl (pdC (M := KK) (b := 1) (i2 := i2) (by decide) hC hXKK) (by decide) ⟨(Nat.le_of_ble_eq_true rfl), (Nat.le_of_ble_eq_true rfl), (Nat.le_of_ble_eq_true rfl)⟩ (fun h => by cases h) (fun v1 ly1 N1 ⟨q1, q2, f1, g1⟩ => ?_)
            rw [q1, q2]
            refine Rn.iconstv (v := 0) dX3_read_83 ic_0 ?_
            have c1 : (pdL 1 wt em).2.length + nO (pdL 1 wt em).1 ≤ c2 := g1.1.1
            have c3 : c2 ≤ 64 := g1.1.2.1
            exact Rn.iret (ty := .int) dX3_read_84 rfl rfl ⟨rfl, hF.cm f1, _, i2, hm _ (Mrun.stop (mst_fin hop h37)), hr.cm f1 hq7 hp7, Or.inl ⟨c2, _, rfl, rfl, g1.2.1.2.2.2, c3, by omega, g1.2.2.1.2.2.2.1, g1.2.2.1.2.2.2.2⟩⟩
  refine Rn.aload_n dX3_read_0 rfl ?_
  refine Rn.aload_n dX3_read_1 rfl ?_
  refine Rn.putR dX3_read_2 fX3_19 rfl rfl (by decide +kernel) (xc5 hX) ?_
  refine Rn.aload_n dX3_read_5 rfl ?_
  refine Rn.aload_n dX3_read_6 rfl ?_
  refine Rn.putR dX3_read_7 fX3_23 rfl rfl (by decide +kernel) (xc5 hX) ?_
  refine Rn.meq (M2 := sR M 5 (va_up (va_up (M.2.2 5) 1 (some pq)) 2 (some q))) (sR_sR _ _ _ _) ?_
  obtain ⟨N0, e0⟩ : ∃ N9, N9 = sR M 5 (va_up (va_up (M.2.2 5) 1 (some pq)) 2 (some q)) := ⟨_, rfl⟩
  rw [← e0]
  have n1 : N0.1 = M.1 := by rw [e0]; rfl
  have n2 : N0.2.2 5 1 = some pq ∧ N0.2.2 5 2 = some q := by rw [e0]; exact ⟨rfl, rfl⟩
  have n3 : ∀ a j, ¬ (a = 5 ∧ (j = 1 ∨ j = 2)) → N0.2.2 a j = M.2.2 a j := by
    intro a j h
    rw [e0]
    by_cases ha : a = 5
    · subst ha
      show va_up (va_up (M.2.2 5) 1 (some pq)) 2 (some q) j = M.2.2 5 j
      rw [upR_n (show j ≠ 2 from fun e => h ⟨rfl, Or.inr e⟩), upR_n (show j ≠ 1 from fun e => h ⟨rfl, Or.inl e⟩)]
    · exact congrFun (sR_ne ha) j
  clear e0
  have hF0 : fmR M N0 q pq := ⟨n3, fun a _ _ _ _ _ _ => by rw [n1], fun j _ => by rw [n1]⟩
  have hXN0 : XW ly N0.2.2 := hF0.xw hX
  refine Rn.aload_n dX3_read_10 rfl ?_
  refine Rn.getR dX3_read_11 fX3_23 rfl (xc5 hXN0) (show N0.2.2 5 2 = some q from n2.2) ?_
  refine Rn.iconstv (v := 0) dX3_read_14 ic_0 ?_
  refine Rn.putI dX3_read_15 fX3_27 rfl rfl rfl hq5 ?_
  refine Rn.aload_n dX3_read_18 rfl ?_
  refine Rn.iconstv (v := 0) dX3_read_19 ic_0 ?_
  refine Rn.putI dX3_read_20 fX3_33 rfl rfl rfl (xc5 hXN0) ?_
  refine Rn.meq (M2 := sI (sI N0 q (upd (N0.1 q) 0 0)) 5 (upd (N0.1 5) 4 0)) (congrArg (fun r9 => sI (sI N0 q (upd (N0.1 q) 0 0)) 5 (upd r9 4 0)) (sI_ne (show 5 ≠ q by omega))) ?_
  refine Rn.aload_n dX3_read_23 rfl ?_
  refine Rn.iconstv (v := 0) dX3_read_24 ic_0 ?_
  refine Rn.putI dX3_read_25 fX3_36 rfl rfl rfl (xc5 hXN0) ?_
  refine Rn.meq (M2 := sI (sI N0 q (upd (N0.1 q) 0 0)) 5 (upd (upd (N0.1 5) 4 0) 5 0)) (sI_sI _ _ _ _) ?_
  refine Rn.aload_n dX3_read_28 rfl ?_
  refine Rn.iconstv (v := 0) dX3_read_29 ic_0 ?_
  refine Rn.putI dX3_read_30 fX3_39 rfl rfl rfl (xc5 hXN0) ?_
  refine Rn.meq (M2 := sI (sI N0 q (upd (N0.1 q) 0 0)) 5 (upd (upd (upd (N0.1 5) 4 0) 5 0) 6 0)) (sI_sI _ _ _ _) ?_
  refine Rn.aload_n dX3_read_33 rfl ?_
  refine Rn.iconstv (v := 1) dX3_read_34 ic_1 ?_
  refine Rn.putZ dX3_read_35 fX3_42 rfl rfl rfl (by decide) (xc5 hXN0) ?_
  refine Rn.meq (M2 := sI (sI N0 q (upd (N0.1 q) 0 0)) 5 (upd (upd (upd (upd (N0.1 5) 4 0) 5 0) 6 0) 7 1)) (sI_sI _ _ _ _) ?_
  refine Rn.aload_n dX3_read_38 rfl ?_
  refine Rn.iconstv (v := 1) dX3_read_39 ic_1 ?_
  refine Rn.putZ dX3_read_40 fX3_46 rfl rfl rfl (by decide) (xc5 hXN0) ?_
  refine Rn.meq (M2 := sI (sI N0 q (upd (N0.1 q) 0 0)) 5 (upd (upd (upd (upd (upd (N0.1 5) 4 0) 5 0) 6 0) 7 1) 8 1)) (sI_sI _ _ _ _) ?_
  refine Rn.iconstv (v := 0) dX3_read_43 ic_0 ?_
  refine Rn.istore_n (lv' := [some (.ref 5), some (.ref pq), some (.ref q), some (.int 0), none]) dX3_read_44 (by decide) rfl ?_
  obtain ⟨N1, e1⟩ : ∃ N9, N9 = sI (sI N0 q (upd (N0.1 q) 0 0)) 5 (upd (upd (upd (upd (upd (N0.1 5) 4 0) 5 0) 6 0) 7 1) 8 1) := ⟨_, rfl⟩
  rw [← e1]
  have m5 : N1.1 5 4 = 0 ∧ N1.1 5 5 = 0 ∧ N1.1 5 6 = 0 ∧ N1.1 5 7 = 1 ∧ N1.1 5 8 = 1 := by rw [e1]; exact ⟨rfl, rfl, rfl, rfl, rfl⟩
  have mq : N1.1 q = upd (N0.1 q) 0 0 := by rw [e1, sI_ne (by omega)]; exact sI_at _ _ _
  have mo : ∀ a, a ≠ 5 → a ≠ q → N1.1 a = N0.1 a := fun a a1 a2 => by rw [e1, sI_ne a1, sI_ne a2]
  have mr : N1.2.2 = N0.2.2 := by rw [e1]; rfl
  clear e1
  have hF1 : fmR M N1 q pq := ⟨fun a j h => by rw [mr]; exact n3 a j h, fun a a1 a2 a3 a4 a5 a6 => by rw [mo a a2 a4, n1], fun j hj => by rw [mo pq (by omega) hqp.1.symm, n1]⟩
  have hr1 : CRd N1 f n i := hr.of (by rw [mo 1 (by decide) (by omega), n1]) (by rw [mo 3 (by decide) (by omega), n1]) (by rw [mo 4 (by decide) (by omega), n1])
  refine loop (n - i) N1 (ms0 i c) 0 rfl (Nat.zero_le _) ⟨⟨Nat.zero_le _, hc.2, Nat.zero_le _, Nat.zero_le _, fun x hx => absurd hx (by exact List.not_mem_nil)⟩, ⟨by rw [mr]; exact n2.1, hp7, hpl, by rw [mo pq (by omega) hqp.1.symm, n1]; exact hc.1⟩, ⟨⟨hq7, by rw [mr]; exact n2.2, hq5, by rw [mr, n3 q 1 (by omega)]; exact hq1, hqa⟩, hqp.1, hqp.2, by rw [mq]; exact pk_us, trivial⟩, ⟨m5.1, trivial⟩, m5.2.1, by rw [m5.2.2.1]; exact bitR_0, m5.2.2.2.1, m5.2.2.2.2⟩ hr1 hF1 (fun r h => h)
