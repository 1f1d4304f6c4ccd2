/-- a walker: at, steps, state of the reference; at, steps, stage of the class; at most t steps -/
def wk1 (t : Nat) (ra rs rg ca cs cg : Int32) : Prop := rs = cs ∧ rg = cg ∧ ra = (if cg = 1 then ca else -1) ∧ ((cg = 0 ∧ cs = 0) ∨ (cg = 1 ∧ ∃ k : Nat, 1 ≤ k ∧ k ≤ t ∧ cs = nI k) ∨ cg = 2)
theorem wk1.up {t t' : Nat} {ra rs rg ca cs cg : Int32} (h : wk1 t ra rs rg ca cs cg) (ht : t ≤ t') : wk1 t' ra rs rg ca cs cg := by
  obtain ⟨h1, h2, h3, h4⟩ := h
  refine ⟨h1, h2, h3, ?_⟩
  rcases h4 with h | ⟨h, k, a, b, c⟩ | h
  · exact Or.inl h
  · exact Or.inr (Or.inl ⟨h, k, a, by omega, c⟩)
  · exact Or.inr (Or.inr h)
/-- the bridge b's walkers, and the pushes (the class's are less by of) -/
def rWk (I : Nat → Nat → Int32) (b nw : Nat) (t : Nat → Nat) (of : Nat → Int32) (s : W5) : Prop := (∀ w, w < nw → wk1 (t w) (I 177 (6 * b + w)) (I 178 (6 * b + w)) (I 179 (6 * b + w)) (s.1 w) (s.2.1 w) (s.2.2.1 w)) ∧ (∀ c, c < 12 → I 186 c = s.2.2.2.1 c + of c) ∧ (∀ c, c < 12 → I 187 c = s.2.2.2.2 c)
/-- walkers as they are told -/
def eW (I : Nat → Nat → Int32) (nw : Nat) (wt bt fr wy sy : Nat → Int32) : Prop := I 151 6 = nI nw ∧ nw ≤ 6 ∧ ∀ w, w < nw → I 153 w = wt w ∧ I 154 w = bt w ∧ I 155 w = fr w ∧ I 156 w = wy w ∧ (wy w = 0 → I 157 w = sy w) ∧ (∃ k : Nat, 1 ≤ k ∧ k ≤ 9 ∧ bt w = nI k) ∧ (∃ f : Nat, f ≤ 60 ∧ fr w = nI f)
theorem i32div {a b : Nat} (ha : a < 2 ^ 31) (hb : b < 2 ^ 31) : nI a / nI b = nI (a / b) := by
  rw [← Int32.toInt_inj, Int32.toInt_div, nI_toInt ha, nI_toInt hb, nI_toInt (Nat.lt_of_le_of_lt (Nat.div_le_self a b) ha)]
  have e : (a : Int).tdiv (b : Int) = ((a / b : Nat) : Int) := rfl
  rw [e]
  have h2 : a / b ≤ a := Nat.div_le_self a b
  generalize a / b = q at h2 ⊢
  exact Int.bmod_eq_of_le (by omega) (by omega)
theorem i32sub {a b : Nat} (h : b ≤ a) : nI a - nI b = nI (a - b) := by
  rw [show nI a = nI ((a - b) + b) by rw [Nat.sub_add_cancel h], nI_subk]
theorem i32rem {a b : Nat} (ha : a < 2 ^ 31) (hb : b < 2 ^ 31) : nI a - nI a / nI b * nI b = nI (a % b) := by
  rw [i32div ha hb, nI_mul, i32sub (Nat.div_mul_le_self a b)]
  congr 1
  have := Nat.div_add_mod a b
  rw [Nat.mul_comm] at this
  omega
theorem i32and1 {a : Nat} (ha : a < 2 ^ 31) : nI a &&& 1 = nI (a % 2) := by
  rw [← Int32.toBitVec_inj, Int32.toBitVec_and]
  apply BitVec.eq_of_toNat_eq
  rw [BitVec.toNat_and]
  show (BitVec.ofNat 32 a).toNat &&& 1 = (BitVec.ofNat 32 (a % 2)).toNat
  rw [BitVec.toNat_ofNat, BitVec.toNat_ofNat, Nat.and_one_is_mod, Nat.mod_eq_of_lt (show a < 2 ^ 32 by omega), Nat.mod_eq_of_lt (show a % 2 < 2 ^ 32 by omega)]
theorem foot_eq {a : Nat} (ha : a < 2 ^ 31) : nI a - nI a / 2 * 2 = nI a &&& 1 := by
  rw [i32and1 ha]
  exact i32rem (b := 2) ha (by decide)
theorem nI_neg {a b : Nat} (h : a < b) (hb : b < 2 ^ 31) : nI a - nI b < 0 := by
  rw [Int32.lt_iff_toInt_lt, Int32.toInt_sub, nI_toInt (by omega), nI_toInt hb]
  show Int.bmod ((a : Int) - (b : Int)) (2 ^ 32) < 0
  rw [Int.bmod_eq_of_le (by omega) (by omega)]
  omega
theorem stp_lt {t f : Nat} {b : Int32} (h : t < f) (hf : f < 2 ^ 31) : stpAt (nI t) (nI f) b = 0 := if_pos (nI_neg h hf)
theorem stp_ge {t f k : Nat} (h : f ≤ t) (ht : t < 2 ^ 31) (hk : 1 ≤ k) (hk2 : k < 2 ^ 31) : stpAt (nI t) (nI f) (nI k) = if (nI t - nI f) - (nI t - nI f) / nI k * nI k = 0 then 1 else 0 := by
  unfold stpAt
  rw [if_neg (by rw [i32sub h]; exact nI_pos (by omega)), if_neg (nI_nle (by omega) hk2)]
/-- what a step of the reference is to the class's -/
theorem tread_rel {I K : Nat → Nat → Int32} {b nw w n t : Nat} {tt : Nat → Nat} {of : Nat → Int32} {s : W5} {x tim het lost : Int32} {ou wt wy sy : Nat → Int32} {pv sv : (Nat → Int32) → Int64} (hr : rWk I b nw tt of s) (hw : w < nw) (ht : tt w ≤ t) (ht2 : t < 1000000) (hn12 : n ≤ 12) (hg : ¬ s.2.2.1 w = 2) (hx : x = if I 179 (6 * b + w) = 0 then fstC (wy w) (sy w) (nI n) else I 177 (6 * b + w) + wy w)
    (h : ((x < 0 ∨ nI n ≤ x ∨ (lost >>> (x &&& 31)) &&& 1 = 1) ∧ K 177 = upd (I 177) (6 * b + w) (-1) ∧ K 178 = upd (I 178) (6 * b + w) (I 178 (6 * b + w) + 1) ∧ K 179 = upd (I 179) (6 * b + w) 2 ∧ K 186 = I 186 ∧ K 187 = I 187) ∨ (∃ c : Nat, c < n ∧ x = nI c ∧ ¬ (lost >>> (nI c &&& 31)) &&& 1 = 1 ∧ K 177 = upd (I 177) (6 * b + w) (nI c) ∧ K 178 = upd (I 178) (6 * b + w) (I 178 (6 * b + w) + 1) ∧ K 179 = upd (I 179) (6 * b + w) 1 ∧ K 186 = upd (I 186) c (I 186 c - frc (pv (nmv (wt w) tim (nI c) (ou c) ((I 178 (6 * b + w) + 1) - (I 178 (6 * b + w) + 1) / 2 * 2) het)) (wt w)) ∧ K 187 = upd (I 187) c (I 187 c + (if (I 178 (6 * b + w) + 1) - (I 178 (6 * b + w) + 1) / 2 * 2 = 1 then frc (sv (nmv (wt w) tim (nI c) (ou c) ((I 178 (6 * b + w) + 1) - (I 178 (6 * b + w) + 1) / 2 * 2) het)) 0 else -frc (sv (nmv (wt w) tim (nI c) (ou c) ((I 178 (6 * b + w) + 1) - (I 178 (6 * b + w) + 1) / 2 * 2) het)) 0)))) :
    rWk K b nw (fun v => if v = w then t + 1 else tt v) of (stF (nI n) tim het lost 0 ou wt wy sy pv sv w s) := by
  obtain ⟨h1, h2, h3⟩ := hr
  obtain ⟨a1, a2, a3, a4⟩ := h1 w hw
  have hcell : cellW (nI n) (wy w) (sy w) (s.1 w) (s.2.1 w + 1) = x := by
    rw [hx, a2]
    unfold cellW
    rcases a4 with ⟨e1, e2⟩ | ⟨e1, k, k1, k2, e2⟩ | e1
    · rw [e1, e2, if_pos (by decide), if_pos rfl]
    · rw [if_neg (show ¬ s.2.2.1 w = 0 by rw [e1]; decide), e2, nI_1, if_neg (fun h => by have := (nI_eq (a := k + 1) (b := 1) (by omega) (by decide)).mp h; omega), a3, if_pos e1]
    · exact absurd e1 hg
  have hk : ∃ k : Nat, k ≤ t ∧ s.2.1 w = nI k := by
    rcases a4 with ⟨e1, e2⟩ | ⟨e1, k, k1, k2, e2⟩ | e1
    · exact ⟨0, by omega, e2⟩
    · exact ⟨k, by omega, e2⟩
    · exact absurd e1 hg
  obtain ⟨k, k1, k2⟩ := hk
  have hft : (I 178 (6 * b + w) + 1) - (I 178 (6 * b + w) + 1) / 2 * 2 = (s.2.1 w + 1) &&& 1 := by rw [a1, k2, nI_1]; exact foot_eq (by omega)
  unfold stF
  rw [hcell]
  rcases h with ⟨hoff, e1, e2, e3, e4, e5⟩ | ⟨c, hc, hxc, hl, e1, e2, e3, e4, e5⟩
  · rw [if_pos hoff]
    refine ⟨fun v hv => ?_, fun c hc => by rw [e4]; exact h2 c hc, fun c hc => by rw [e5]; exact h3 c hc⟩
    rw [e1, e2, e3]
    show wk1 (if v = w then t + 1 else tt v) _ _ _ (s.1 v) (upd s.2.1 w (s.2.1 w + 1) v) (upd s.2.2.1 w 2 v)
    by_cases hvw : v = w
    · subst hvw
      rw [pk_us, pk_us, pk_us, pk_us, pk_us]
      exact ⟨by rw [a1], rfl, rfl, Or.inr (Or.inr rfl)⟩
    · rw [pk_un (show 6 * b + v ≠ 6 * b + w by omega), pk_un (show 6 * b + v ≠ 6 * b + w by omega), pk_un (show 6 * b + v ≠ 6 * b + w by omega), pk_un hvw, pk_un hvw, if_neg hvw]
      exact h1 v hv
  · have hno : ¬ (x < 0 ∨ nI n ≤ x ∨ (lost >>> (x &&& 31)) &&& 1 = 1) := by
      rw [hxc]
      rintro (q | q | q)
      · exact nI_pos (by omega) q
      · exact nI_ge hc (by omega) q
      · exact hl q
    rw [if_neg hno, hxc, nI_clamp (by omega)]
    rw [hft] at e4 e5
    refine ⟨fun v hv => ?_, fun d hd => ?_, fun d hd => ?_⟩
    · rw [e1, e2, e3]
      show wk1 (if v = w then t + 1 else tt v) _ _ _ (upd s.1 w (nI c) v) (upd s.2.1 w (s.2.1 w + 1) v) (upd s.2.2.1 w 1 v)
      by_cases hvw : v = w
      · subst hvw
        rw [pk_us, pk_us, pk_us, pk_us, pk_us, pk_us, if_pos rfl]
        exact ⟨by rw [a1], rfl, rfl, Or.inr (Or.inl ⟨rfl, k + 1, by omega, by omega, by rw [k2, nI_1]⟩)⟩
      · rw [pk_un (show 6 * b + v ≠ 6 * b + w by omega), pk_un (show 6 * b + v ≠ 6 * b + w by omega), pk_un (show 6 * b + v ≠ 6 * b + w by omega), pk_un hvw, pk_un hvw, pk_un hvw, if_neg hvw]
        exact h1 v hv
    · rw [e4]
      show upd (I 186) c _ d = upd s.2.2.2.1 c _ d + of d
      by_cases hdc : d = c
      · subst hdc
        rw [pk_us, pk_us, h2 d hd, Int32.sub_eq_add_neg, Int32.sub_eq_add_neg, Int32.add_assoc, Int32.add_comm (of d), Int32.add_assoc]
      · rw [pk_un hdc, pk_un hdc]; exact h2 d hd
    · rw [e5]
      show upd (I 187) c _ d = upd s.2.2.2.2 c _ d
      by_cases hdc : d = c
      · subst hdc
        rw [pk_us, pk_us, h3 d hd]
      · rw [pk_un hdc, pk_un hdc]; exact h3 d hd
/-- what lies outside the bridge's own walkers is as it was -/
def bk6 (M K : Mm) (b : Nat) : Prop := ∀ a, a = 177 ∨ a = 178 ∨ a = 179 → ∀ j, (j < 6 * b ∨ 6 * b + 6 ≤ j) → K.1 a j = M.1 a j
theorem bk6.rf {M : Mm} {b : Nat} : bk6 M M b := fun _ _ _ _ => rfl
theorem bk6.tr {M N K : Mm} {b : Nat} (h : bk6 M N b) (g : bk6 N K b) : bk6 M K b := fun a ha j hj => (g a ha j hj).trans (h a ha j hj)
theorem bk6.of {M K : Mm} {b w : Nat} {x y z : Int32} (hw : w < 6) (e1 : K.1 177 = upd (M.1 177) (6 * b + w) x) (e2 : K.1 178 = upd (M.1 178) (6 * b + w) y) (e3 : K.1 179 = upd (M.1 179) (6 * b + w) z) : bk6 M K b := by
  intro a ha j hj
  rcases ha with rfl | rfl | rfl
  · rw [e1]; exact pk_un (by omega)
  · rw [e2]; exact pk_un (by omega)
  · rw [e3]; exact pk_un (by omega)
theorem tX12_walks {G : Gx} {l : Launch} {ly : Ly} {M : Mm} {b n nw t kp szp fp szs fs : Nat} {het : Int32} {of wt bt fr wy sy : Nat → Int32} {pv sv : (Nat → Int32) → Int64} {kpn ksn : Nat → Int32} {s : W5} (hb : b < 24) (hn : M.1 151 0 = nI n) (hn12 : n ≤ 12) (hkp : M.1 149 56 = nI kp) (hkp5 : kp < 10) (hlp : lwR M.1 kp kpn szp fp) (hls : lwR M.1 1 ksn szs fs) (hE : eW M.1 nw wt bt fr wy sy) (htm : M.1 169 b = nI t) (ht2 : t < 1000000) (hpv : ∀ m, pv m = valL m kpn szp) (hsv : ∀ m, frc (sv m) 0 = if M.1 149 55 = 5 then 0 else frc (valL m ksn szs) 0) (hhet : htR (M.1 149 55) (M.1 151 4) = het) (hr : rWk M.1 b nw (fun _ => t) of s) (hR : RW ly M.2.2) {Q : Qt} (hQ : ∀ K : Mm, tdF M K → bk6 M K b → rWk K.1 b nw (fun _ => t + 1) of (itF (wkG (nI n) (nI t) het (M.1 172 b) 0 (sh (12 * b) (M.1 173)) wt bt fr wy sy pv sv) nw s) → Q none ly K) : Mt G l mX12_walks (6, 0, 0, false) [.ref 149, .int (nI b)] ly M Q := by
  obtain ⟨hE1, hE6, hE2⟩ := hE
  refine Mt.of (lv := [some (.ref 149), some (.int (nI b)), none, none]) rfl ?_
  refine Rn.iconstv (v := 0) dX12_walks_0 ic_0 ?_
  refine Rn.istore_n (lv' := [some (.ref 149), some (.int (nI b)), some (.int 0), none]) dX12_walks_1 (by decide) rfl ?_
  have loop : ∀ (k i : Nat) (N : Mm), i + k = nw → tdF M N → bk6 M N b → rWk N.1 b nw (fun v => if v < i then t + 1 else t) of (itF (wkG (nI n) (nI t) het (M.1 172 b) 0 (sh (12 * b) (M.1 173)) wt bt fr wy sy pv sv) i s) → Rn G l mX12_walks (6, 0, 0, false) 2 [some (.ref 149), some (.int (nI b)), some (.int (nI i)), none] [] ly N Q := by
    intro k
    induction k with
    | zero =>
      intro i N hi hF hB hr
      have hRN : RW ly N.2.2 := by rw [hF.1]; exact hR
      have eN : ∀ a, a ≠ 149 → a ≠ 177 → a ≠ 178 → a ≠ 179 → a ≠ 186 → a ≠ 187 → N.1 a = M.1 a := hF.2.1
      refine Rn.iload_n dX12_walks_2 rfl ?_
      refine Rn.aload_n dX12_walks_3 rfl ?_
      refine Rn.getR dX12_walks_4 fX12_15 rfl (rc149 hRN) (show N.2.2 149 3 = some 151 from (rpt3 hRN)) ?_
      refine Rn.bipushv (v := 6) dX12_walks_7 bp_6 ?_
      refine Rn.iald dX12_walks_9 (rc151 hRN) (by unfold vp_in; decide) ?_
      refine Rn.topI (y := N.1 151 6) (rfl) ?_
      refine Rn.topI (y := nI nw) ((congrFun (eN 151 (by decide) (by decide) (by decide) (by decide) (by decide) (by decide)) 6).trans hE1) ?_
      refine Rn.icmp_ge dX12_walks_10 (fun hc => ?_) (fun hc => ?_)
      · skip
        have e0 : i = nw := by omega
        subst e0
        exact Rn.vret dX12_walks_134 rfl (hQ N hF hB ⟨fun w hw => (hr.1 w hw).up (by show (if w < i then t + 1 else t) ≤ t + 1; split <;> omega), hr.2⟩)
      · skip
        exact absurd (nI_le (a := nw) (b := i) (by omega) (by omega)) hc
    | succ k ih =>
      intro i N hi hF hB hr
      have hRN : RW ly N.2.2 := by rw [hF.1]; exact hR
      have eN : ∀ a, a ≠ 149 → a ≠ 177 → a ≠ 178 → a ≠ 179 → a ≠ 186 → a ≠ 187 → N.1 a = M.1 a := hF.2.1
      refine Rn.iload_n dX12_walks_2 rfl ?_
      refine Rn.aload_n dX12_walks_3 rfl ?_
      refine Rn.getR dX12_walks_4 fX12_15 rfl (rc149 hRN) (show N.2.2 149 3 = some 151 from (rpt3 hRN)) ?_
      refine Rn.bipushv (v := 6) dX12_walks_7 bp_6 ?_
      refine Rn.iald dX12_walks_9 (rc151 hRN) (by unfold vp_in; decide) ?_
      refine Rn.topI (y := N.1 151 6) (rfl) ?_
      refine Rn.topI (y := nI nw) ((congrFun (eN 151 (by decide) (by decide) (by decide) (by decide) (by decide) (by decide)) 6).trans hE1) ?_
      refine Rn.icmp_ge dX12_walks_10 (fun hc => ?_) (fun hc => ?_)
      · skip
        exact absurd hc (nI_ge (a := i) (b := nw) (by omega) (by omega))
      · skip
        obtain ⟨g1, g2, g3, g4, g5, ⟨bk, b1, b2, b3⟩, ⟨ff, f1, f2⟩⟩ := hE2 i (by omega)
        obtain ⟨sN, hsN⟩ : ∃ sN : W5, sN = itF (wkG (nI n) (nI t) het (M.1 172 b) 0 (sh (12 * b) (M.1 173)) wt bt fr wy sy pv sv) i s := ⟨_, rfl⟩
        have hg : itF (wkG (nI n) (nI t) het (M.1 172 b) 0 (sh (12 * b) (M.1 173)) wt bt fr wy sy pv sv) (i + 1) s = wkG (nI n) (nI t) het (M.1 172 b) 0 (sh (12 * b) (M.1 173)) wt bt fr wy sy pv sv i sN := by rw [hsN]; rfl
        rw [← hsN] at hr
        have hiw : i < nw := by omega
        have hwi := hr.1 i hiw
        refine Rn.bipushv (v := 6) dX12_walks_13 bp_6 ?_
        refine Rn.iload_n dX12_walks_15 rfl ?_
        refine Rn.imul dX12_walks_16 ?_
        refine Rn.topI (y := nI (6 * b)) (nI_mul 6 b) ?_
        refine Rn.iload_n dX12_walks_17 rfl ?_
        refine Rn.iadd dX12_walks_18 ?_
        refine Rn.topI (y := nI (6 * b + i)) (nI_add (6 * b) i) ?_
        refine Rn.istore_n (lv' := [some (.ref 149), some (.int (nI b)), some (.int (nI i)), some (.int (nI (6 * b + i)))]) dX12_walks_19 (by decide) rfl ?_
        refine Rn.aload_n dX12_walks_20 rfl ?_
        refine Rn.getR dX12_walks_21 fX12_104 rfl (rc149 hRN) (show N.2.2 149 45 = some 179 from (rpt45 hRN)) ?_
        refine Rn.iload_n dX12_walks_24 rfl ?_
        refine Rn.ialdN (k0 := (6 * b + i)) dX12_walks_25 (rc179 hRN) (by omega) (by decide) ?_
        refine Rn.iconstv (v := 2) dX12_walks_26 ic_2 ?_
        refine Rn.icmp_eq dX12_walks_27 (fun x1 => ?_) (fun x1 => ?_)
        · skip
          refine Rn.iincN (lv' := [some (.ref 149), some (.int (nI b)), some (.int (nI (i + 1))), some (.int (nI (6 * b + i)))]) dX12_walks_128 rfl (by decide) rfl ?_
          refine Rn.goto dX12_walks_131 ?_
          refine Rn.forget (lv' := [some (.ref 149), some (.int (nI b)), some (.int (nI (i + 1))), none]) (⟨rfl, ⟨rfl, ⟨rfl, trivial⟩⟩⟩) ?_
          exact ih (i + 1) N (by omega) hF hB (by rw [hg, wkG_a (hwi.2.1.symm.trans x1)]; exact ⟨fun w hw => (hr.1 w hw).up (by show (if w < i then t + 1 else t) ≤ (if w < i + 1 then t + 1 else t); split <;> split <;> omega), hr.2⟩)
        · skip
          have hns : ¬ sN.2.2.1 i = 2 := fun h => x1 (hwi.2.1.trans h)
          refine Rn.aload_n dX12_walks_30 rfl ?_
          refine Rn.getR dX12_walks_31 fX12_73 rfl (rc149 hRN) (show N.2.2 149 35 = some 169 from (rpt35 hRN)) ?_
          refine Rn.iload_n dX12_walks_34 rfl ?_
          refine Rn.ialdN (k0 := b) dX12_walks_35 (rc169 hRN) (by omega) (by decide) ?_
          refine Rn.topI (y := nI t) ((congrFun (eN 169 (by decide) (by decide) (by decide) (by decide) (by decide) (by decide)) b).trans htm) ?_
          refine Rn.aload_n dX12_walks_36 rfl ?_
          refine Rn.getR dX12_walks_37 fX12_27 rfl (rc149 hRN) (show N.2.2 149 7 = some 155 from (rpt7 hRN)) ?_
          refine Rn.iload_n dX12_walks_40 rfl ?_
          refine Rn.ialdN (k0 := i) dX12_walks_41 (rc155 hRN) (by omega) (by decide) ?_
          refine Rn.topI (y := nI ff) ((congrFun (eN 155 (by decide) (by decide) (by decide) (by decide) (by decide) (by decide)) i).trans (g3.trans f2)) ?_
          refine Rn.icmp_lt dX12_walks_42 (fun x2 => ?_) (fun x2 => ?_)
          · skip
            refine Rn.iincN (lv' := [some (.ref 149), some (.int (nI b)), some (.int (nI (i + 1))), some (.int (nI (6 * b + i)))]) dX12_walks_128 rfl (by decide) rfl ?_
            refine Rn.goto dX12_walks_131 ?_
            refine Rn.forget (lv' := [some (.ref 149), some (.int (nI b)), some (.int (nI (i + 1))), none]) (⟨rfl, ⟨rfl, ⟨rfl, trivial⟩⟩⟩) ?_
            exact ih (i + 1) N (by omega) hF hB (by rw [hg, wkG_b hns (by rw [f2]; exact stp_lt ((nI_ltI (by omega) (by omega)).mp x2) (by omega))]; exact ⟨fun w hw => (hr.1 w hw).up (by show (if w < i then t + 1 else t) ≤ (if w < i + 1 then t + 1 else t); split <;> split <;> omega), hr.2⟩)
          · skip
            have hft : ff ≤ t := Nat.le_of_not_lt (fun h => x2 (nI_lt h (by omega)))
            refine Rn.aload_n dX12_walks_45 rfl ?_
            refine Rn.getR dX12_walks_46 fX12_73 rfl (rc149 hRN) (show N.2.2 149 35 = some 169 from (rpt35 hRN)) ?_
            refine Rn.iload_n dX12_walks_49 rfl ?_
            refine Rn.ialdN (k0 := b) dX12_walks_50 (rc169 hRN) (by omega) (by decide) ?_
            refine Rn.topI (y := nI t) ((congrFun (eN 169 (by decide) (by decide) (by decide) (by decide) (by decide) (by decide)) b).trans htm) ?_
            refine Rn.aload_n dX12_walks_51 rfl ?_
            refine Rn.getR dX12_walks_52 fX12_27 rfl (rc149 hRN) (show N.2.2 149 7 = some 155 from (rpt7 hRN)) ?_
            refine Rn.iload_n dX12_walks_55 rfl ?_
            refine Rn.ialdN (k0 := i) dX12_walks_56 (rc155 hRN) (by omega) (by decide) ?_
            refine Rn.topI (y := nI ff) ((congrFun (eN 155 (by decide) (by decide) (by decide) (by decide) (by decide) (by decide)) i).trans (g3.trans f2)) ?_
            refine Rn.isub dX12_walks_57 ?_
            refine Rn.aload_n dX12_walks_58 rfl ?_
            refine Rn.getR dX12_walks_59 fX12_24 rfl (rc149 hRN) (show N.2.2 149 6 = some 154 from (rpt6 hRN)) ?_
            refine Rn.iload_n dX12_walks_62 rfl ?_
            refine Rn.ialdN (k0 := i) dX12_walks_63 (rc154 hRN) (by omega) (by decide) ?_
            refine Rn.topI (y := nI bk) ((congrFun (eN 154 (by decide) (by decide) (by decide) (by decide) (by decide) (by decide)) i).trans (g2.trans b3)) ?_
            refine Rn.irem dX12_walks_64 (nI_ne0 (by omega) (by omega)) ?_
            refine Rn.if_eq dX12_walks_65 (fun x3 => ?_) (fun x3 => ?_)
            · skip
              have hst : ¬ stpAt (nI t) (fr i) (bt i) = 0 := by rw [f2, b3, stp_ge hft (by omega) b1 (by omega), if_pos x3]; decide
              refine Rn.aload_n dX12_walks_71 rfl ?_
              refine Rn.iload_n dX12_walks_72 rfl ?_
              refine Rn.iload_n dX12_walks_73 rfl ?_
              refine Rn.aload_n dX12_walks_74 rfl ?_
              refine Rn.getR dX12_walks_75 fX12_30 rfl (rc149 hRN) (show N.2.2 149 8 = some 156 from (rpt8 hRN)) ?_
              refine Rn.iload_n dX12_walks_78 rfl ?_
              refine Rn.ialdN (k0 := i) dX12_walks_79 (rc156 hRN) (by omega) (by decide) ?_
              refine Rn.topI (y := wy i) ((congrFun (eN 156 (by decide) (by decide) (by decide) (by decide) (by decide) (by decide)) i).trans (g4)) ?_
              refine Rn.aload_n dX12_walks_80 rfl ?_
              refine Rn.getR dX12_walks_81 fX12_30 rfl (rc149 hRN) (show N.2.2 149 8 = some 156 from (rpt8 hRN)) ?_
              refine Rn.iload_n dX12_walks_84 rfl ?_
              refine Rn.ialdN (k0 := i) dX12_walks_85 (rc156 hRN) (by omega) (by decide) ?_
              refine Rn.topI (y := wy i) ((congrFun (eN 156 (by decide) (by decide) (by decide) (by decide) (by decide) (by decide)) i).trans (g4)) ?_
              have join : Rn G l mX12_walks (6, 0, 0, false) 119 [some (.ref 149), some (.int (nI b)), some (.int (nI i)), some (.int (nI (6 * b + i)))] [.int (fstC (wy i) (sy i) (nI n)), .int (wy i), .int (nI (6 * b + i)), .int (nI b), .ref 149] ly N Q := by
                refine Rn.aload_n dX12_walks_119 rfl ?_
                refine Rn.getR dX12_walks_120 fX12_21 rfl (rc149 hRN) (show N.2.2 149 5 = some 153 from (rpt5 hRN)) ?_
                refine Rn.iload_n dX12_walks_123 rfl ?_
                refine Rn.ialdN (k0 := i) dX12_walks_124 (rc153 hRN) (by omega) (by decide) ?_
                refine Rn.topI (y := wt i) ((congrFun (eN 153 (by decide) (by decide) (by decide) (by decide) (by decide) (by decide)) i).trans (g1)) ?_
                obtain ⟨x, hx⟩ : ∃ x : Int32, x = if N.1 179 (6 * b + i) = 0 then fstC (wy i) (sy i) (nI n) else N.1 177 (6 * b + i) + wy i := ⟨_, rfl⟩
                have htr : ∀ K : Mm, _ → _ := fun K h => tread_rel (K := K.1) (tim := nI t) (het := het) (lost := M.1 172 b) (ou := sh (12 * b) (M.1 173)) (wt := wt) (pv := pv) (sv := sv) hr hiw (t := t) (by show (if i < i then t + 1 else t) ≤ t; rw [if_neg (Nat.lt_irrefl i)]; exact Nat.le_refl t) ht2 hn12 hns hx h
                refine Rn.callV5 dX12_walks_125 vX12_399 (rc149 hRN) (by decide) rfl (tX12_treads (M := N) (x := x) (b := b) (i := 6 * b + i) (n := n) (kp := kp) (Q := fun v0 ly0 K => v0 = none ∧ ly0 = ly ∧ tdF N K ∧ bk6 N K b ∧ rWk K.1 b nw (fun v => if v = i then t + 1 else if v < i then t + 1 else t) of (stF (nI n) (nI t) het (M.1 172 b) 0 (sh (12 * b) (M.1 173)) wt wy sy pv sv i sN)) hb (by omega) ((congrFun (eN 151 (by decide) (by decide) (by decide) (by decide) (by decide) (by decide)) 0).trans hn) hn12 ((hF.2.2 56 (by decide)).trans hkp) hkp5 (hlp.mv (fun a h => eN a (by omega) (by omega) (by omega) (by omega) (by omega) (by omega))) (hls.mv (fun a h => eN a (by omega) (by omega) (by omega) (by omega) (by omega) (by omega))) hx hRN ⟨fun h K k1 k2 k3 k4 k5 k6 => ⟨rfl, rfl, k1, bk6.of (by omega) k2 k3 k4, htr K (Or.inl ⟨by rw [congrFun (eN 172 (by decide) (by decide) (by decide) (by decide) (by decide) (by decide)) b] at h; exact h, k2, k3, k4, k5, k6⟩)⟩, fun c hc hxc hl K k1 k2 k3 k4 k5 k6 => ⟨rfl, rfl, k1, bk6.of (by omega) k2 k3 k4, htr K (Or.inr ⟨c, hc, hxc, by rw [congrFun (eN 172 (by decide) (by decide) (by decide) (by decide) (by decide) (by decide)) b] at hl; exact hl, k2, k3, k4, by rw [k5, congrFun (eN 169 (by decide) (by decide) (by decide) (by decide) (by decide) (by decide)) b, htm, congrFun (eN 173 (by decide) (by decide) (by decide) (by decide) (by decide) (by decide)) (12 * b + c), hF.2.2 55 (by decide), congrFun (eN 151 (by decide) (by decide) (by decide) (by decide) (by decide) (by decide)) 4, hhet, hpv]; rfl, by rw [k6, congrFun (eN 169 (by decide) (by decide) (by decide) (by decide) (by decide) (by decide)) b, htm, congrFun (eN 173 (by decide) (by decide) (by decide) (by decide) (by decide) (by decide)) (12 * b + c), hF.2.2 55 (by decide), congrFun (eN 151 (by decide) (by decide) (by decide) (by decide) (by decide) (by decide)) 4, hhet, hsv]; rfl⟩)⟩⟩) (by decide) ⟨(Nat.le_of_ble_eq_true rfl), (Nat.le_of_ble_eq_true rfl), (Nat.le_of_ble_eq_true rfl)⟩ (fun h => by cases h) (fun v1 ly1 N2 ⟨q1, q2, hF2, hB2, hr2⟩ => ?_)
                rw [q1, q2]
                refine Rn.iincN (lv' := [some (.ref 149), some (.int (nI b)), some (.int (nI (i + 1))), some (.int (nI (6 * b + i)))]) dX12_walks_128 rfl (by decide) rfl ?_
                refine Rn.goto dX12_walks_131 ?_
                refine Rn.forget (lv' := [some (.ref 149), some (.int (nI b)), some (.int (nI (i + 1))), none]) (⟨rfl, ⟨rfl, ⟨rfl, trivial⟩⟩⟩) ?_
                exact ih (i + 1) N2 (by omega) (hF.tr hF2) (hB.tr hB2) (by rw [hg, wkG_c hns hst]; exact ⟨fun w hw => (hr2.1 w hw).up (by show (if w = i then t + 1 else if w < i then t + 1 else t) ≤ (if w < i + 1 then t + 1 else t); split <;> split <;> (try split) <;> omega), hr2.2⟩)
              refine Rn.if_le dX12_walks_86 (fun y1 => ?_) (fun y1 => ?_)
              · skip
                refine Rn.aload_n dX12_walks_93 rfl ?_
                refine Rn.getR dX12_walks_94 fX12_30 rfl (rc149 hRN) (show N.2.2 149 8 = some 156 from (rpt8 hRN)) ?_
                refine Rn.iload_n dX12_walks_97 rfl ?_
                refine Rn.ialdN (k0 := i) dX12_walks_98 (rc156 hRN) (by omega) (by decide) ?_
                refine Rn.topI (y := wy i) ((congrFun (eN 156 (by decide) (by decide) (by decide) (by decide) (by decide) (by decide)) i).trans (g4)) ?_
                refine Rn.if_ge dX12_walks_99 (fun y2 => ?_) (fun y2 => ?_)
                · skip
                  refine Rn.aload_n dX12_walks_113 rfl ?_
                  refine Rn.getR dX12_walks_114 fX12_33 rfl (rc149 hRN) (show N.2.2 149 9 = some 157 from (rpt9 hRN)) ?_
                  refine Rn.iload_n dX12_walks_117 rfl ?_
                  refine Rn.ialdN (k0 := i) dX12_walks_118 (rc157 hRN) (by omega) (by decide) ?_
                  refine Rn.topI (y := fstC (wy i) (sy i) (nI n)) (by unfold fstC; rw [if_pos (Int32.le_antisymm y1 y2)]; exact (congrFun (eN 157 (by decide) (by decide) (by decide) (by decide) (by decide) (by decide)) i).trans (g5 (Int32.le_antisymm y1 y2))) ?_
                  exact join
                · skip
                  refine Rn.aload_n dX12_walks_102 rfl ?_
                  refine Rn.getR dX12_walks_103 fX12_15 rfl (rc149 hRN) (show N.2.2 149 3 = some 151 from (rpt3 hRN)) ?_
                  refine Rn.iconstv (v := 0) dX12_walks_106 ic_0 ?_
                  refine Rn.iald dX12_walks_107 (rc151 hRN) (by unfold vp_in; decide) ?_
                  refine Rn.topI (y := N.1 151 0) (rfl) ?_
                  refine Rn.topI (y := nI n) ((congrFun (eN 151 (by decide) (by decide) (by decide) (by decide) (by decide) (by decide)) 0).trans hn) ?_
                  refine Rn.iconstv (v := 1) dX12_walks_108 ic_1 ?_
                  refine Rn.isub dX12_walks_109 ?_
                  refine Rn.goto dX12_walks_110 ?_
                  refine Rn.topI (y := fstC (wy i) (sy i) (nI n)) (by unfold fstC; rw [if_neg (fun h => y2 (by rw [h]; decide)), if_pos y1]) ?_
                  exact join
              · skip
                refine Rn.iconstv (v := 0) dX12_walks_89 ic_0 ?_
                refine Rn.goto dX12_walks_90 ?_
                refine Rn.topI (y := fstC (wy i) (sy i) (nI n)) (by unfold fstC; rw [if_neg (fun h => y1 (by rw [h]; decide)), if_neg y1]) ?_
                exact join
            · skip
              refine Rn.goto dX12_walks_68 ?_
              refine Rn.iincN (lv' := [some (.ref 149), some (.int (nI b)), some (.int (nI (i + 1))), some (.int (nI (6 * b + i)))]) dX12_walks_128 rfl (by decide) rfl ?_
              refine Rn.goto dX12_walks_131 ?_
              refine Rn.forget (lv' := [some (.ref 149), some (.int (nI b)), some (.int (nI (i + 1))), none]) (⟨rfl, ⟨rfl, ⟨rfl, trivial⟩⟩⟩) ?_
              exact ih (i + 1) N (by omega) hF hB (by rw [hg, wkG_b hns (by rw [f2, b3, stp_ge hft (by omega) b1 (by omega), if_neg x3])]; exact ⟨fun w hw => (hr.1 w hw).up (by show (if w < i then t + 1 else t) ≤ (if w < i + 1 then t + 1 else t); split <;> split <;> omega), hr.2⟩)
  exact loop nw 0 M (by omega) tdF.rf bk6.rf ⟨fun w hw => (hr.1 w hw).up (by show t ≤ (if w < 0 then t + 1 else t); rw [if_neg (by omega)]; exact Nat.le_refl t), hr.2⟩
