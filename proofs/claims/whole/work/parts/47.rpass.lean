theorem nxR_eq (c : Int32) : nxR c = nxt c := by
  unfold nxR nxt
  have e : (BitVec.signExtend 64 c.toBitVec).setWidth 32 = c.toBitVec := by
    apply BitVec.eq_of_getLsbD_eq
    intro i hi
    rw [BitVec.getLsbD_setWidth, BitVec.getLsbD_signExtend]
    have h1 : i < 32 := hi
    have h2 : i < 64 := by omega
    simp [h1, h2]
  rw [← Int32.toBitVec_inj, Int64.toBitVec_toInt32, BitVec.signExtend_eq_setWidth_of_le _ (by decide), Int64.toBitVec_and, Int64.toBitVec_add, Int64.toBitVec_mul, Int32.toBitVec_toInt64, BitVec.setWidth_and, BitVec.setWidth_add _ _ (by decide), BitVec.setWidth_mul _ _ (by decide), Int32.toBitVec_and, Int32.toBitVec_add, Int32.toBitVec_mul, e]
  rfl
theorem nxR_nat (c : Int32) : ∃ j : Nat, j < 2 ^ 31 ∧ nxR c = nI j := by
  refine ⟨(nxR c).toBitVec.toNat, ?_, ?_⟩
  · unfold nxR
    rw [Int32.toBitVec_and, BitVec.toNat_and]
    exact Nat.lt_of_le_of_lt Nat.and_le_right (by decide)
  · rw [← Int32.toBitVec_inj]
    show _ = BitVec.ofNat 32 _
    rw [BitVec.ofNat_toNat, BitVec.setWidth_eq]
theorem i32shr16 {j : Nat} (h : j < 2 ^ 31) : nI j >>> (16 &&& 31) = nI j / 65536 := by
  have e : nI j / 65536 = nI (j / 65536) := i32div (b := 65536) h (by decide)
  rw [e, ← Int32.toInt_inj, nI_toInt (by omega)]
  show ((nI j).toBitVec.sshiftRight 16).toInt = _
  rw [BitVec.toInt_sshiftRight]
  show (nI j).toInt >>> 16 = _
  rw [nI_toInt h, Int.shiftRight_eq_div_pow]
  rfl
theorem drw_eq (c g : Int32) : drR (nxR c) (2 * g + 1) - g = gus (nxt c) g := by
  obtain ⟨j, hj, e⟩ := nxR_nat c
  unfold drR gus
  rw [← nxR_eq, e, i32shr16 hj]
/-- the bridge b is the class's scene s; t is its time -/
def rAl (I : Nat → Nat → Int32) (b nw t : Nat) (s : Sc) : Prop := eqN 12 (sh (12 * b) (I 173)) s.1 ∧ eqN 12 (sh (12 * b) (I 174)) s.2.1 ∧ eqN 12 (sh (12 * b) (I 175)) s.2.2.1 ∧ eqN 12 (sh (12 * b) (I 176)) s.2.2.2.1 ∧ (∀ w, w < nw → wk1 t (I 177 (6 * b + w)) (I 178 (6 * b + w)) (I 179 (6 * b + w)) (s.2.2.2.2.1.1 w) (s.2.2.2.2.1.2.1 w) (s.2.2.2.2.1.2.2.1 w)) ∧ I 172 b = s.2.2.2.2.2.1 ∧ (I 169 b = nI t ∧ s.2.2.2.2.2.2.1 = nI t) ∧ I 170 b = s.2.2.2.2.2.2.2 ∧ (∀ c, c < 12 → s.2.2.2.2.1.2.2.2.1 c = 0) ∧ (∀ c, c < 12 → s.2.2.2.2.1.2.2.2.2 c = 0)
/-- only the bridge b, and what is scratch, has changed -/
def psF (M K : Mm) (b : Nat) : Prop := K.2.2 = M.2.2 ∧ (∀ a, a ≠ 149 → a ≠ 169 → a ≠ 170 → (a < 172 ∨ 179 < a) → (a < 186 ∨ 188 < a) → K.1 a = M.1 a) ∧ (∀ j, j ≠ 54 → K.1 149 j = M.1 149 j) ∧ (∀ a, a = 169 ∨ a = 170 ∨ a = 172 → ∀ j, j ≠ b → K.1 a j = M.1 a j) ∧ (∀ a, 173 ≤ a ∧ a ≤ 176 → ∀ j, (j < 12 * b ∨ 12 * b + 12 ≤ j) → K.1 a j = M.1 a j) ∧ (∀ a, 177 ≤ a ∧ a ≤ 179 → ∀ j, (j < 6 * b ∨ 6 * b + 6 ≤ j) → K.1 a j = M.1 a j)
theorem psF.rf {M : Mm} {b : Nat} : psF M M b := ⟨rfl, fun _ _ _ _ _ _ => rfl, fun _ _ => rfl, fun _ _ _ _ => rfl, fun _ _ _ _ => rfl, fun _ _ _ _ => rfl⟩
theorem psF.tr {M N K : Mm} {b : Nat} (h : psF M N b) (g : psF N K b) : psF M K b := ⟨g.1.trans h.1, fun a a1 a2 a3 a4 a5 => (g.2.1 a a1 a2 a3 a4 a5).trans (h.2.1 a a1 a2 a3 a4 a5), fun j a => (g.2.2.1 j a).trans (h.2.2.1 j a), fun a h1 j h2 => (g.2.2.2.1 a h1 j h2).trans (h.2.2.2.1 a h1 j h2), fun a h1 j h2 => (g.2.2.2.2.1 a h1 j h2).trans (h.2.2.2.2.1 a h1 j h2), fun a h1 j h2 => (g.2.2.2.2.2 a h1 j h2).trans (h.2.2.2.2.2 a h1 j h2)⟩
theorem psF.at {M K : Mm} {b : Nat} (h : psF M K b) (a : Nat) (ha : a ≠ 149 ∧ a ≠ 169 ∧ a ≠ 170 ∧ (a < 172 ∨ 179 < a) ∧ (a < 186 ∨ 188 < a)) : K.1 a = M.1 a := h.2.1 a ha.1 ha.2.1 ha.2.2.1 ha.2.2.2.1 ha.2.2.2.2
/-- who walks: all who are told, or one alone -/
def mdW (I : Nat → Nat → Int32) (nw : Nat) (wt bt fr wy sy : Nat → Int32) : Prop := (I 149 62 = 0 ∧ eW I nw wt bt fr wy sy) ∨ (∃ sb : Nat, 1 ≤ sb ∧ sb ≤ 9 ∧ I 149 62 = nI sb ∧ nw = 1 ∧ I 149 61 = wt 0 ∧ bt 0 = nI sb ∧ fr 0 = 0 ∧ wy 0 = 1)
/-- boys push -/
def pmOk (I : Nat → Nat → Int32) (b n : Nat) (of : Nat → Int32) : Prop := (I 149 57 = -1 ∧ ∀ c, c < 12 → of c = 0) ∨ (∃ q : Nat, q < n ∧ I 149 57 = nI q ∧ ∀ c, c < 12 → of c = if c = q then (if (I 149 59 >>> ((I 169 b - I 149 60) &&& 31)) &&& 1 = 1 then I 149 58 else 0) else 0)
/-- all by which a time of the reference's bridge b goes -/
def EV (I : Nat → Nat → Int32) (b n nw : Nat) (su ss hd gl het bl : Int32) (ca wt bt fr wy sy : Nat → Int32) (pv sv : (Nat → Int32) → Int64) : Prop := (I 151 0 = nI n ∧ n ≤ 12) ∧ (I 151 1 = su ∧ I 151 2 = ss ∧ I 151 5 = hd ∧ I 151 10 = gl ∧ ¬ 2 * gl + 1 = 0) ∧ htR (I 149 55) (I 151 4) = het ∧ I 171 b = bl ∧ cmOk I b n ca ∧ mdW I nw wt bt fr wy sy ∧ ∃ (kp szp fp szs fs : Nat) (kpn ksn : Nat → Int32), I 149 56 = nI kp ∧ kp < 10 ∧ lwR I kp kpn szp fp ∧ lwR I 1 ksn szs fs ∧ (∀ m, pv m = valL m kpn szp) ∧ (∀ m, frc (sv m) 0 = if I 149 55 = 5 then 0 else frc (valL m ksn szs) 0)
theorem eW.mv {I J : Nat → Nat → Int32} {nw : Nat} {wt bt fr wy sy : Nat → Int32} (h : eW I nw wt bt fr wy sy) (e : ∀ a, 151 ≤ a ∧ a ≤ 157 → J a = I a) : eW J nw wt bt fr wy sy := by
  unfold eW
  rw [e 151 (by omega), e 153 (by omega), e 154 (by omega), e 155 (by omega), e 156 (by omega), e 157 (by omega)]
  exact h
theorem EV.mv {M K : Mm} {b b2 n nw : Nat} {su ss hd gl het bl : Int32} {ca wt bt fr wy sy : Nat → Int32} {pv sv : (Nat → Int32) → Int64} (h : EV M.1 b n nw su ss hd gl het bl ca wt bt fr wy sy pv sv) (f : psF M K b2) : EV K.1 b n nw su ss hd gl het bl ca wt bt fr wy sy pv sv := by
  obtain ⟨h1, h2, h3, h4, h5, h6, kp, szp, fp, szs, fs, kpn, ksn, h7, h8, h9, h10, h11, h12⟩ := h
  have e := fun a ha => f.at a ha
  have g := f.2.2.1
  refine ⟨by rw [e 151 (by omega)]; exact h1, by rw [e 151 (by omega)]; exact h2, by rw [g 55 (by decide), e 151 (by omega)]; exact h3, by rw [e 171 (by omega)]; exact h4, h5.mv (g 55 (by decide)) (e 151 (by omega)) (e 180 (by omega)) (e 181 (by omega)) (e 182 (by omega)), ?_, kp, szp, fp, szs, fs, kpn, ksn, (g 56 (by decide)).trans h7, h8, h9.mv (fun a ha => e a (by omega)), h10.mv (fun a ha => e a (by omega)), h11, fun m => by rw [g 55 (by decide)]; exact h12 m⟩
  rcases h6 with ⟨a1, a2⟩ | ⟨sb, a1, a2, a3, a4, a5, a6⟩
  · exact Or.inl ⟨(g 62 (by decide)).trans a1, a2.mv (fun a ha => e a (by omega))⟩
  · exact Or.inr ⟨sb, a1, a2, (g 62 (by decide)).trans a3, a4, (g 61 (by decide)).trans a5, a6⟩
theorem psF.of_td {M K : Mm} {b : Nat} (h : tdF M K) (g : bk6 M K b) : psF M K b := by
  refine ⟨h.1, fun a a1 a2 a3 a4 a5 => h.2.1 a a1 (by omega) (by omega) (by omega) (by omega) (by omega), h.2.2, fun a ha j _ => ?_, fun a ha j _ => ?_, fun a ha j hj => g a (by omega) j hj⟩
  · rw [h.2.1 a (by omega) (by omega) (by omega) (by omega) (by omega) (by omega)]
  · rw [h.2.1 a (by omega) (by omega) (by omega) (by omega) (by omega) (by omega)]
theorem stF_hi {n : Nat} {tim het lost : Int32} {ou wt wy sy : Nat → Int32} {pv sv : (Nat → Int32) → Int64} {w : Nat} {s : W5} (hn : n ≤ 12) {c : Nat} (hc : n ≤ c) : (stF (nI n) tim het lost 0 ou wt wy sy pv sv w s).2.2.2.1 c = s.2.2.2.1 c ∧ (stF (nI n) tim het lost 0 ou wt wy sy pv sv w s).2.2.2.2 c = s.2.2.2.2 c := by
  unfold stF
  generalize cellW (nI n) (wy w) (sy w) (s.1 w) (s.2.1 w + 1) = x
  by_cases hx : x < 0 ∨ nI n ≤ x ∨ (lost >>> (x &&& 31)) &&& 1 = 1
  · rw [if_pos hx]; exact ⟨rfl, rfl⟩
  · rw [if_neg hx]
    obtain ⟨d, hd, rfl⟩ : ∃ d : Nat, d < n ∧ x = nI d := by
      rcases pk_ix x (n := n) (by omega) with h | h | h
      · exact absurd (Or.inl h) hx
      · exact absurd (Or.inr (Or.inl h)) hx
      · exact h
    rw [nI_clamp (by omega)]
    refine ⟨pk_un (by omega), ?_⟩
    show (if (0 : Int32) = 0 then upd s.2.2.2.2 d (s.2.2.2.2 d + _) else s.2.2.2.2) c = s.2.2.2.2 c
    rw [if_pos rfl]
    exact pk_un (by omega)
theorem wk_hi {n : Nat} {tim het lost : Int32} {ou wt bt fr wy sy : Nat → Int32} {pv sv : (Nat → Int32) → Int64} {s : W5} (hn : n ≤ 12) {c : Nat} (hc : n ≤ c) : ∀ k : Nat, (itF (wkG (nI n) tim het lost 0 ou wt bt fr wy sy pv sv) k s).2.2.2.1 c = s.2.2.2.1 c ∧ (itF (wkG (nI n) tim het lost 0 ou wt bt fr wy sy pv sv) k s).2.2.2.2 c = s.2.2.2.2 c
  | 0 => ⟨rfl, rfl⟩
  | k + 1 => by
    have ih := wk_hi (tim := tim) (het := het) (lost := lost) (ou := ou) (wt := wt) (bt := bt) (fr := fr) (wy := wy) (sy := sy) (pv := pv) (sv := sv) (s := s) hn hc k
    show (wkG (nI n) tim het lost 0 ou wt bt fr wy sy pv sv k (itF (wkG (nI n) tim het lost 0 ou wt bt fr wy sy pv sv) k s)).2.2.2.1 c = _ ∧ (wkG (nI n) tim het lost 0 ou wt bt fr wy sy pv sv k (itF (wkG (nI n) tim het lost 0 ou wt bt fr wy sy pv sv) k s)).2.2.2.2 c = _
    generalize itF (wkG (nI n) tim het lost 0 ou wt bt fr wy sy pv sv) k s = s2 at ih ⊢
    unfold wkG
    split
    · exact ih
    · split
      · exact ih
      · exact ⟨(stF_hi hn hc).1.trans ih.1, (stF_hi hn hc).2.trans ih.2⟩
theorem rWk.E {I : Nat → Nat → Int32} {b nw : Nat} {t : Nat → Nat} {of : Nat → Int32} {s s2 : W5} (hw : nw ≤ 6) (h : rWk I b nw t of s) (e : w5E s s2) : rWk I b nw t of s2 := by
  obtain ⟨h1, h2, h3⟩ := h
  obtain ⟨e1, e2, e3, e4, e5⟩ := e
  refine ⟨fun w hw => ?_, fun c hc => by rw [← e4 c hc]; exact h2 c hc, fun c hc => by rw [← e5 c hc]; exact h3 c hc⟩
  rw [← e1 w (by omega), ← e2 w (by omega), ← e3 w (by omega)]
  exact h1 w hw
theorem blkE {o n : Nat} {F F2 f g : Nat → Int32} (h1 : ∀ j, j < n → F j = F2 j) (h2 : eqN 12 (sh o f) g) : eqN 12 (sh o (blk o n F f)) (pre n F2 g) := by
  intro j hj
  by_cases h : j < n
  · rw [pre_lt h]; exact (blk_in h).trans (h1 j h)
  · rw [pre_ge (Nat.le_of_not_lt h)]; exact (blk_out (by omega)).trans (h2 j hj)
theorem tX12_passes {G : Gx} {l : Launch} {ly : Ly} {M : Mm} {b n nw t : Nat} {su ss hd gl het bl : Int32} {ca wt bt fr wy sy : Nat → Int32} {pv sv : (Nat → Int32) → Int64} {of p1 : Nat → Int32} {s : Sc} (hb : b < 24) (hE : EV M.1 b n nw su ss hd gl het bl ca wt bt fr wy sy pv sv) (hpm : pmOk M.1 b n of) (hs : rAl M.1 b nw t s) (ht2 : t < 1000000) (hp1 : ∀ c, c < 12 → p1 c + of c = 0) (hR : RW ly M.2.2) {Q : Qt} (hQ : ∀ K : Mm, psF M K b → rAl K.1 b nw (t + 1) (pasF n nw su ss hd gl het bl 0 ca wt bt fr wy sy pv sv (puS s p1)) → Q none ly K) : Mt G l mX12_passes (7, 0, 0, false) [.ref 149, .int (nI b)] ly M Q := by
  have hE0 := hE
  obtain ⟨⟨hn, hn12⟩, ⟨hsu, hss, hhd, hgl, hgn⟩, hhet, hbl, hcm, hmd, kp, szp, fp, szs, fs, kpn, ksn, hkp, hkp5, hlp, hls, hpv, hsv⟩ := hE
  obtain ⟨r1, r2, r3, r4, r5, r6, ⟨r7, r7b⟩, r8, r9, r10⟩ := hs
  refine Mt.of (lv := [some (.ref 149), some (.int (nI b)), none]) rfl ?_
  obtain ⟨W, hW⟩ : ∃ W : W5, W = itF (wkG (nI n) s.2.2.2.2.2.2.1 het s.2.2.2.2.2.1 0 s.1 wt bt fr wy sy pv sv) nw (s.2.2.2.2.1.1, s.2.2.2.2.1.2.1, s.2.2.2.2.1.2.2.1, p1, s.2.2.2.2.1.2.2.2.2) := ⟨_, rfl⟩
  have p1_hi : ∀ c, c < 12 → n ≤ c → W.2.2.2.1 c = 0 := by
    intro c hc hnc
    have e := (wk_hi (tim := s.2.2.2.2.2.2.1) (het := het) (lost := s.2.2.2.2.2.1) (ou := s.1) (wt := wt) (bt := bt) (fr := fr) (wy := wy) (sy := sy) (pv := pv) (sv := sv) (s := (s.2.2.2.2.1.1, s.2.2.2.2.1.2.1, s.2.2.2.2.1.2.2.1, p1, s.2.2.2.2.1.2.2.2.2)) hn12 hnc nw).1
    rw [← hW] at e
    rw [e]
    have ho : of c = 0 := by
      rcases hpm with ⟨-, h⟩ | ⟨q, hq, -, h⟩
      · exact h c hc
      · rw [h c hc, if_neg (by omega)]
    have hh := hp1 c hc
    rw [ho, Int32.add_zero] at hh
    exact hh
  have w_hi : ∀ c, c < 12 → n ≤ c → W.2.2.2.2 c = 0 := by
    intro c hc hnc
    have e := (wk_hi (tim := s.2.2.2.2.2.2.1) (het := het) (lost := s.2.2.2.2.2.1) (ou := s.1) (wt := wt) (bt := bt) (fr := fr) (wy := wy) (sy := sy) (pv := pv) (sv := sv) (s := (s.2.2.2.2.1.1, s.2.2.2.2.1.2.1, s.2.2.2.2.1.2.2.1, p1, s.2.2.2.2.1.2.2.2.2)) hn12 hnc nw).2
    rw [← hW] at e
    rw [e]
    exact r10 c hc
  obtain ⟨SP, hSP⟩ : ∃ SP : Nat → Int32, SP = gsP n bl gl s.2.2.2.2.2.2.2 W.2.2.2.2 := ⟨_, rfl⟩
  have sp_hi : ∀ c, c < 12 → n ≤ c → SP c = 0 := by
    intro c hc hnc
    rw [hSP]
    unfold gsP
    split
    · exact w_hi c hc hnc
    · split
      · exact w_hi c hc hnc
      · rw [pre_ge hnc]; exact w_hi c hc hnc
  obtain ⟨CH, hCH⟩ : ∃ CH : Int32, CH = gsC n bl gl s.2.2.2.2.2.2.2 := ⟨_, rfl⟩
  have hpas : pasF n nw su ss hd gl het bl 0 ca wt bt fr wy sy pv sv (puS s p1) = (pre n (nou s.1 s.2.1 W.2.2.2.1 ca (mx 0 (su - het)) n) s.1, pre n (nsp s.1 s.2.1 W.2.2.2.1 ca (mx 0 (su - het)) n) s.2.1, pre n (nou s.2.2.1 s.2.2.2.1 SP ca ss n) s.2.2.1, pre n (nsp s.2.2.1 s.2.2.2.1 SP ca ss n) s.2.2.2.1, (W.1, W.2.1, W.2.2.1, pre n (fun _ => 0) W.2.2.2.1, pre n (fun _ => 0) SP), (if hd ≤ 0 then s.2.2.2.2.2.1 else lsP (pre n (nou s.1 s.2.1 W.2.2.2.1 ca (mx 0 (su - het)) n) s.1) hd s.2.2.2.2.2.1 n), s.2.2.2.2.2.2.1 + 1, CH) := by rw [hSP, hCH, hW]; rfl
  rw [hpas] at hQ
  clear hpas
  have J318 : ∀ N : Mm, psF M N b → (∀ w, w < nw → wk1 (t + 1) (N.1 177 (6 * b + w)) (N.1 178 (6 * b + w)) (N.1 179 (6 * b + w)) (W.1 w) (W.2.1 w) (W.2.2.1 w)) → (eqN 12 (sh (12 * b) (N.1 173)) (pre n (nou s.1 s.2.1 W.2.2.2.1 ca (mx 0 (su - het)) n) s.1) ∧ eqN 12 (sh (12 * b) (N.1 174)) (pre n (nsp s.1 s.2.1 W.2.2.2.1 ca (mx 0 (su - het)) n) s.2.1) ∧ eqN 12 (sh (12 * b) (N.1 175)) (pre n (nou s.2.2.1 s.2.2.2.1 SP ca ss n) s.2.2.1) ∧ eqN 12 (sh (12 * b) (N.1 176)) (pre n (nsp s.2.2.1 s.2.2.2.1 SP ca ss n) s.2.2.2.1)) ∧ N.1 170 b = CH ∧ N.1 169 b = nI t ∧ N.1 172 b = (if hd ≤ 0 then s.2.2.2.2.2.1 else lsP (pre n (nou s.1 s.2.1 W.2.2.2.1 ca (mx 0 (su - het)) n) s.1) hd s.2.2.2.2.2.1 n) → Rn G l mX12_passes (7, 0, 0, false) 318 [some (.ref 149), some (.int (nI b)), none] [] ly N Q := by
    intro N hF hwk ⟨⟨g1, g2, g3, g4⟩, g5, g6, g7⟩
    have hRN : RW ly N.2.2 := by rw [hF.1]; exact hR
    have e151 : N.1 151 = M.1 151 := hF.at 151 (by omega)
    refine Rn.aload_n dX12_passes_318 rfl ?_
    refine Rn.getR dX12_passes_319 fX12_73 rfl (rc149 hRN) (show N.2.2 149 35 = some 169 from (rpt35 hRN)) ?_
    refine Rn.iload_n dX12_passes_322 rfl ?_
    refine Rn.dup2 dX12_passes_323 rfl rfl ?_
    refine Rn.ialdN (k0 := b) dX12_passes_324 (rc169 hRN) (by omega) (by decide) ?_
    refine Rn.topI (y := nI t) (g6) ?_
    refine Rn.iconstv (v := 1) dX12_passes_325 ic_1 ?_
    refine Rn.iadd dX12_passes_326 ?_
    refine Rn.topI (y := nI (t + 1)) (nI_add t 1) ?_
    refine Rn.iastN (k0 := b) dX12_passes_327 (rc169 hRN) (by omega) (by decide) ?_
    refine Rn.vret dX12_passes_328 rfl (hQ _ (hF.tr ⟨rfl, fun a a1 a2 a3 a4 a5 => sI_ne a2, fun j h => rfl, fun a ha j hj => ?_, fun a ha j hj => ?_, fun a ha j hj => ?_⟩) ⟨g1, g2, g3, g4, hwk, g7, ⟨?_, ?_⟩, g5, fun c hc => ?_, fun c hc => ?_⟩)
    · by_cases e : a = 169
      · subst e
        show upd (N.1 169) b _ j = _
        exact pk_un hj
      · exact congrFun (sI_ne e) j
    · exact congrFun (sI_ne (by omega)) j
    · exact congrFun (sI_ne (by omega)) j
    · show upd (N.1 169) b (nI (t + 1)) b = _
      exact pk_us
    · show s.2.2.2.2.2.2.1 + 1 = _
      rw [r7b, nI_1]
    · show pre n (fun _ => 0) W.2.2.2.1 c = 0
      by_cases h : c < n
      · exact pre_lt h
      · rw [pre_ge (Nat.le_of_not_lt h)]; exact p1_hi c hc (Nat.le_of_not_lt h)
    · show pre n (fun _ => 0) SP c = 0
      by_cases h : c < n
      · exact pre_lt h
      · rw [pre_ge (Nat.le_of_not_lt h)]; exact sp_hi c hc (Nat.le_of_not_lt h)
  have L258 : ¬ hd ≤ 0 → ∀ (k i : Nat) (N : Mm), i + k = n → psF M N b → (∀ w, w < nw → wk1 (t + 1) (N.1 177 (6 * b + w)) (N.1 178 (6 * b + w)) (N.1 179 (6 * b + w)) (W.1 w) (W.2.1 w) (W.2.2.1 w)) → (eqN 12 (sh (12 * b) (N.1 173)) (pre n (nou s.1 s.2.1 W.2.2.2.1 ca (mx 0 (su - het)) n) s.1) ∧ eqN 12 (sh (12 * b) (N.1 174)) (pre n (nsp s.1 s.2.1 W.2.2.2.1 ca (mx 0 (su - het)) n) s.2.1) ∧ eqN 12 (sh (12 * b) (N.1 175)) (pre n (nou s.2.2.1 s.2.2.2.1 SP ca ss n) s.2.2.1) ∧ eqN 12 (sh (12 * b) (N.1 176)) (pre n (nsp s.2.2.1 s.2.2.2.1 SP ca ss n) s.2.2.2.1)) ∧ N.1 170 b = CH ∧ N.1 169 b = nI t ∧ N.1 172 b = lsP (pre n (nou s.1 s.2.1 W.2.2.2.1 ca (mx 0 (su - het)) n) s.1) hd s.2.2.2.2.2.1 i → Rn G l mX12_passes (7, 0, 0, false) 258 [some (.ref 149), some (.int (nI b)), some (.int (nI i))] [] ly N Q := by
    intro hhd0 k
    induction k with
    | zero =>
      intro i N hi hF hwk ⟨⟨g1, g2, g3, g4⟩, g5, g6, g7⟩
      have hRN : RW ly N.2.2 := by rw [hF.1]; exact hR
      have e151 : N.1 151 = M.1 151 := hF.at 151 (by omega)
      refine Rn.iload_n dX12_passes_258 rfl ?_
      refine Rn.aload_n dX12_passes_259 rfl ?_
      refine Rn.getR dX12_passes_260 fX12_15 rfl (rc149 hRN) (show N.2.2 149 3 = some 151 from (rpt3 hRN)) ?_
      refine Rn.iconstv (v := 0) dX12_passes_263 ic_0 ?_
      refine Rn.iald dX12_passes_264 (rc151 hRN) (by unfold vp_in; decide) ?_
      refine Rn.topI (y := N.1 151 0) (rfl) ?_
      refine Rn.topI (y := nI n) ((congrFun e151 0).trans hn) ?_
      refine Rn.icmp_ge dX12_passes_265 (fun hc => ?_) (fun hc => ?_)
      · skip
        have e0 : i = n := by omega
        refine Rn.forget (lv' := [some (.ref 149), some (.int (nI b)), none]) (⟨rfl, ⟨rfl, trivial⟩⟩) ?_
        exact J318 N hF hwk ⟨⟨g1, g2, g3, g4⟩, g5, g6, by rw [if_neg hhd0, ← e0, g7, e0]⟩
      · skip
        exact absurd (nI_le (a := n) (b := i) (by omega) (by omega)) hc
    | succ k ih =>
      intro i N hi hF hwk ⟨⟨g1, g2, g3, g4⟩, g5, g6, g7⟩
      have hRN : RW ly N.2.2 := by rw [hF.1]; exact hR
      have e151 : N.1 151 = M.1 151 := hF.at 151 (by omega)
      refine Rn.iload_n dX12_passes_258 rfl ?_
      refine Rn.aload_n dX12_passes_259 rfl ?_
      refine Rn.getR dX12_passes_260 fX12_15 rfl (rc149 hRN) (show N.2.2 149 3 = some 151 from (rpt3 hRN)) ?_
      refine Rn.iconstv (v := 0) dX12_passes_263 ic_0 ?_
      refine Rn.iald dX12_passes_264 (rc151 hRN) (by unfold vp_in; decide) ?_
      refine Rn.topI (y := N.1 151 0) (rfl) ?_
      refine Rn.topI (y := nI n) ((congrFun e151 0).trans hn) ?_
      refine Rn.icmp_ge dX12_passes_265 (fun hc => ?_) (fun hc => ?_)
      · skip
        exact absurd hc (nI_ge (a := i) (b := n) (by omega) (by omega))
      · skip
        refine Rn.aload_n dX12_passes_268 rfl ?_
        refine Rn.getR dX12_passes_269 fX12_15 rfl (rc149 hRN) (show N.2.2 149 3 = some 151 from (rpt3 hRN)) ?_
        refine Rn.iconstv (v := 5) dX12_passes_272 ic_5 ?_
        refine Rn.iald dX12_passes_273 (rc151 hRN) (by unfold vp_in; decide) ?_
        refine Rn.topI (y := N.1 151 5) (rfl) ?_
        refine Rn.topI (y := hd) ((congrFun e151 5).trans hhd) ?_
        refine Rn.if_le dX12_passes_274 (fun hd0 => ?_) (fun hd0 => ?_)
        · skip
          exact absurd hd0 hhd0
        · skip
          refine Rn.aload_n dX12_passes_277 rfl ?_
          refine Rn.getR dX12_passes_278 fX12_86 rfl (rc149 hRN) (show N.2.2 149 39 = some 173 from (rpt39 hRN)) ?_
          refine Rn.bipushv (v := 12) dX12_passes_281 bp_12 ?_
          refine Rn.iload_n dX12_passes_283 rfl ?_
          refine Rn.imul dX12_passes_284 ?_
          refine Rn.topI (y := nI (12 * b)) (nI_mul 12 b) ?_
          refine Rn.iload_n dX12_passes_285 rfl ?_
          refine Rn.iadd dX12_passes_286 ?_
          refine Rn.topI (y := nI (12 * b + i)) (nI_add (12 * b) i) ?_
          refine Rn.ialdN (k0 := (12 * b + i)) dX12_passes_287 (rc173 hRN) (by omega) (by decide) ?_
          refine Rn.topI (y := pre n (nou s.1 s.2.1 W.2.2.2.1 ca (mx 0 (su - het)) n) s.1 i) (g1 i (by omega)) ?_
          refine Rn.mabs dX12_passes_288 jX12_441 jw_mabs ⟨(Nat.le_of_ble_eq_true rfl), (Nat.le_of_ble_eq_true rfl)⟩ ?_
          refine Rn.aload_n dX12_passes_291 rfl ?_
          refine Rn.getR dX12_passes_292 fX12_15 rfl (rc149 hRN) (show N.2.2 149 3 = some 151 from (rpt3 hRN)) ?_
          refine Rn.iconstv (v := 5) dX12_passes_295 ic_5 ?_
          refine Rn.iald dX12_passes_296 (rc151 hRN) (by unfold vp_in; decide) ?_
          refine Rn.topI (y := N.1 151 5) (rfl) ?_
          refine Rn.topI (y := hd) ((congrFun e151 5).trans hhd) ?_
          refine Rn.icmp_le dX12_passes_297 (fun hl => ?_) (fun hl => ?_)
          · skip
            refine Rn.iincN (lv' := [some (.ref 149), some (.int (nI b)), some (.int (nI (i + 1)))]) dX12_passes_312 rfl (by decide) rfl ?_
            refine Rn.goto dX12_passes_315 ?_
            exact ih (i + 1) N (by omega) hF hwk ⟨⟨g1, g2, g3, g4⟩, g5, g6, g7.trans (if_neg (Int32.not_lt.mpr hl)).symm⟩
          · skip
            refine Rn.aload_n dX12_passes_300 rfl ?_
            refine Rn.getR dX12_passes_301 fX12_83 rfl (rc149 hRN) (show N.2.2 149 38 = some 172 from (rpt38 hRN)) ?_
            refine Rn.iload_n dX12_passes_304 rfl ?_
            refine Rn.dup2 dX12_passes_305 rfl rfl ?_
            refine Rn.ialdN (k0 := b) dX12_passes_306 (rc172 hRN) (by omega) (by decide) ?_
            refine Rn.topI (y := lsP (pre n (nou s.1 s.2.1 W.2.2.2.1 ca (mx 0 (su - het)) n) s.1) hd s.2.2.2.2.2.1 i) (g7) ?_
            refine Rn.iconstv (v := 1) dX12_passes_307 ic_1 ?_
            refine Rn.iload_n dX12_passes_308 rfl ?_
            refine Rn.ishl dX12_passes_309 ?_
            refine Rn.ior dX12_passes_310 ?_
            refine Rn.iastN (k0 := b) dX12_passes_311 (rc172 hRN) (by omega) (by decide) ?_
            refine Rn.iincN (lv' := [some (.ref 149), some (.int (nI b)), some (.int (nI (i + 1)))]) dX12_passes_312 rfl (by decide) rfl ?_
            refine Rn.goto dX12_passes_315 ?_
            exact ih (i + 1) _ (by omega) (hF.tr ⟨rfl, fun a a1 a2 a3 a4 a5 => sI_ne (by omega), fun j h => rfl, fun a ha j hj => (by by_cases e : a = 172; (subst e; exact pk_un hj); exact congrFun (sI_ne e) j), fun a ha j hj => congrFun (sI_ne (by omega)) j, fun a ha j hj => congrFun (sI_ne (by omega)) j⟩) hwk ⟨⟨g1, g2, g3, g4⟩, g5, g6, (show upd (N.1 172) b _ b = _ from pk_us).trans (if_pos (Int32.not_le.mp hl)).symm⟩
  have J256 : ∀ N : Mm, psF M N b → (∀ w, w < nw → wk1 (t + 1) (N.1 177 (6 * b + w)) (N.1 178 (6 * b + w)) (N.1 179 (6 * b + w)) (W.1 w) (W.2.1 w) (W.2.2.1 w)) → (eqN 12 (sh (12 * b) (N.1 173)) (pre n (nou s.1 s.2.1 W.2.2.2.1 ca (mx 0 (su - het)) n) s.1) ∧ eqN 12 (sh (12 * b) (N.1 174)) (pre n (nsp s.1 s.2.1 W.2.2.2.1 ca (mx 0 (su - het)) n) s.2.1) ∧ eqN 12 (sh (12 * b) (N.1 175)) (pre n (nou s.2.2.1 s.2.2.2.1 SP ca ss n) s.2.2.1) ∧ eqN 12 (sh (12 * b) (N.1 176)) (pre n (nsp s.2.2.1 s.2.2.2.1 SP ca ss n) s.2.2.2.1)) ∧ N.1 170 b = CH ∧ N.1 169 b = nI t ∧ N.1 172 b = s.2.2.2.2.2.1 → Rn G l mX12_passes (7, 0, 0, false) 256 [some (.ref 149), some (.int (nI b)), none] [] ly N Q := by
    intro N hF hwk ⟨⟨g1, g2, g3, g4⟩, g5, g6, g7⟩
    have hRN : RW ly N.2.2 := by rw [hF.1]; exact hR
    have e151 : N.1 151 = M.1 151 := hF.at 151 (by omega)
    refine Rn.iconstv (v := 0) dX12_passes_256 ic_0 ?_
    refine Rn.istore_n (lv' := [some (.ref 149), some (.int (nI b)), some (.int 0)]) dX12_passes_257 (by decide) rfl ?_
    by_cases hhd0 : hd ≤ 0
    · skip
      refine Rn.iload_n dX12_passes_258 rfl ?_
      refine Rn.aload_n dX12_passes_259 rfl ?_
      refine Rn.getR dX12_passes_260 fX12_15 rfl (rc149 hRN) (show N.2.2 149 3 = some 151 from (rpt3 hRN)) ?_
      refine Rn.iconstv (v := 0) dX12_passes_263 ic_0 ?_
      refine Rn.iald dX12_passes_264 (rc151 hRN) (by unfold vp_in; decide) ?_
      refine Rn.topI (y := N.1 151 0) (rfl) ?_
      refine Rn.topI (y := nI n) ((congrFun e151 0).trans hn) ?_
      refine Rn.icmp_ge dX12_passes_265 (fun hc => ?_) (fun hc => ?_)
      · skip
        refine Rn.forget (lv' := [some (.ref 149), some (.int (nI b)), none]) (⟨rfl, ⟨rfl, trivial⟩⟩) ?_
        exact J318 N hF hwk ⟨⟨g1, g2, g3, g4⟩, g5, g6, by rw [if_pos hhd0]; exact g7⟩
      · skip
        refine Rn.aload_n dX12_passes_268 rfl ?_
        refine Rn.getR dX12_passes_269 fX12_15 rfl (rc149 hRN) (show N.2.2 149 3 = some 151 from (rpt3 hRN)) ?_
        refine Rn.iconstv (v := 5) dX12_passes_272 ic_5 ?_
        refine Rn.iald dX12_passes_273 (rc151 hRN) (by unfold vp_in; decide) ?_
        refine Rn.topI (y := N.1 151 5) (rfl) ?_
        refine Rn.topI (y := hd) ((congrFun e151 5).trans hhd) ?_
        refine Rn.if_le dX12_passes_274 (fun hd0 => ?_) (fun hd0 => ?_)
        · skip
          refine Rn.forget (lv' := [some (.ref 149), some (.int (nI b)), none]) (⟨rfl, ⟨rfl, trivial⟩⟩) ?_
          exact J318 N hF hwk ⟨⟨g1, g2, g3, g4⟩, g5, g6, by rw [if_pos hhd0]; exact g7⟩
        · skip
          exact absurd hhd0 hd0
    · skip
      exact L258 hhd0 n 0 N (by omega) hF hwk ⟨⟨g1, g2, g3, g4⟩, g5, g6, g7⟩
  have J201 : ∀ N : Mm, psF M N b → (∀ w, w < nw → wk1 (t + 1) (N.1 177 (6 * b + w)) (N.1 178 (6 * b + w)) (N.1 179 (6 * b + w)) (W.1 w) (W.2.1 w) (W.2.2.1 w)) → ((N.1 173 = M.1 173 ∧ N.1 174 = M.1 174 ∧ N.1 175 = M.1 175 ∧ N.1 176 = M.1 176) ∧ N.1 172 b = s.2.2.2.2.2.1 ∧ N.1 169 b = nI t) ∧ ((∀ c, c < 12 → N.1 186 c = W.2.2.2.1 c) ∧ (∀ c, c < 12 → N.1 187 c = SP c)) ∧ N.1 170 b = CH → Rn G l mX12_passes (7, 0, 0, false) 201 [some (.ref 149), some (.int (nI b)), none] [] ly N Q := by
    intro N hF hwk ⟨⟨⟨s1, s2, s3, s4⟩, s5, s6⟩, ⟨u1, u2⟩, g5⟩
    have hRN : RW ly N.2.2 := by rw [hF.1]; exact hR
    have e151 : N.1 151 = M.1 151 := hF.at 151 (by omega)
    refine Rn.aload_n dX12_passes_201 rfl ?_
    refine Rn.iload_n dX12_passes_202 rfl ?_
    refine Rn.aload_n dX12_passes_203 rfl ?_
    refine Rn.getR dX12_passes_204 fX12_86 rfl (rc149 hRN) (show N.2.2 149 39 = some 173 from (rpt39 hRN)) ?_
    refine Rn.aload_n dX12_passes_207 rfl ?_
    refine Rn.getR dX12_passes_208 fX12_89 rfl (rc149 hRN) (show N.2.2 149 40 = some 174 from (rpt40 hRN)) ?_
    refine Rn.aload_n dX12_passes_211 rfl ?_
    refine Rn.getR dX12_passes_212 fX12_132 rfl (rc149 hRN) (show N.2.2 149 63 = some 186 from (rpt63 hRN)) ?_
    refine Rn.iconstv (v := 0) dX12_passes_215 ic_0 ?_
    refine Rn.aload_n dX12_passes_216 rfl ?_
    refine Rn.getR dX12_passes_217 fX12_15 rfl (rc149 hRN) (show N.2.2 149 3 = some 151 from (rpt3 hRN)) ?_
    refine Rn.iconstv (v := 1) dX12_passes_220 ic_1 ?_
    refine Rn.iald dX12_passes_221 (rc151 hRN) (by unfold vp_in; decide) ?_
    refine Rn.topI (y := N.1 151 1) (rfl) ?_
    refine Rn.topI (y := su) ((congrFun e151 1).trans hsu) ?_
    refine Rn.aload_n dX12_passes_222 rfl ?_
    refine Rn.callV0 dX12_passes_223 vX12_387 (rc149 hRN) (by decide) rfl (tX12_heat hRN) (by decide) ⟨(Nat.le_of_ble_eq_true rfl), (Nat.le_of_ble_eq_true rfl), (Nat.le_of_ble_eq_true rfl)⟩ (fun h => by cases h) (fun v1 ly1 M1 ⟨q1, q2, q3⟩ => ?_)
    rw [q1, q2, q3]
    refine Rn.topI (y := het) (by rw [hF.2.2.1 55 (by decide), e151]; exact hhet) ?_
    refine Rn.isub dX12_passes_226 ?_
    refine Rn.mmax dX12_passes_227 jX12_351 jw_mmax ⟨(Nat.le_of_ble_eq_true rfl), (Nat.le_of_ble_eq_true rfl)⟩ ?_
    have hcmN : cmOk N.1 b n ca := hcm.mv (hF.2.2.1 55 (by decide)) e151 (hF.at 180 (by omega)) (hF.at 181 (by omega)) (hF.at 182 (by omega))
    have hnN : N.1 151 0 = nI n := (congrFun e151 0).trans hn
    refine Rn.callV5 dX12_passes_230 vX12_437 (rc149 hRN) (by decide) rfl ((tX12_sways173 (M := N) (stf := (mx 0 (su - het))) hb hnN hn12 hcmN hRN)) (by decide) ⟨(Nat.le_of_ble_eq_true rfl), (Nat.le_of_ble_eq_true rfl), (Nat.le_of_ble_eq_true rfl)⟩ (fun h => by cases h) (fun v1 ly1 N1 ⟨q1, q2, q3⟩ => ?_)
    rw [q1, q2]
    have t2 : N1.2.2 = N.2.2 := by rw [q3]; rfl
    have t3 : ∀ a, a ≠ 188 → a ≠ 174 → a ≠ 173 → a ≠ 186 → N1.1 a = N.1 a := fun a a1 a2 a3 a4 => by rw [q3]; exact (sI_ne a4).trans ((sI_ne a3).trans ((sI_ne a2).trans (sI_ne a1)))
    have t4 : N1.1 173 = blk (12 * b) n (nou (sh (12 * b) (N.1 173)) (sh (12 * b) (N.1 174)) (N.1 186) ca (mx 0 (su - het)) n) (N.1 173) := by rw [q3]; rfl
    have t5 : N1.1 174 = blk (12 * b) n (nsp (sh (12 * b) (N.1 173)) (sh (12 * b) (N.1 174)) (N.1 186) ca (mx 0 (su - het)) n) (N.1 174) := by rw [q3]; rfl
    clear q3
    have t2M : N1.2.2 = M.2.2 := t2.trans hF.1
    have hRN1 : RW ly N1.2.2 := by rw [t2M]; exact hR
    have e151b : N1.1 151 = M.1 151 := (t3 151 (by decide) (by decide) (by decide) (by decide)).trans e151
    refine Rn.aload_n dX12_passes_233 rfl ?_
    refine Rn.iload_n dX12_passes_234 rfl ?_
    refine Rn.aload_n dX12_passes_235 rfl ?_
    refine Rn.getR dX12_passes_236 fX12_92 rfl (rc149 hRN1) (show N1.2.2 149 41 = some 175 from (rpt41 hRN1)) ?_
    refine Rn.aload_n dX12_passes_239 rfl ?_
    refine Rn.getR dX12_passes_240 fX12_95 rfl (rc149 hRN1) (show N1.2.2 149 42 = some 176 from (rpt42 hRN1)) ?_
    refine Rn.aload_n dX12_passes_243 rfl ?_
    refine Rn.getR dX12_passes_244 fX12_135 rfl (rc149 hRN1) (show N1.2.2 149 64 = some 187 from (rpt64 hRN1)) ?_
    refine Rn.aload_n dX12_passes_247 rfl ?_
    refine Rn.getR dX12_passes_248 fX12_15 rfl (rc149 hRN1) (show N1.2.2 149 3 = some 151 from (rpt3 hRN1)) ?_
    refine Rn.iconstv (v := 2) dX12_passes_251 ic_2 ?_
    refine Rn.iald dX12_passes_252 (rc151 hRN1) (by unfold vp_in; decide) ?_
    refine Rn.topI (y := N1.1 151 2) (rfl) ?_
    refine Rn.topI (y := ss) ((congrFun e151b 2).trans hss) ?_
    have hcmN1 : cmOk N1.1 b n ca := hcmN.mv (congrFun (t3 149 (by decide) (by decide) (by decide) (by decide)) 55) (t3 151 (by decide) (by decide) (by decide) (by decide)) (t3 180 (by decide) (by decide) (by decide) (by decide)) (t3 181 (by decide) (by decide) (by decide) (by decide)) (t3 182 (by decide) (by decide) (by decide) (by decide))
    refine Rn.callV5 dX12_passes_253 vX12_437 (rc149 hRN1) (by decide) rfl ((tX12_sways175 (M := N1) (stf := ss) hb ((congrFun e151b 0).trans hn) hn12 hcmN1 hRN1)) (by decide) ⟨(Nat.le_of_ble_eq_true rfl), (Nat.le_of_ble_eq_true rfl), (Nat.le_of_ble_eq_true rfl)⟩ (fun h => by cases h) (fun v1 ly1 N2 ⟨q1, q2, q3⟩ => ?_)
    rw [q1, q2]
    have v2 : N2.2.2 = N1.2.2 := by rw [q3]; rfl
    have v3 : ∀ a, a ≠ 188 → a ≠ 176 → a ≠ 175 → a ≠ 187 → N2.1 a = N1.1 a := fun a a1 a2 a3 a4 => by rw [q3]; exact (sI_ne a4).trans ((sI_ne a3).trans ((sI_ne a2).trans (sI_ne a1)))
    have v4 : N2.1 175 = blk (12 * b) n (nou (sh (12 * b) (N1.1 175)) (sh (12 * b) (N1.1 176)) (N1.1 187) ca ss n) (N1.1 175) := by rw [q3]; rfl
    have v5 : N2.1 176 = blk (12 * b) n (nsp (sh (12 * b) (N1.1 175)) (sh (12 * b) (N1.1 176)) (N1.1 187) ca ss n) (N1.1 176) := by rw [q3]; rfl
    clear q3
    have c3 : N1.1 175 = M.1 175 := (t3 175 (by decide) (by decide) (by decide) (by decide)).trans s3
    have c4 : N1.1 176 = M.1 176 := (t3 176 (by decide) (by decide) (by decide) (by decide)).trans s4
    have c7 : ∀ c, c < 12 → N1.1 187 c = SP c := fun c hc => (congrFun (t3 187 (by decide) (by decide) (by decide) (by decide)) c).trans (u2 c hc)
    have hF2 : psF M N2 b := by
      refine hF.tr ⟨v2.trans t2, fun a a1 a2 a3 a4 a5 => (v3 a (by omega) (by omega) (by omega) (by omega)).trans (t3 a (by omega) (by omega) (by omega) (by omega)), fun j h => congrFun ((v3 149 (by decide) (by decide) (by decide) (by decide)).trans (t3 149 (by decide) (by decide) (by decide) (by decide))) j, fun a ha j hj => congrFun ((v3 a (by omega) (by omega) (by omega) (by omega)).trans (t3 a (by omega) (by omega) (by omega) (by omega))) j, fun a ha j hj => ?_, fun a ha j hj => congrFun ((v3 a (by omega) (by omega) (by omega) (by omega)).trans (t3 a (by omega) (by omega) (by omega) (by omega))) j⟩
      rcases (show a = 173 ∨ a = 174 ∨ a = 175 ∨ a = 176 by omega) with rfl | rfl | rfl | rfl
      · rw [v3 173 (by decide) (by decide) (by decide) (by decide), t4]; exact blk_out (by omega)
      · rw [v3 174 (by decide) (by decide) (by decide) (by decide), t5]; exact blk_out (by omega)
      · rw [v4]; exact (blk_out (by omega)).trans (congrFun (t3 175 (by decide) (by decide) (by decide) (by decide)) j)
      · rw [v5]; exact (blk_out (by omega)).trans (congrFun (t3 176 (by decide) (by decide) (by decide) (by decide)) j)
    refine Rn.forget (lv' := [some (.ref 149), some (.int (nI b)), none]) (⟨rfl, ⟨rfl, trivial⟩⟩) ?_
    refine J256 N2 hF2 (fun w hw => ?_) ⟨⟨?_, ?_, ?_, ?_⟩, ?_, ?_, ?_⟩
    · rw [v3 177 (by decide) (by decide) (by decide) (by decide), t3 177 (by decide) (by decide) (by decide) (by decide), v3 178 (by decide) (by decide) (by decide) (by decide), t3 178 (by decide) (by decide) (by decide) (by decide), v3 179 (by decide) (by decide) (by decide) (by decide), t3 179 (by decide) (by decide) (by decide) (by decide)]
      exact hwk w hw
    · rw [v3 173 (by decide) (by decide) (by decide) (by decide), t4]
      exact blkE (fun j hj => nou_E (by rw [s1]; exact r1) (by rw [s2]; exact r2) u1 eqN.rf hn12 hj) (by rw [s1]; exact r1)
    · rw [v3 174 (by decide) (by decide) (by decide) (by decide), t5]
      exact blkE (fun j hj => nsp_E (by rw [s1]; exact r1) (by rw [s2]; exact r2) u1 eqN.rf hn12 hj) (by rw [s2]; exact r2)
    · rw [v4]
      exact blkE (fun j hj => nou_E (by rw [c3]; exact r3) (by rw [c4]; exact r4) c7 eqN.rf hn12 hj) (by rw [c3]; exact r3)
    · rw [v5]
      exact blkE (fun j hj => nsp_E (by rw [c3]; exact r3) (by rw [c4]; exact r4) c7 eqN.rf hn12 hj) (by rw [c4]; exact r4)
    · exact (congrFun ((v3 170 (by decide) (by decide) (by decide) (by decide)).trans (t3 170 (by decide) (by decide) (by decide) (by decide))) b).trans g5
    · exact (congrFun ((v3 169 (by decide) (by decide) (by decide) (by decide)).trans (t3 169 (by decide) (by decide) (by decide) (by decide))) b).trans s6
    · exact (congrFun ((v3 172 (by decide) (by decide) (by decide) (by decide)).trans (t3 172 (by decide) (by decide) (by decide) (by decide))) b).trans s5
  have L152 : ¬ bl = 0 → ¬ gl ≤ 0 → ∀ (k i : Nat) (N : Mm), i + k = n → psF M N b → (∀ w, w < nw → wk1 (t + 1) (N.1 177 (6 * b + w)) (N.1 178 (6 * b + w)) (N.1 179 (6 * b + w)) (W.1 w) (W.2.1 w) (W.2.2.1 w)) → ((N.1 173 = M.1 173 ∧ N.1 174 = M.1 174 ∧ N.1 175 = M.1 175 ∧ N.1 176 = M.1 176) ∧ N.1 172 b = s.2.2.2.2.2.1 ∧ N.1 169 b = nI t) ∧ ((∀ c, c < 12 → N.1 186 c = W.2.2.2.1 c) ∧ (∀ c, c < 12 → N.1 187 c = pre i (fun j => W.2.2.2.2 j + gus (nxts s.2.2.2.2.2.2.2 (j + 1)) gl) W.2.2.2.2 c)) ∧ N.1 170 b = nxts s.2.2.2.2.2.2.2 i → Rn G l mX12_passes (7, 0, 0, false) 152 [some (.ref 149), some (.int (nI b)), some (.int (nI i))] [] ly N Q := by
    intro hb0 hg0 k
    induction k with
    | zero =>
      intro i N hi hF hwk ⟨⟨⟨s1, s2, s3, s4⟩, s5, s6⟩, ⟨u1, u2⟩, g5⟩
      have hRN : RW ly N.2.2 := by rw [hF.1]; exact hR
      have e151 : N.1 151 = M.1 151 := hF.at 151 (by omega)
      refine Rn.iload_n dX12_passes_152 rfl ?_
      refine Rn.aload_n dX12_passes_153 rfl ?_
      refine Rn.getR dX12_passes_154 fX12_15 rfl (rc149 hRN) (show N.2.2 149 3 = some 151 from (rpt3 hRN)) ?_
      refine Rn.iconstv (v := 0) dX12_passes_157 ic_0 ?_
      refine Rn.iald dX12_passes_158 (rc151 hRN) (by unfold vp_in; decide) ?_
      refine Rn.topI (y := N.1 151 0) (rfl) ?_
      refine Rn.topI (y := nI n) ((congrFun e151 0).trans hn) ?_
      refine Rn.icmp_ge dX12_passes_159 (fun hc => ?_) (fun hc => ?_)
      · skip
        have e0 : i = n := by omega
        refine Rn.forget (lv' := [some (.ref 149), some (.int (nI b)), none]) (⟨rfl, ⟨rfl, trivial⟩⟩) ?_
        exact J201 N hF hwk ⟨⟨⟨s1, s2, s3, s4⟩, s5, s6⟩, ⟨u1, fun c hc => by rw [hSP]; unfold gsP; rw [if_neg hb0, if_neg hg0, ← e0, u2 c hc]⟩, by rw [hCH]; unfold gsC; rw [if_neg hb0, if_neg hg0, ← e0]; exact g5⟩
      · skip
        exact absurd (nI_le (a := n) (b := i) (by omega) (by omega)) hc
    | succ k ih =>
      intro i N hi hF hwk ⟨⟨⟨s1, s2, s3, s4⟩, s5, s6⟩, ⟨u1, u2⟩, g5⟩
      have hRN : RW ly N.2.2 := by rw [hF.1]; exact hR
      have e151 : N.1 151 = M.1 151 := hF.at 151 (by omega)
      refine Rn.iload_n dX12_passes_152 rfl ?_
      refine Rn.aload_n dX12_passes_153 rfl ?_
      refine Rn.getR dX12_passes_154 fX12_15 rfl (rc149 hRN) (show N.2.2 149 3 = some 151 from (rpt3 hRN)) ?_
      refine Rn.iconstv (v := 0) dX12_passes_157 ic_0 ?_
      refine Rn.iald dX12_passes_158 (rc151 hRN) (by unfold vp_in; decide) ?_
      refine Rn.topI (y := N.1 151 0) (rfl) ?_
      refine Rn.topI (y := nI n) ((congrFun e151 0).trans hn) ?_
      refine Rn.icmp_ge dX12_passes_159 (fun hc => ?_) (fun hc => ?_)
      · skip
        exact absurd hc (nI_ge (a := i) (b := n) (by omega) (by omega))
      · skip
        refine Rn.aload_n dX12_passes_162 rfl ?_
        refine Rn.getR dX12_passes_163 fX12_135 rfl (rc149 hRN) (show N.2.2 149 64 = some 187 from (rpt64 hRN)) ?_
        refine Rn.iload_n dX12_passes_166 rfl ?_
        refine Rn.dup2 dX12_passes_167 rfl rfl ?_
        refine Rn.ialdN (k0 := i) dX12_passes_168 (rc187 hRN) (by omega) (by decide) ?_
        refine Rn.topI (y := W.2.2.2.2 i) ((u2 i (by omega)).trans (pre_ge (Nat.le_refl i))) ?_
        refine Rn.aload_n dX12_passes_169 rfl ?_
        refine Rn.iload_n dX12_passes_170 rfl ?_
        refine Rn.iconstv (v := 2) dX12_passes_171 ic_2 ?_
        refine Rn.aload_n dX12_passes_172 rfl ?_
        refine Rn.getR dX12_passes_173 fX12_15 rfl (rc149 hRN) (show N.2.2 149 3 = some 151 from (rpt3 hRN)) ?_
        refine Rn.bipushv (v := 10) dX12_passes_176 bp_10 ?_
        refine Rn.iald dX12_passes_178 (rc151 hRN) (by unfold vp_in; decide) ?_
        refine Rn.topI (y := N.1 151 10) (rfl) ?_
        refine Rn.topI (y := gl) ((congrFun e151 10).trans hgl) ?_
        refine Rn.imul dX12_passes_179 ?_
        refine Rn.iconstv (v := 1) dX12_passes_180 ic_1 ?_
        refine Rn.iadd dX12_passes_181 ?_
        refine Rn.callV2 dX12_passes_182 vX12_434 (rc149 hRN) (by decide) rfl (tX12_draw (M := N) (x := 2 * gl + 1) hb hgn hRN) (by decide) ⟨(Nat.le_of_ble_eq_true rfl), (Nat.le_of_ble_eq_true rfl), (Nat.le_of_ble_eq_true rfl)⟩ (fun h => by cases h) (fun v1 ly1 N1 ⟨q1, q2, q3⟩ => ?_)
        rw [q1, q2]
        have t2 : N1.2.2 = M.2.2 := by rw [q3]; exact hF.1
        have t3 : ∀ a, a ≠ 170 → N1.1 a = N.1 a := fun a h => by rw [q3]; exact sI_ne h
        have t4 : N1.1 170 = upd (N.1 170) b (nxR (N.1 170 b)) := by rw [q3]; rfl
        clear q3
        have hRN1 : RW ly N1.2.2 := by rw [t2]; exact hR
        refine Rn.aload_n dX12_passes_185 rfl ?_
        refine Rn.getR dX12_passes_186 fX12_15 rfl (rc149 hRN1) (show N1.2.2 149 3 = some 151 from (rpt3 hRN1)) ?_
        refine Rn.bipushv (v := 10) dX12_passes_189 bp_10 ?_
        refine Rn.iald dX12_passes_191 (rc151 hRN1) (by unfold vp_in; decide) ?_
        refine Rn.topI (y := N1.1 151 10) (rfl) ?_
        refine Rn.topI (y := gl) ((congrFun ((t3 151 (by decide)).trans e151) 10).trans hgl) ?_
        refine Rn.isub dX12_passes_192 ?_
        refine Rn.topI (y := gus (nxts s.2.2.2.2.2.2.2 (i + 1)) gl) (by rw [drw_eq, g5]; rfl) ?_
        refine Rn.iadd dX12_passes_193 ?_
        refine Rn.iastN (k0 := i) dX12_passes_194 (rc187 hRN1) (by omega) (by decide) ?_
        refine Rn.iincN (lv' := [some (.ref 149), some (.int (nI b)), some (.int (nI (i + 1)))]) dX12_passes_195 rfl (by decide) rfl ?_
        refine Rn.goto dX12_passes_198 ?_
        refine ih (i + 1) _ (by omega) (hF.tr ⟨t2.trans hF.1.symm, fun a a1 a2 a3 a4 a5 => (sI_ne (by omega)).trans (t3 a (by omega)), fun j h => congrFun (t3 149 (by decide)) j, fun a ha j hj => ?_, fun a ha j hj => congrFun ((sI_ne (by omega)).trans (t3 a (by omega))) j, fun a ha j hj => congrFun ((sI_ne (by omega)).trans (t3 a (by omega))) j⟩) (fun w hw => ?_) ⟨⟨⟨(t3 173 (by decide)).trans s1, (t3 174 (by decide)).trans s2, (t3 175 (by decide)).trans s3, (t3 176 (by decide)).trans s4⟩, (congrFun (t3 172 (by decide)) b).trans s5, (congrFun (t3 169 (by decide)) b).trans s6⟩, ⟨fun c hc => (congrFun (t3 186 (by decide)) c).trans (u1 c hc), fun c hc => ?_⟩, ?_⟩
        · refine (congrFun (sI_ne (by omega)) j).trans ?_
          by_cases e : a = 170
          · subst e; rw [t4]; exact pk_un hj
          · exact congrFun (t3 a e) j
        · show wk1 (t + 1) (N1.1 177 _) (N1.1 178 _) (N1.1 179 _) _ _ _
          rw [t3 177 (by decide), t3 178 (by decide), t3 179 (by decide)]
          exact hwk w hw
        · show upd (N1.1 187) i _ c = _
          by_cases e : c = i
          · subst e; rw [pk_us, pre_lt (Nat.lt_succ_self c)]
          · rw [pk_un e, t3 187 (by decide), u2 c hc]
            by_cases e2 : c < i
            · rw [pre_lt e2, pre_lt (by omega)]
            · rw [pre_ge (by omega), pre_ge (by omega)]
        · show N1.1 170 b = _
          rw [t4, pk_us, nxR_eq, g5]; rfl
  have J131 : ∀ N : Mm, psF M N b → (∀ w, w < nw → wk1 (t + 1) (N.1 177 (6 * b + w)) (N.1 178 (6 * b + w)) (N.1 179 (6 * b + w)) (W.1 w) (W.2.1 w) (W.2.2.1 w)) → ((N.1 173 = M.1 173 ∧ N.1 174 = M.1 174 ∧ N.1 175 = M.1 175 ∧ N.1 176 = M.1 176) ∧ N.1 172 b = s.2.2.2.2.2.1 ∧ N.1 169 b = nI t) ∧ ((∀ c, c < 12 → N.1 186 c = W.2.2.2.1 c) ∧ (∀ c, c < 12 → N.1 187 c = W.2.2.2.2 c)) ∧ N.1 170 b = s.2.2.2.2.2.2.2 → Rn G l mX12_passes (7, 0, 0, false) 131 [some (.ref 149), some (.int (nI b)), none] [] ly N Q := by
    intro N hF hwk ⟨⟨⟨s1, s2, s3, s4⟩, s5, s6⟩, ⟨u1, u2⟩, g5⟩
    have hRN : RW ly N.2.2 := by rw [hF.1]; exact hR
    have e151 : N.1 151 = M.1 151 := hF.at 151 (by omega)
    refine Rn.aload_n dX12_passes_131 rfl ?_
    refine Rn.getR dX12_passes_132 fX12_15 rfl (rc149 hRN) (show N.2.2 149 3 = some 151 from (rpt3 hRN)) ?_
    refine Rn.bipushv (v := 10) dX12_passes_135 bp_10 ?_
    refine Rn.iald dX12_passes_137 (rc151 hRN) (by unfold vp_in; decide) ?_
    refine Rn.topI (y := N.1 151 10) (rfl) ?_
    refine Rn.topI (y := gl) ((congrFun e151 10).trans hgl) ?_
    refine Rn.if_le dX12_passes_138 (fun hg0 => ?_) (fun hg0 => ?_)
    · skip
      by_cases hb0 : bl = 0
      · exact J201 N hF hwk ⟨⟨⟨s1, s2, s3, s4⟩, s5, s6⟩, ⟨u1, fun c hc => by rw [hSP]; unfold gsP; rw [if_pos hb0]; exact u2 c hc⟩, by rw [hCH]; unfold gsC; rw [if_pos hb0]; exact g5⟩
      · exact J201 N hF hwk ⟨⟨⟨s1, s2, s3, s4⟩, s5, s6⟩, ⟨u1, fun c hc => by rw [hSP]; unfold gsP; rw [if_neg hb0, if_pos hg0]; exact u2 c hc⟩, by rw [hCH]; unfold gsC; rw [if_neg hb0, if_pos hg0]; exact g5⟩
    · skip
      refine Rn.aload_n dX12_passes_141 rfl ?_
      refine Rn.getR dX12_passes_142 fX12_79 rfl (rc149 hRN) (show N.2.2 149 37 = some 171 from (rpt37 hRN)) ?_
      refine Rn.iload_n dX12_passes_145 rfl ?_
      refine Rn.zaldN (k0 := b) dX12_passes_146 (rc171 hRN) (by omega) (by decide) ?_
      refine Rn.topI (y := bl) ((congrFun (hF.at 171 (by omega)) b).trans hbl) ?_
      refine Rn.if_eq dX12_passes_147 (fun hb0 => ?_) (fun hb0 => ?_)
      · skip
        exact J201 N hF hwk ⟨⟨⟨s1, s2, s3, s4⟩, s5, s6⟩, ⟨u1, fun c hc => by rw [hSP]; unfold gsP; rw [if_pos hb0]; exact u2 c hc⟩, by rw [hCH]; unfold gsC; rw [if_pos hb0]; exact g5⟩
      · skip
        refine Rn.iconstv (v := 0) dX12_passes_150 ic_0 ?_
        refine Rn.istore_n (lv' := [some (.ref 149), some (.int (nI b)), some (.int 0)]) dX12_passes_151 (by decide) rfl ?_
        exact L152 hb0 hg0 n 0 N (by omega) hF hwk ⟨⟨⟨s1, s2, s3, s4⟩, s5, s6⟩, ⟨u1, fun c hc => by rw [pre_0]; exact u2 c hc⟩, g5⟩
  have J85 : ∀ N : Mm, psF M N b → (∀ w, w < nw → wk1 (t + 1) (N.1 177 (6 * b + w)) (N.1 178 (6 * b + w)) (N.1 179 (6 * b + w)) (W.1 w) (W.2.1 w) (W.2.2.1 w)) → ((N.1 173 = M.1 173 ∧ N.1 174 = M.1 174 ∧ N.1 175 = M.1 175 ∧ N.1 176 = M.1 176) ∧ N.1 172 b = s.2.2.2.2.2.1 ∧ N.1 169 b = nI t) ∧ ((∀ c, c < 12 → N.1 186 c = W.2.2.2.1 c + of c) ∧ (∀ c, c < 12 → N.1 187 c = W.2.2.2.2 c)) ∧ N.1 170 b = s.2.2.2.2.2.2.2 → Rn G l mX12_passes (7, 0, 0, false) 85 [some (.ref 149), some (.int (nI b)), none] [] ly N Q := by
    intro N hF hwk ⟨⟨⟨s1, s2, s3, s4⟩, s5, s6⟩, ⟨u1, u2⟩, g5⟩
    have hRN : RW ly N.2.2 := by rw [hF.1]; exact hR
    have e151 : N.1 151 = M.1 151 := hF.at 151 (by omega)
    rcases hpm with ⟨m1, m2⟩ | ⟨q, hq, m1, m2⟩
    · skip
      refine Rn.aload_n dX12_passes_85 rfl ?_
      refine Rn.getI dX12_passes_86 fX12_129 rfl (rc149 hRN) ?_
      refine Rn.topI (y := (-1)) ((hF.2.2.1 57 (by decide)).trans m1) ?_
      refine Rn.iconstv (v := -1) dX12_passes_89 ic_m1 ?_
      refine Rn.icmp_eq dX12_passes_90 (fun hm => ?_) (fun hm => ?_)
      · skip
        exact J131 N hF hwk ⟨⟨⟨s1, s2, s3, s4⟩, s5, s6⟩, ⟨fun c hc => by rw [u1 c hc, m2 c hc, Int32.add_zero], u2⟩, g5⟩
      · skip
        exact absurd rfl hm
    · skip
      refine Rn.aload_n dX12_passes_85 rfl ?_
      refine Rn.getI dX12_passes_86 fX12_129 rfl (rc149 hRN) ?_
      refine Rn.topI (y := nI q) ((hF.2.2.1 57 (by decide)).trans m1) ?_
      refine Rn.iconstv (v := -1) dX12_passes_89 ic_m1 ?_
      refine Rn.icmp_eq dX12_passes_90 (fun hm => ?_) (fun hm => ?_)
      · skip
        exact absurd hm (fun h => nI_pos (n := q) (by omega) (by rw [h]; decide))
      · skip
        refine Rn.aload_n dX12_passes_93 rfl ?_
        refine Rn.getI dX12_passes_94 fX12_425 rfl (rc149 hRN) ?_
        refine Rn.topI (y := M.1 149 59) ((hF.2.2.1 59 (by decide))) ?_
        refine Rn.aload_n dX12_passes_97 rfl ?_
        refine Rn.getR dX12_passes_98 fX12_73 rfl (rc149 hRN) (show N.2.2 149 35 = some 169 from (rpt35 hRN)) ?_
        refine Rn.iload_n dX12_passes_101 rfl ?_
        refine Rn.ialdN (k0 := b) dX12_passes_102 (rc169 hRN) (by omega) (by decide) ?_
        refine Rn.topI (y := M.1 169 b) (s6.trans r7.symm) ?_
        refine Rn.aload_n dX12_passes_103 rfl ?_
        refine Rn.getI dX12_passes_104 fX12_428 rfl (rc149 hRN) ?_
        refine Rn.topI (y := M.1 149 60) ((hF.2.2.1 60 (by decide))) ?_
        refine Rn.isub dX12_passes_107 ?_
        refine Rn.ishr dX12_passes_108 ?_
        refine Rn.iconstv (v := 1) dX12_passes_109 ic_1 ?_
        refine Rn.iand dX12_passes_110 ?_
        refine Rn.iconstv (v := 1) dX12_passes_111 ic_1 ?_
        refine Rn.icmp_ne dX12_passes_112 (fun hbit => ?_) (fun hbit => ?_)
        · skip
          exact J131 N hF hwk ⟨⟨⟨s1, s2, s3, s4⟩, s5, s6⟩, ⟨fun c hc => by rw [u1 c hc, m2 c hc, if_neg hbit, ite_self, Int32.add_zero], u2⟩, g5⟩
        · skip
          refine Rn.aload_n dX12_passes_115 rfl ?_
          refine Rn.getR dX12_passes_116 fX12_132 rfl (rc149 hRN) (show N.2.2 149 63 = some 186 from (rpt63 hRN)) ?_
          refine Rn.aload_n dX12_passes_119 rfl ?_
          refine Rn.getI dX12_passes_120 fX12_129 rfl (rc149 hRN) ?_
          refine Rn.topI (y := nI q) ((hF.2.2.1 57 (by decide)).trans m1) ?_
          refine Rn.dup2 dX12_passes_123 rfl rfl ?_
          refine Rn.ialdN (k0 := q) dX12_passes_124 (rc186 hRN) (by omega) (by decide) ?_
          refine Rn.aload_n dX12_passes_125 rfl ?_
          refine Rn.getI dX12_passes_126 fX12_431 rfl (rc149 hRN) ?_
          refine Rn.topI (y := M.1 149 58) ((hF.2.2.1 58 (by decide))) ?_
          refine Rn.isub dX12_passes_129 ?_
          refine Rn.iastN (k0 := q) dX12_passes_130 (rc186 hRN) (by omega) (by decide) ?_
          refine J131 _ (hF.tr ⟨rfl, fun a a1 a2 a3 a4 a5 => sI_ne (by omega), fun j h => rfl, fun a ha j hj => congrFun (sI_ne (by omega)) j, fun a ha j hj => congrFun (sI_ne (by omega)) j, fun a ha j hj => congrFun (sI_ne (by omega)) j⟩) hwk ⟨⟨⟨s1, s2, s3, s4⟩, s5, s6⟩, ⟨fun c hc => ?_, u2⟩, g5⟩
          show upd (N.1 186) q _ c = _
          by_cases e : c = q
          · subst e
            rw [pk_us, u1 c hc, m2 c hc, if_pos rfl, if_pos hbit]
            exact Int32.add_sub_cancel _ _
          · rw [pk_un e, u1 c hc, m2 c hc, if_neg e, Int32.add_zero]
  refine Rn.iconstv (v := 0) dX12_passes_0 ic_0 ?_
  refine Rn.istore_n (lv' := [some (.ref 149), some (.int (nI b)), some (.int 0)]) dX12_passes_1 (by decide) rfl ?_
  refine Rn.meq (M2 := sI (sI M 186 (pre 0 (fun _ => 0) (M.1 186))) 187 (pre 0 (fun _ => 0) (M.1 187))) (by simp only [pre_0]; exact Eq.symm ((sI_sf rfl).trans (sI_sf rfl))) ?_
  have loop : ∀ (k i : Nat) , i + k = 12 → Rn G l mX12_passes (7, 0, 0, false) 2 [some (.ref 149), some (.int (nI b)), some (.int (nI i))] [] ly (sI (sI M 186 (pre i (fun _ => 0) (M.1 186))) 187 (pre i (fun _ => 0) (M.1 187))) Q := by
    intro k
    induction k with
    | zero =>
      intro i  hi 
      refine Rn.iload_n dX12_passes_2 rfl ?_
      refine Rn.bipushv (v := 12) dX12_passes_3 bp_12 ?_
      refine Rn.icmp_ge dX12_passes_5 (fun hc => ?_) (fun hc => ?_)
      · skip
        have hi : i = 12 := by omega
        subst hi
        refine Rn.forget (lv' := [some (.ref 149), some (.int (nI b)), none]) (⟨rfl, ⟨rfl, trivial⟩⟩) ?_
        have hZ1 : ∀ c, c < 12 → (sI (sI M 186 (pre 12 (fun _ => 0) (M.1 186))) 187 (pre 12 (fun _ => 0) (M.1 187))).1 186 c = 0 := fun c hc => show pre 12 (fun _ => 0) (M.1 186) c = 0 from pre_lt hc
        have hZ2 : ∀ c, c < 12 → (sI (sI M 186 (pre 12 (fun _ => 0) (M.1 186))) 187 (pre 12 (fun _ => 0) (M.1 187))).1 187 c = 0 := fun c hc => show pre 12 (fun _ => 0) (M.1 187) c = 0 from pre_lt hc
        have hZ3 : ∀ a, a ≠ 186 → a ≠ 187 → (sI (sI M 186 (pre 12 (fun _ => 0) (M.1 186))) 187 (pre 12 (fun _ => 0) (M.1 187))).1 a = M.1 a := fun a a1 a2 => (sI_ne a2).trans (sI_ne a1)
        have hZ4 : (sI (sI M 186 (pre 12 (fun _ => 0) (M.1 186))) 187 (pre 12 (fun _ => 0) (M.1 187))).2.2 = M.2.2 := rfl
        revert hZ1 hZ2 hZ3 hZ4
        generalize (sI (sI M 186 (pre 12 (fun _ => 0) (M.1 186))) 187 (pre 12 (fun _ => 0) (M.1 187))) = N
        intro hZ1 hZ2 hZ3 hZ4
        have hRN : RW ly N.2.2 := by rw [hZ4]; exact hR
        have hFN : psF M N b := ⟨hZ4, fun a a1 a2 a3 a4 a5 => hZ3 a (by omega) (by omega), fun j h => congrFun (hZ3 149 (by decide) (by decide)) j, fun a ha j hj => congrFun (hZ3 a (by omega) (by omega)) j, fun a ha j hj => congrFun (hZ3 a (by omega) (by omega)) j, fun a ha j hj => congrFun (hZ3 a (by omega) (by omega)) j⟩
        have hrW : rWk N.1 b nw (fun _ => t) of (s.2.2.2.2.1.1, s.2.2.2.2.1.2.1, s.2.2.2.2.1.2.2.1, p1, s.2.2.2.2.1.2.2.2.2) := ⟨fun w hw => by rw [hZ3 177 (by decide) (by decide), hZ3 178 (by decide) (by decide), hZ3 179 (by decide) (by decide)]; exact r5 w hw, fun c hc => (hZ1 c hc).trans (hp1 c hc).symm, fun c hc => (hZ2 c hc).trans (r10 c hc).symm⟩
        have to85 : nw ≤ 6 → ∀ K : Mm, tdF N K → bk6 N K b → rWk K.1 b nw (fun _ => t + 1) of (itF (wkG (nI n) (nI t) het (N.1 172 b) 0 (sh (12 * b) (N.1 173)) wt bt fr wy sy pv sv) nw (s.2.2.2.2.1.1, s.2.2.2.2.1.2.1, s.2.2.2.2.1.2.2.1, p1, s.2.2.2.2.1.2.2.2.2)) → Rn G l mX12_passes (7, 0, 0, false) 85 [some (.ref 149), some (.int (nI b)), none] [] ly K Q := by
          intro hw6 K k1 k2 k3
          have e5 : w5E (itF (wkG (nI n) (nI t) het (N.1 172 b) 0 (sh (12 * b) (N.1 173)) wt bt fr wy sy pv sv) nw (s.2.2.2.2.1.1, s.2.2.2.2.1.2.1, s.2.2.2.2.1.2.2.1, p1, s.2.2.2.2.1.2.2.2.2)) W := by
            rw [hW]
            refine itF_E (E := w5E) w5E.rf nw (fun i a c hi hac => ?_)
            rw [(hZ3 172 (by decide) (by decide)), r6, r7b]
            exact wkG_E hn12 (by omega) (by rw [(hZ3 173 (by decide) (by decide))]; exact r1) hac
          have k4 := k3.E hw6 e5
          have ek : ∀ a, a ≠ 149 → a ≠ 177 → a ≠ 178 → a ≠ 179 → a ≠ 186 → a ≠ 187 → K.1 a = M.1 a := fun a a1 a2 a3 a4 a5 a6 => (k1.2.1 a a1 a2 a3 a4 a5 a6).trans (hZ3 a a5 a6)
          exact J85 K (hFN.tr (psF.of_td k1 k2)) k4.1 ⟨⟨⟨ek 173 (by decide) (by decide) (by decide) (by decide) (by decide) (by decide), ek 174 (by decide) (by decide) (by decide) (by decide) (by decide) (by decide), ek 175 (by decide) (by decide) (by decide) (by decide) (by decide) (by decide), ek 176 (by decide) (by decide) (by decide) (by decide) (by decide) (by decide)⟩, (congrFun (ek 172 (by decide) (by decide) (by decide) (by decide) (by decide) (by decide)) b).trans r6, (congrFun (ek 169 (by decide) (by decide) (by decide) (by decide) (by decide) (by decide)) b).trans r7⟩, k4.2, (congrFun (ek 170 (by decide) (by decide) (by decide) (by decide) (by decide) (by decide)) b).trans r8⟩
        have e49 : ∀ j, N.1 149 j = M.1 149 j := fun j => congrFun (hZ3 149 (by decide) (by decide)) j
        rcases hmd with ⟨m1, m2⟩ | ⟨sb, m1, m2, m3, m4, m5, m6, m7, m8⟩
        · skip
          refine Rn.aload_n dX12_passes_28 rfl ?_
          refine Rn.getI dX12_passes_29 fX12_396 rfl (rc149 hRN) ?_
          refine Rn.topI (y := 0) ((e49 62).trans m1) ?_
          refine Rn.if_le dX12_passes_32 (fun hsb => ?_) (fun hsb => ?_)
          · skip
            refine Rn.aload_n dX12_passes_80 rfl ?_
            refine Rn.iload_n dX12_passes_81 rfl ?_
            refine Rn.callV1 dX12_passes_82 vX12_422 (rc149 hRN) (by decide) rfl (tX12_walks (M := N) (n := n) (nw := nw) (t := t) (het := het) (of := of) (pv := pv) (sv := sv) (s := (s.2.2.2.2.1.1, s.2.2.2.2.1.2.1, s.2.2.2.2.1.2.2.1, p1, s.2.2.2.2.1.2.2.2.2)) (Q := fun v0 ly0 K => v0 = none ∧ ly0 = ly ∧ tdF N K ∧ bk6 N K b ∧ rWk K.1 b nw (fun _ => t + 1) of (itF (wkG (nI n) (nI t) het (N.1 172 b) 0 (sh (12 * b) (N.1 173)) wt bt fr wy sy pv sv) nw (s.2.2.2.2.1.1, s.2.2.2.2.1.2.1, s.2.2.2.2.1.2.2.1, p1, s.2.2.2.2.1.2.2.2.2))) hb ((congrFun (hZ3 151 (by decide) (by decide)) 0).trans hn) hn12 ((e49 56).trans hkp) hkp5 (hlp.mv (fun a h => hZ3 a (by omega) (by omega))) (hls.mv (fun a h => hZ3 a (by omega) (by omega))) (m2.mv (fun a h => hZ3 a (by omega) (by omega))) ((congrFun (hZ3 169 (by decide) (by decide)) b).trans r7) ht2 hpv (fun m => by rw [e49 55]; exact hsv m) (by rw [e49 55, (hZ3 151 (by decide) (by decide))]; exact hhet) hrW hRN (fun K a c d => ⟨rfl, rfl, a, c, d⟩)) (by decide) ⟨(Nat.le_of_ble_eq_true rfl), (Nat.le_of_ble_eq_true rfl), (Nat.le_of_ble_eq_true rfl)⟩ (fun h => by cases h) (fun v1 ly1 K ⟨q1, q2, k1, k2, k3⟩ => ?_)
            rw [q1, q2]
            exact to85 m2.2.1 K k1 k2 k3
          · skip
            exact absurd (Int32.le_refl 0) hsb
        · skip
          subst m4
          refine Rn.aload_n dX12_passes_28 rfl ?_
          refine Rn.getI dX12_passes_29 fX12_396 rfl (rc149 hRN) ?_
          refine Rn.topI (y := nI sb) ((e49 62).trans m3) ?_
          refine Rn.if_le dX12_passes_32 (fun hsb => ?_) (fun hsb => ?_)
          · skip
            exact absurd hsb (nI_nle (by omega) (by omega))
          · skip
            have h0 := hrW.1 0 (by omega)
            refine Rn.aload_n dX12_passes_35 rfl ?_
            refine Rn.getR dX12_passes_36 fX12_104 rfl (rc149 hRN) (show N.2.2 149 45 = some 179 from (rpt45 hRN)) ?_
            refine Rn.bipushv (v := 6) dX12_passes_39 bp_6 ?_
            refine Rn.iload_n dX12_passes_41 rfl ?_
            refine Rn.imul dX12_passes_42 ?_
            refine Rn.topI (y := nI (6 * b)) (nI_mul 6 b) ?_
            refine Rn.ialdN (k0 := (6 * b)) dX12_passes_43 (rc179 hRN) (by omega) (by decide) ?_
            refine Rn.iconstv (v := 2) dX12_passes_44 ic_2 ?_
            refine Rn.icmp_eq dX12_passes_45 (fun hg2 => ?_) (fun hg2 => ?_)
            · skip
              exact to85 (by omega) N tdF.rf bk6.rf (by show rWk N.1 b 1 (fun _ => t + 1) of (wkG (nI n) (nI t) het (N.1 172 b) 0 (sh (12 * b) (N.1 173)) wt bt fr wy sy pv sv 0 (s.2.2.2.2.1.1, s.2.2.2.2.1.2.1, s.2.2.2.2.1.2.2.1, p1, s.2.2.2.2.1.2.2.2.2)); rw [wkG_a (s := (s.2.2.2.2.1.1, s.2.2.2.2.1.2.1, s.2.2.2.2.1.2.2.1, p1, s.2.2.2.2.1.2.2.2.2)) (h0.2.1.symm.trans hg2)]; exact ⟨fun w hw => (hrW.1 w hw).up (Nat.le_succ t), hrW.2⟩)
            · skip
              have hns : ¬ s.2.2.2.2.1.2.2.1 0 = 2 := fun h => hg2 (h0.2.1.trans h)
              refine Rn.aload_n dX12_passes_48 rfl ?_
              refine Rn.getR dX12_passes_49 fX12_73 rfl (rc149 hRN) (show N.2.2 149 35 = some 169 from (rpt35 hRN)) ?_
              refine Rn.iload_n dX12_passes_52 rfl ?_
              refine Rn.ialdN (k0 := b) dX12_passes_53 (rc169 hRN) (by omega) (by decide) ?_
              refine Rn.topI (y := nI t) ((congrFun (hZ3 169 (by decide) (by decide)) b).trans r7) ?_
              refine Rn.aload_n dX12_passes_54 rfl ?_
              refine Rn.getI dX12_passes_55 fX12_396 rfl (rc149 hRN) ?_
              refine Rn.topI (y := nI sb) ((e49 62).trans m3) ?_
              refine Rn.irem dX12_passes_58 (nI_ne0 (by omega) (by omega)) ?_
              refine Rn.if_ne dX12_passes_59 (fun hrm => ?_) (fun hrm => ?_)
              · skip
                exact to85 (by omega) N tdF.rf bk6.rf (by show rWk N.1 b 1 (fun _ => t + 1) of (wkG (nI n) (nI t) het (N.1 172 b) 0 (sh (12 * b) (N.1 173)) wt bt fr wy sy pv sv 0 (s.2.2.2.2.1.1, s.2.2.2.2.1.2.1, s.2.2.2.2.1.2.2.1, p1, s.2.2.2.2.1.2.2.2.2)); rw [wkG_b (s := (s.2.2.2.2.1.1, s.2.2.2.2.1.2.1, s.2.2.2.2.1.2.2.1, p1, s.2.2.2.2.1.2.2.2.2)) hns (by rw [m7, m6, show (0 : Int32) = nI 0 from rfl, stp_ge (Nat.zero_le t) (by omega) m1 (by omega), show nI t - nI 0 = nI t from Int32.sub_zero _]; exact if_neg hrm)]; exact ⟨fun w hw => (hrW.1 w hw).up (Nat.le_succ t), hrW.2⟩)
              · skip
                have hst : ¬ stpAt (nI t) (fr 0) (bt 0) = 0 := by rw [m7, m6, show (0 : Int32) = nI 0 from rfl, stp_ge (Nat.zero_le t) (by omega) m1 (by omega), show nI t - nI 0 = nI t from Int32.sub_zero _]; rw [if_pos hrm]; decide
                refine Rn.aload_n dX12_passes_62 rfl ?_
                refine Rn.iload_n dX12_passes_63 rfl ?_
                refine Rn.bipushv (v := 6) dX12_passes_64 bp_6 ?_
                refine Rn.iload_n dX12_passes_66 rfl ?_
                refine Rn.imul dX12_passes_67 ?_
                refine Rn.topI (y := nI (6 * b)) (nI_mul 6 b) ?_
                refine Rn.iconstv (v := 1) dX12_passes_68 ic_1 ?_
                refine Rn.iconstv (v := 0) dX12_passes_69 ic_0 ?_
                refine Rn.aload_n dX12_passes_70 rfl ?_
                refine Rn.getI dX12_passes_71 fX12_393 rfl (rc149 hRN) ?_
                refine Rn.topI (y := wt 0) ((e49 61).trans m5) ?_
                obtain ⟨x, hx⟩ : ∃ x : Int32, x = if N.1 179 (6 * b) = 0 then 0 else N.1 177 (6 * b) + 1 := ⟨_, rfl⟩
                have htr : ∀ K : Mm, _ → _ := fun K h => tread_rel (K := K.1) (tim := nI t) (het := het) (lost := N.1 172 b) (ou := sh (12 * b) (N.1 173)) (wt := wt) (wy := wy) (sy := sy) (pv := pv) (sv := sv) (w := 0) (x := x) (n := n) hrW (by omega) (t := t) (Nat.le_refl t) ht2 hn12 hns (by rw [m8]; exact hx) h
                refine Rn.callV5 dX12_passes_74 vX12_399 (rc149 hRN) (by decide) rfl (tX12_treads (M := N) (x := x) (b := b) (i := 6 * b) (n := n) (kp := kp) (Q := fun v0 ly0 K => v0 = none ∧ ly0 = ly ∧ tdF N K ∧ bk6 N K b ∧ rWk K.1 b 1 (fun v => if v = 0 then t + 1 else t) of (stF (nI n) (nI t) het (N.1 172 b) 0 (sh (12 * b) (N.1 173)) wt wy sy pv sv 0 (s.2.2.2.2.1.1, s.2.2.2.2.1.2.1, s.2.2.2.2.1.2.2.1, p1, s.2.2.2.2.1.2.2.2.2))) hb (by omega) ((congrFun (hZ3 151 (by decide) (by decide)) 0).trans hn) hn12 ((e49 56).trans hkp) hkp5 (hlp.mv (fun a h => hZ3 a (by omega) (by omega))) (hls.mv (fun a h => hZ3 a (by omega) (by omega))) hx hRN ⟨fun h K k1 k2 k3 k4 k5 k6 => ⟨rfl, rfl, k1, bk6.of (w := 0) (by omega) k2 k3 k4, htr K (Or.inl ⟨h, k2, k3, k4, k5, k6⟩)⟩, fun c hc hxc hl K k1 k2 k3 k4 k5 k6 => ⟨rfl, rfl, k1, bk6.of (w := 0) (by omega) k2 k3 k4, htr K (Or.inr ⟨c, hc, hxc, hl, k2, k3, k4, by rw [k5, congrFun (hZ3 169 (by decide) (by decide)) b, r7, e49 55, congrFun (hZ3 151 (by decide) (by decide)) 4, hhet, hpv]; rfl, by rw [k6, congrFun (hZ3 169 (by decide) (by decide)) b, r7, e49 55, congrFun (hZ3 151 (by decide) (by decide)) 4, hhet, hsv]; rfl⟩)⟩⟩) (by decide) ⟨(Nat.le_of_ble_eq_true rfl), (Nat.le_of_ble_eq_true rfl), (Nat.le_of_ble_eq_true rfl)⟩ (fun h => by cases h) (fun v1 ly1 K ⟨q1, q2, k1, k2, k3⟩ => ?_)
                rw [q1, q2]
                refine Rn.goto dX12_passes_77 ?_
                exact to85 (by omega) K k1 k2 (by show rWk K.1 b 1 (fun _ => t + 1) of (wkG (nI n) (nI t) het (N.1 172 b) 0 (sh (12 * b) (N.1 173)) wt bt fr wy sy pv sv 0 (s.2.2.2.2.1.1, s.2.2.2.2.1.2.1, s.2.2.2.2.1.2.2.1, p1, s.2.2.2.2.1.2.2.2.2)); rw [wkG_c (s := (s.2.2.2.2.1.1, s.2.2.2.2.1.2.1, s.2.2.2.2.1.2.2.1, p1, s.2.2.2.2.1.2.2.2.2)) hns hst]; exact ⟨fun w hw => (k3.1 w hw).up (by show (if w = 0 then t + 1 else t) ≤ t + 1; split <;> omega), k3.2⟩)
      · exact absurd (nI_le (a := 12) (b := i) (by omega) (by omega)) hc
    | succ k ih =>
      intro i  hi 
      refine Rn.iload_n dX12_passes_2 rfl ?_
      refine Rn.bipushv (v := 12) dX12_passes_3 bp_12 ?_
      refine Rn.icmp_ge dX12_passes_5 (fun hc => ?_) (fun hc => ?_)
      · exact absurd hc (nI_ge (a := i) (b := 12) (by omega) (by omega))
      · skip
        refine Rn.aload_n dX12_passes_8 rfl ?_
        refine Rn.getR dX12_passes_9 fX12_132 rfl (rc149 hR) (show M.2.2 149 63 = some 186 from (rpt63 hR)) ?_
        refine Rn.iload_n dX12_passes_12 rfl ?_
        refine Rn.iconstv (v := 0) dX12_passes_13 ic_0 ?_
        refine Rn.iastN (k0 := i) dX12_passes_14 (rc186 hR) (by omega) (by decide) ?_
        refine Rn.meq (M2 := sI (sI M 186 (upd (pre i (fun _ => 0) (M.1 186)) i 0)) 187 (pre i (fun _ => 0) (M.1 187))) ((sI_comm (show 187 ≠ 186 by decide)).trans (congrArg (fun m9 => sI m9 187 (pre i (fun _ => 0) (M.1 187))) (sI_sI _ _ _ _))) ?_
        refine Rn.aload_n dX12_passes_15 rfl ?_
        refine Rn.getR dX12_passes_16 fX12_135 rfl (rc149 hR) (show M.2.2 149 64 = some 187 from (rpt64 hR)) ?_
        refine Rn.iload_n dX12_passes_19 rfl ?_
        refine Rn.iconstv (v := 0) dX12_passes_20 ic_0 ?_
        refine Rn.iastN (k0 := i) dX12_passes_21 (rc187 hR) (by omega) (by decide) ?_
        refine Rn.meq (M2 := sI (sI M 186 (upd (pre i (fun _ => 0) (M.1 186)) i 0)) 187 (upd (pre i (fun _ => 0) (M.1 187)) i 0)) (sI_sI _ _ _ _) ?_
        refine Rn.meq (M2 := sI (sI M 186 (pre (i + 1) (fun _ => 0) (M.1 186))) 187 (upd (pre i (fun _ => 0) (M.1 187)) i 0)) (congrArg (fun m9 => sI m9 187 (upd (pre i (fun _ => 0) (M.1 187)) i 0)) (congrArg (fun r9 => sI M 186 r9) (pre_up i (fun _ => 0) (M.1 186)))) ?_
        refine Rn.meq (M2 := sI (sI M 186 (pre (i + 1) (fun _ => 0) (M.1 186))) 187 (pre (i + 1) (fun _ => 0) (M.1 187))) (congrArg (fun r9 => sI (sI M 186 (pre (i + 1) (fun _ => 0) (M.1 186))) 187 r9) (pre_up i (fun _ => 0) (M.1 187))) ?_
        refine Rn.iincN (lv' := [some (.ref 149), some (.int (nI b)), some (.int (nI (i + 1)))]) dX12_passes_22 rfl (by decide) rfl ?_
        refine Rn.goto dX12_passes_25 ?_
        exact ih (i + 1) (by omega)
  exact loop 12 0 (by omega)
