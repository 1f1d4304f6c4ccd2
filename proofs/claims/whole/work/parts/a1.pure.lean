/-- alike but for the side and chance -/
def wE4 (s t : W5) : Prop := s.1 = t.1 ∧ s.2.1 = t.2.1 ∧ s.2.2.1 = t.2.2.1 ∧ s.2.2.2.1 = t.2.2.2.1
def uE (s t : Sc) : Prop := s.1 = t.1 ∧ s.2.1 = t.2.1 ∧ wE4 s.2.2.2.2.1 t.2.2.2.2.1 ∧ s.2.2.2.2.2.1 = t.2.2.2.2.2.1 ∧ s.2.2.2.2.2.2.1 = t.2.2.2.2.2.2.1
theorem uE.rf {s : Sc} : uE s s := ⟨rfl, rfl, ⟨rfl, rfl, rfl, rfl⟩, rfl, rfl⟩
theorem stF_u {n tim het lost upo upo2 : Int32} {ou wt wy sy : Nat → Int32} {pv sv sv2 : (Nat → Int32) → Int64} {w : Nat} {s t : W5} (h : wE4 s t) : wE4 (stF n tim het lost upo ou wt wy sy pv sv w s) (stF n tim het lost upo2 ou wt wy sy pv sv2 w t) := by
  obtain ⟨h1, h2, h3, h4⟩ := h
  unfold stF
  rw [h1, h2]
  split
  · exact ⟨h1, by show upd s.2.1 w (s.2.1 w + 1) = _; rw [h2]; rfl, by show upd s.2.2.1 w 2 = _; rw [h3]; rfl, h4⟩
  · exact ⟨by show upd s.1 w _ = _; rw [h1]; rfl, by show upd s.2.1 w (s.2.1 w + 1) = _; rw [h2]; rfl, by show upd s.2.2.1 w 1 = _; rw [h3]; rfl, by show upd s.2.2.2.1 _ (s.2.2.2.1 _ - _) = _; rw [h4]; rfl⟩
theorem wkG_u {n tim het lost upo upo2 : Int32} {ou wt bt fr wy sy : Nat → Int32} {pv sv sv2 : (Nat → Int32) → Int64} {w : Nat} {s t : W5} (h : wE4 s t) : wE4 (wkG n tim het lost upo ou wt bt fr wy sy pv sv w s) (wkG n tim het lost upo2 ou wt bt fr wy sy pv sv2 w t) := by
  unfold wkG
  rw [h.2.2.1]
  split
  · exact h
  · split
    · exact h
    · exact stF_u h
theorem pas_u {n nw : Nat} {su ss ss2 hd gl gl2 het bl bl2 upo upo2 : Int32} {ca wt bt fr wy sy : Nat → Int32} {pv sv sv2 : (Nat → Int32) → Int64} {s t : Sc} (h : uE s t) : uE (pasF n nw su ss hd gl het bl upo ca wt bt fr wy sy pv sv s) (pasF n nw su ss2 hd gl2 het bl2 upo2 ca wt bt fr wy sy pv sv2 t) := by
  obtain ⟨h1, h2, h3, h4, h5⟩ := h
  have hw : wE4 (itF (wkG (nI n) s.2.2.2.2.2.2.1 het s.2.2.2.2.2.1 upo s.1 wt bt fr wy sy pv sv) nw s.2.2.2.2.1) (itF (wkG (nI n) t.2.2.2.2.2.2.1 het t.2.2.2.2.2.1 upo2 t.1 wt bt fr wy sy pv sv2) nw t.2.2.2.2.1) := by
    rw [h1, h4, h5]
    exact itF_E h3 nw (fun i a b _ e => wkG_u e)
  obtain ⟨w1, w2, w3, w4⟩ := hw
  unfold pasF
  refine ⟨?_, ?_, ⟨w1, w2, w3, ?_⟩, ?_, ?_⟩
  · show pre n (nou _ _ _ _ _ n) _ = pre n (nou _ _ _ _ _ n) _
    rw [w4, h1, h2]
  · show pre n (nsp _ _ _ _ _ n) _ = pre n (nsp _ _ _ _ _ n) _
    rw [w4, h1, h2]
  · show pre n _ _ = pre n _ _
    rw [w4]
  · show (if hd ≤ 0 then _ else lsP _ hd _ n) = (if hd ≤ 0 then _ else lsP _ hd _ n)
    rw [w4, h1, h2, h4]
  · show s.2.2.2.2.2.2.1 + 1 = t.2.2.2.2.2.2.1 + 1
    rw [h5]
theorem itT_u {T T2 : Sc → Sc} (hT : ∀ a b, uE a b → uE (T a) (T2 b)) {s t : Sc} (h : uE s t) (k : Nat) : uE (itF (fun _ => T) k s) (itF (fun _ => T2) k t) := itF_E h k (fun _ a b _ e => hT a b e)
theorem hgS_u {T T2 : Sc → Sc} (hT : ∀ a b, uE a b → uE (T a) (T2 b)) {s t : Sc} (h : uE s t) {n : Nat} : ∀ k : Nat, hgS T s n k = hgS T2 t n k
  | 0 => rfl
  | k + 1 => by
    show mx (hgS T s n k) (gr (itF (fun _ => T) (k + 1) s).1 n) = mx (hgS T2 t n k) (gr (itF (fun _ => T2) (k + 1) t).1 n)
    rw [hgS_u hT h k, (itT_u hT h (k + 1)).1]
theorem crk_u {T T2 : Sc → Sc} (hT : ∀ a b, uE a b → uE (T a) (T2 b)) {s t : Sc} (h : uE s t) {c : Nat} {wk : Int32} : ∀ f k : Nat, crk T s c wk f k = crk T2 t c wk f k
  | 0, _ => rfl
  | f + 1, k => by
    show (if wk ≤ ab ((itF (fun _ => T) k s).1 c) then nI k else crk T s c wk f (k + 1)) = (if wk ≤ ab ((itF (fun _ => T2) k t).1 c) then nI k else crk T2 t c wk f (k + 1))
    rw [(itT_u hT h k).1, crk_u hT h f (k + 1)]
theorem allB_c {f g : Nat → Bool} (h : ∀ i, f i = g i) (n : Nat) : allB f n = allB g n := by rw [show f = g from funext h]
theorem soB_u {T T2 : Sc → Sc} (hT : ∀ a b, uE a b → uE (T a) (T2 b)) {s t : Sc} (h : uE s t) {b : Int32} {tm ce mu al : Nat → Int32} {ng L : Nat} : soB T s b tm ce mu al ng L = soB T2 t b tm ce mu al ng L := by
  unfold soB
  refine allB_c (fun i => ?_) L
  rw [(itT_u hT h (i + 1)).1]
theorem pmI_u {T T2 : Sc → Sc} (hT : ∀ a b, uE a b → uE (T a) (T2 b)) {s t : Sc} (h : uE s t) {c : Nat} {x F : Int32} (k : Nat) : uE (pmI T c x F s k) (pmI T2 c x F t k) := by
  unfold pmI
  refine itF_E h k (fun i a b _ e => hT _ _ ?_)
  obtain ⟨h1, h2, ⟨h3, h4, h5, h6⟩, h7, h8⟩ := e
  refine ⟨h1, h2, ⟨h3, h4, h5, ?_⟩, h7, h8⟩
  show upd a.2.2.2.2.1.2.2.2.1 c (a.2.2.2.2.1.2.2.2.1 c - _) = upd b.2.2.2.2.1.2.2.2.1 c (b.2.2.2.2.1.2.2.2.1 c - _)
  rw [h6]
theorem pmG_u {T T2 : Sc → Sc} (hT : ∀ a b, uE a b → uE (T a) (T2 b)) {s t : Sc} (h : uE s t) {c n N : Nat} {F : Int32} : ∀ k : Nat, pmG T c F s n N k = pmG T2 c F t n N k
  | 0 => rfl
  | k + 1 => by
    show (if gr (pmI T c (nI k) F s N).1 n ≤ pmG T c F s n N k then pmG T c F s n N k else gr (pmI T c (nI k) F s N).1 n) = (if gr (pmI T2 c (nI k) F t N).1 n ≤ pmG T2 c F t n N k then pmG T2 c F t n N k else gr (pmI T2 c (nI k) F t N).1 n)
    rw [pmG_u hT h k, (pmI_u hT h N).1]
/-- the first set is always taken -/
theorem pmG_nn {T : Sc → Sc} {s : Sc} {c n N : Nat} {F : Int32} : ∀ k : Nat, 0 ≤ pmG T c F s n N (k + 1)
  | 0 => by
    show (0 : Int32) ≤ (if gr (pmI T c (nI 0) F s N).1 n ≤ -1 then -1 else gr (pmI T c (nI 0) F s N).1 n)
    have h := gr_nn (f := (pmI T c (nI 0) F s N).1) n
    split
    · rename_i h2; exact absurd (Int32.le_trans h h2) (by decide)
    · exact h
  | k + 1 => by
    show (0 : Int32) ≤ (if gr (pmI T c (nI (k + 1)) F s N).1 n ≤ pmG T c F s n N (k + 1) then pmG T c F s n N (k + 1) else gr (pmI T c (nI (k + 1)) F s N).1 n)
    split
    · exact pmG_nn k
    · exact gr_nn n
theorem pmB_u {T T2 : Sc → Sc} (hT : ∀ a b, uE a b → uE (T a) (T2 b)) {s t : Sc} (h : uE s t) {c n N : Nat} {F b0 b1 : Int32} : ∀ k : Nat, pmB T c F s n N b0 (k + 1) = pmB T2 c F t n N b1 (k + 1)
  | 0 => by
    show (if gr (pmI T c (nI 0) F s N).1 n ≤ -1 then b0 else nI 0) = (if gr (pmI T2 c (nI 0) F t N).1 n ≤ -1 then b1 else nI 0)
    rw [if_neg (fun q => absurd (Int32.le_trans (gr_nn n) q) (by decide)), if_neg (fun q => absurd (Int32.le_trans (gr_nn n) q) (by decide))]
  | k + 1 => by
    show (if gr (pmI T c (nI (k + 1)) F s N).1 n ≤ pmG T c F s n N (k + 1) then pmB T c F s n N b0 (k + 1) else nI (k + 1)) = (if gr (pmI T2 c (nI (k + 1)) F t N).1 n ≤ pmG T2 c F t n N (k + 1) then pmB T2 c F t n N b1 (k + 1) else nI (k + 1))
    rw [pmG_u hT h (k + 1), (pmI_u hT h N).1, pmB_u hT h k]
theorem fbS_u {T T2 : Nat → Sc → Sc} (hT : ∀ i a b, uE a b → uE (T i a) (T2 i b)) {s t : Sc} (h : uE s t) {n N : Nat} : ∀ k : Nat, fbS T s n N k = fbS T2 t n N k
  | 0 => rfl
  | k + 1 => by
    show (if hgS (T (k + 1)) s n N ≤ (fbS T s n N k).2 then fbS T s n N k else (nI (k + 1), hgS (T (k + 1)) s n N)) = (if hgS (T2 (k + 1)) t n N ≤ (fbS T2 t n N k).2 then fbS T2 t n N k else (nI (k + 1), hgS (T2 (k + 1)) t n N))
    rw [fbS_u hT h k, hgS_u (hT (k + 1)) h]
theorem rf_S {c0 : Int32} {fc fk g : Nat → Int32} {a : Nat} (ha : c0 = nI a) (ha9 : a ≤ 99) : ∀ nf : Nat, nf ≤ 12 → (∀ i, i < nf → ∃ ce k : Nat, fc i = nI ce ∧ ce < 12 ∧ fk i = nI k ∧ k ≤ 99) → ∀ c, c < 12 → ∃ S : Nat, cmR c0 fc fk (nI c) nf = nI S ∧ S ≤ 99 + 99 * nf ∧ rfC c0 fc fk g nf c = nI (if S < 100 then S else 100)
  | 0, _, _, c, hc => ⟨a, ha, by omega, by
    show pre 12 (fun _ => c0) g c = _
    rw [show pre 12 (fun _ => c0) g c = c0 from if_pos hc, if_pos (show a < 100 by omega)]; exact ha⟩
  | i + 1, hn, hf, c, hc => by
    obtain ⟨S, h1, h2, h3⟩ := rf_S (g := g) ha ha9 i (by omega) (fun j hj => hf j (by omega)) c hc
    obtain ⟨ce, k, e1, e2, e3, e4⟩ := hf i (by omega)
    have ecl : (fc i).toNatClampNeg = ce := by rw [e1]; exact nI_clamp (by omega)
    show ∃ S : Nat, cmR c0 fc fk (nI c) i + (if fc i = nI c then fk i else 0) = nI S ∧ _ ∧ upd (rfC c0 fc fk g i) (fc i).toNatClampNeg (mn 100 (rfC c0 fc fk g i (fc i).toNatClampNeg + fk i)) c = _
    rw [ecl]
    by_cases e : c = ce
    · subst e
      rw [if_pos e1, pk_us, h1, h3, e3, nI_add, nI_add]
      refine ⟨S + k, rfl, by omega, ?_⟩
      rw [show (100 : Int32) = nI 100 from rfl, mn_nI (by decide) (by split <;> omega)]
      congr 1
      split <;> split <;> (try split) <;> omega
    · rw [if_neg (fun g => e (nI_inj (by omega) (by omega) (g.symm.trans e1))), pk_un e, h1, h3, Int32.add_zero]
      exact ⟨S, rfl, by omega, rfl⟩
theorem rf_cas {n nf : Nat} {c0 : Int32} {fc fk g : Nat → Int32} {a : Nat} (hn : n ≤ 12) (ha : c0 = nI a) (ha9 : a ≤ 99) (hnf : nf ≤ 12) (hf : ∀ i, i < nf → ∃ ce k : Nat, fc i = nI ce ∧ ce < 12 ∧ fk i = nI k ∧ k ≤ 99) : cas n nf c0 fc fk (rfC c0 fc fk g nf) := by
  intro c hc
  obtain ⟨S, h1, h2, h3⟩ := rf_S (g := g) ha ha9 nf hnf hf c (by omega)
  rw [h1, h3, show (100 : Int32) = nI 100 from rfl, mn_nI (by decide) (by omega)]
theorem nI_toNat {x : Nat} (h : x < 2 ^ 31) : (nI x).toBitVec.toNat = x := by
  show (BitVec.ofNat 32 x).toNat = x
  rw [BitVec.toNat_ofNat]; exact Nat.mod_eq_of_lt (by omega)
theorem lsP_lt {ou : Nat → Int32} {h : Int32} {l0 : Int32} : ∀ n : Nat, n ≤ 12 → (∃ x : Nat, x < 4096 ∧ l0 = nI x) → ∃ x : Nat, x < 4096 ∧ lsP ou h l0 n = nI x
  | 0, _, hx => hx
  | i + 1, hn, hx => by
    obtain ⟨x, h1, h2⟩ := lsP_lt (ou := ou) (h := h) i (by omega) hx
    show ∃ x : Nat, x < 4096 ∧ (if h < ab (ou i) then lsP ou h l0 i ||| ((1 : Int32) <<< (nI i &&& 31)) else lsP ou h l0 i) = nI x
    split
    · refine ⟨x ||| 2 ^ i, ?_, ?_⟩
      · exact Nat.or_lt_two_pow (n := 12) h1 (Nat.pow_lt_pow_right (by decide) (by omega))
      · rw [h2]
        refine Int32.toBitVec_inj.mp ?_
        rw [Int32.toBitVec_or, i32shl (x := 1) (k := i) (by omega)]
        refine BitVec.eq_of_toNat_eq ?_
        have e1 : (nI x).toBitVec.toNat = x := nI_toNat (by omega)
        have e2 : ((1 : Int32).toBitVec <<< i).toNat = 2 ^ i := by
          rw [BitVec.toNat_shiftLeft, show (1 : Int32).toBitVec.toNat = 1 from rfl, Nat.one_shiftLeft]
          exact Nat.mod_eq_of_lt (Nat.pow_lt_pow_right (by decide) (by omega))
        have e3 : x ||| 2 ^ i < 2 ^ 31 := Nat.or_lt_two_pow (n := 31) (by omega) (Nat.pow_lt_pow_right (by decide) (by omega))
        rw [BitVec.toNat_or, e1, e2, nI_toNat e3]
    · exact ⟨x, h1, h2⟩
theorem pas_lost {n nw : Nat} {su ss hd gl het bl upo : Int32} {ca wt bt fr wy sy : Nat → Int32} {pv sv : (Nat → Int32) → Int64} {s : Sc} (hn : n ≤ 12) (h : ∃ x : Nat, x < 4096 ∧ s.2.2.2.2.2.1 = nI x) : ∃ x : Nat, x < 4096 ∧ (pasF n nw su ss hd gl het bl upo ca wt bt fr wy sy pv sv s).2.2.2.2.2.1 = nI x := by
  unfold pasF
  show ∃ x : Nat, x < 4096 ∧ (if hd ≤ 0 then s.2.2.2.2.2.1 else lsP _ hd s.2.2.2.2.2.1 n) = nI x
  split
  · exact h
  · exact lsP_lt n hn h
theorem it_lost {T : Sc → Sc} (hT : ∀ s : Sc, (∃ x : Nat, x < 4096 ∧ s.2.2.2.2.2.1 = nI x) → ∃ x : Nat, x < 4096 ∧ (T s).2.2.2.2.2.1 = nI x) {s : Sc} (h : ∃ x : Nat, x < 4096 ∧ s.2.2.2.2.2.1 = nI x) : ∀ k : Nat, ∃ x : Nat, x < 4096 ∧ (itF (fun _ => T) k s).2.2.2.2.2.1 = nI x
  | 0 => h
  | k + 1 => hT _ (it_lost hT h k)
theorem pcI_bc2 : ∀ a b : Fin 64, pcI (nI (64 * a.val + b.val)) = bcI (nI (64 * a.val + b.val)) 12 := by decide +kernel
theorem pcI_bc {x : Nat} (h : x < 4096) : pcI (nI x) = bcI (nI x) 12 := by
  have e := pcI_bc2 ⟨x / 64, by omega⟩ ⟨x % 64, by omega⟩
  rwa [show 64 * (x / 64) + x % 64 = x by omega] at e
