/-- alike below n -/
def eqN (n : Nat) (f g : Nat → Int32) : Prop := ∀ j, j < n → f j = g j
theorem eqN.rf {n : Nat} {f : Nat → Int32} : eqN n f f := fun _ _ => rfl
theorem eqN.sy {n : Nat} {f g : Nat → Int32} (h : eqN n f g) : eqN n g f := fun j hj => (h j hj).symm
theorem eqN.tr {n : Nat} {f g h : Nat → Int32} (a : eqN n f g) (b : eqN n g h) : eqN n f h := fun j hj => (a j hj).trans (b j hj)
theorem eqN.up {n k : Nat} {f g : Nat → Int32} {x y : Int32} (h : eqN n f g) (e : x = y) : eqN n (upd f k x) (upd g k y) := by
  subst e
  intro j hj
  by_cases e : j = k
  · subst e; rw [pk_us, pk_us]
  · rw [pk_un e, pk_un e]; exact h j hj
theorem eqN.pre {n m : Nat} {F F' g g' : Nat → Int32} (h1 : ∀ j, j < m → j < n → F j = F' j) (h2 : eqN n g g') : eqN n (pre m F g) (pre m F' g') := by
  intro j hj
  by_cases e : j < m
  · rw [pre_lt e, pre_lt e]; exact h1 j e hj
  · rw [pre_ge (Nat.le_of_not_lt e), pre_ge (Nat.le_of_not_lt e)]; exact h2 j hj
def w5E (s t : W5) : Prop := eqN 6 s.1 t.1 ∧ eqN 6 s.2.1 t.2.1 ∧ eqN 6 s.2.2.1 t.2.2.1 ∧ eqN 12 s.2.2.2.1 t.2.2.2.1 ∧ eqN 12 s.2.2.2.2 t.2.2.2.2
def scE (s t : Sc) : Prop := eqN 12 s.1 t.1 ∧ eqN 12 s.2.1 t.2.1 ∧ eqN 12 s.2.2.1 t.2.2.1 ∧ eqN 12 s.2.2.2.1 t.2.2.2.1 ∧ w5E s.2.2.2.2.1 t.2.2.2.2.1 ∧ s.2.2.2.2.2.1 = t.2.2.2.2.2.1 ∧ s.2.2.2.2.2.2.1 = t.2.2.2.2.2.2.1 ∧ s.2.2.2.2.2.2.2 = t.2.2.2.2.2.2.2
theorem w5E.rf {s : W5} : w5E s s := ⟨eqN.rf, eqN.rf, eqN.rf, eqN.rf, eqN.rf⟩
theorem scE.rf {s : Sc} : scE s s := ⟨eqN.rf, eqN.rf, eqN.rf, eqN.rf, w5E.rf, rfl, rfl, rfl⟩
theorem scE.tr {s t u : Sc} (a : scE s t) (b : scE t u) : scE s u := by
  obtain ⟨a1, a2, a3, a4, ⟨a5, a6, a7, a8, a9⟩, a10, a11, a12⟩ := a
  obtain ⟨b1, b2, b3, b4, ⟨b5, b6, b7, b8, b9⟩, b10, b11, b12⟩ := b
  exact ⟨a1.tr b1, a2.tr b2, a3.tr b3, a4.tr b4, ⟨a5.tr b5, a6.tr b6, a7.tr b7, a8.tr b8, a9.tr b9⟩, a10.trans b10, a11.trans b11, a12.trans b12⟩
theorem stF_E {n : Nat} {tim het lost upo : Int32} {ou ou' wt wy sy : Nat → Int32} {pv sv : (Nat → Int32) → Int64} {w : Nat} {s t : W5} (hn : n ≤ 12) (hw : w < 6) (ho : eqN 12 ou ou') (h : w5E s t) : w5E (stF (nI n) tim het lost upo ou wt wy sy pv sv w s) (stF (nI n) tim het lost upo ou' wt wy sy pv sv w t) := by
  obtain ⟨h1, h2, h3, h4, h5⟩ := h
  unfold stF
  rw [h1 w hw, h2 w hw]
  generalize cellW (nI n) (wy w) (sy w) (t.1 w) (t.2.1 w + 1) = x
  by_cases hx : x < 0 ∨ nI n ≤ x ∨ (lost >>> (x &&& 31)) &&& 1 = 1
  · rw [if_pos hx, if_pos hx]
    exact ⟨h1, h2.up (by rw [h2 w hw]), h3.up rfl, h4, h5⟩
  · rw [if_neg hx, if_neg hx]
    obtain ⟨c, hc, rfl⟩ : ∃ c : Nat, c < n ∧ x = nI c := by
      rcases pk_ix x (n := n) (by omega) with h | h | h
      · exact absurd (Or.inl h) hx
      · exact absurd (Or.inr (Or.inl h)) hx
      · exact h
    rw [nI_clamp (by omega), ho c (by omega)]
    refine ⟨h1.up rfl, h2.up (by rw [h2 w hw]), h3.up rfl, h4.up (by rw [h4 c (by omega)]), ?_⟩
    show eqN 12 (if upo = 0 then _ else _) (if upo = 0 then _ else _)
    by_cases hu : upo = 0
    · rw [if_pos hu, if_pos hu]
      exact h5.up (by rw [h5 c (by omega), h2 w hw])
    · rw [if_neg hu, if_neg hu]
      exact h5
theorem wkG_E {n : Nat} {tim het lost upo : Int32} {ou ou' wt bt fr wy sy : Nat → Int32} {pv sv : (Nat → Int32) → Int64} {w : Nat} {s t : W5} (hn : n ≤ 12) (hw : w < 6) (ho : eqN 12 ou ou') (h : w5E s t) : w5E (wkG (nI n) tim het lost upo ou wt bt fr wy sy pv sv w s) (wkG (nI n) tim het lost upo ou' wt bt fr wy sy pv sv w t) := by
  have e := h.2.2.1 w hw
  by_cases h1 : t.2.2.1 w = 2
  · rw [wkG_a (e.trans h1), wkG_a h1]; exact h
  · have h1' : ¬ s.2.2.1 w = 2 := fun q => h1 (e.symm.trans q)
    by_cases h2 : stpAt tim (fr w) (bt w) = 0
    · rw [wkG_b h1' h2, wkG_b h1 h2]; exact h
    · rw [wkG_c h1' h2, wkG_c h1 h2]; exact stF_E hn hw ho h
theorem itF_E {α : Type} {g g' : Nat → α → α} {E : α → α → Prop} {s t : α} (h0 : E s t) : ∀ n : Nat, (∀ i s t, i < n → E s t → E (g i s) (g' i t)) → E (itF g n s) (itF g' n t)
  | 0, _ => h0
  | n + 1, h => h n _ _ (Nat.lt_succ_self n) (itF_E h0 n (fun i s t hi => h i s t (Nat.lt_succ_of_lt hi)))
theorem bsd_E {f g : Nat → Int32} {n c : Nat} (h : eqN 12 f g) (hn : n ≤ 12) (hc : c < n) : bsd f n c = bsd g n c := by
  unfold bsd
  rw [h (c - 1) (by omega)]
  by_cases e : c + 1 < n
  · rw [if_pos e, if_pos e, h (c + 1) (by omega)]
  · rw [if_neg e, if_neg e]
theorem vel_E {f f' s s' p p' : Nat → Int32} {x : Int32} {n c : Nat} (h : eqN 12 f f') (hs : eqN 12 s s') (hp : eqN 12 p p') (hn : n ≤ 12) (hc : c < n) : vel f s p x n c = vel f' s' p' x n c := by
  unfold vel
  rw [bsd_E h hn hc, h c (by omega), hs c (by omega), hp c (by omega)]
theorem nsp_E {f f' s s' p p' k k' : Nat → Int32} {x : Int32} {n c : Nat} (h : eqN 12 f f') (hs : eqN 12 s s') (hp : eqN 12 p p') (hk : eqN 12 k k') (hn : n ≤ 12) (hc : c < n) : nsp f s p k x n c = nsp f' s' p' k' x n c := by
  unfold nsp
  rw [vel_E h hs hp hn hc, hk c (by omega)]
theorem nou_E {f f' s s' p p' k k' : Nat → Int32} {x : Int32} {n c : Nat} (h : eqN 12 f f') (hs : eqN 12 s s') (hp : eqN 12 p p') (hk : eqN 12 k k') (hn : n ≤ 12) (hc : c < n) : nou f s p k x n c = nou f' s' p' k' x n c := by
  unfold nou
  rw [nsp_E h hs hp hk hn hc, h c (by omega)]
theorem lsP_E {f g : Nat → Int32} {h l0 : Int32} (e : eqN 12 f g) : ∀ n : Nat, n ≤ 12 → lsP f h l0 n = lsP g h l0 n
  | 0, _ => rfl
  | n + 1, hn => by
    unfold lsP
    rw [lsP_E e n (by omega), e n (by omega)]
theorem gr_E {f g : Nat → Int32} (e : eqN 12 f g) : ∀ n : Nat, n ≤ 12 → gr f n = gr g n
  | 0, _ => rfl
  | n + 1, hn => by
    unfold gr
    rw [gr_E e n (by omega), e n (by omega)]
theorem pasF_E {n nw : Nat} {su ss hd gl het bl upo : Int32} {ca ca' wt bt fr wy sy : Nat → Int32} {pv sv : (Nat → Int32) → Int64} {s t : Sc} (hn : n ≤ 12) (hw : nw ≤ 6) (hca : eqN 12 ca ca') (h : scE s t) : scE (pasF n nw su ss hd gl het bl upo ca wt bt fr wy sy pv sv s) (pasF n nw su ss hd gl het bl upo ca' wt bt fr wy sy pv sv t) := by
  obtain ⟨h1, h2, h3, h4, h5, h6, h7, h8⟩ := h
  unfold pasF
  rw [h6, h7, h8]
  have hW : w5E (itF (wkG (nI n) t.2.2.2.2.2.2.1 het t.2.2.2.2.2.1 upo s.1 wt bt fr wy sy pv sv) nw s.2.2.2.2.1) (itF (wkG (nI n) t.2.2.2.2.2.2.1 het t.2.2.2.2.2.1 upo t.1 wt bt fr wy sy pv sv) nw t.2.2.2.2.1) := itF_E h5 nw (fun i a b hi he => wkG_E hn (by omega) h1 he)
  generalize itF (wkG (nI n) t.2.2.2.2.2.2.1 het t.2.2.2.2.2.1 upo s.1 wt bt fr wy sy pv sv) nw s.2.2.2.2.1 = W at hW ⊢
  generalize itF (wkG (nI n) t.2.2.2.2.2.2.1 het t.2.2.2.2.2.1 upo t.1 wt bt fr wy sy pv sv) nw t.2.2.2.2.1 = W' at hW ⊢
  obtain ⟨w1, w2, w3, w4, w5⟩ := hW
  have hG : eqN 12 (gsP n bl gl t.2.2.2.2.2.2.2 W.2.2.2.2) (gsP n bl gl t.2.2.2.2.2.2.2 W'.2.2.2.2) := by
    unfold gsP
    by_cases e : bl = 0
    · rw [if_pos e, if_pos e]; exact w5
    · rw [if_neg e, if_neg e]
      by_cases e2 : gl ≤ 0
      · rw [if_pos e2, if_pos e2]; exact w5
      · rw [if_neg e2, if_neg e2]; exact eqN.pre (fun j _ hj => by rw [w5 j hj]) w5
  have hU : eqN 12 (pre n (nou s.1 s.2.1 W.2.2.2.1 ca (mx 0 (su - het)) n) s.1) (pre n (nou t.1 t.2.1 W'.2.2.2.1 ca' (mx 0 (su - het)) n) t.1) := eqN.pre (fun j hj _ => nou_E h1 h2 w4 hca hn hj) h1
  have ite_E : ∀ {a a' b b' : Nat → Int32}, eqN 12 a a' → eqN 12 b b' → eqN 12 (if upo = 0 then a else b) (if upo = 0 then a' else b') := by
    intro a a' b b' x y
    by_cases e : upo = 0
    · rw [if_pos e, if_pos e]; exact x
    · rw [if_neg e, if_neg e]; exact y
  refine ⟨hU, eqN.pre (fun j hj _ => nsp_E h1 h2 w4 hca hn hj) h2, ite_E (eqN.pre (fun j hj _ => nou_E h3 h4 hG hca hn hj) h3) h3, ite_E (eqN.pre (fun j hj _ => nsp_E h3 h4 hG hca hn hj) h4) h4, ⟨w1, w2, w3, eqN.pre (fun _ _ _ => rfl) w4, ite_E (eqN.pre (fun _ _ _ => rfl) hG) hG⟩, ?_, rfl, rfl⟩
  show (if hd ≤ 0 then _ else _) = (if hd ≤ 0 then _ else _)
  by_cases e : hd ≤ 0
  · rw [if_pos e, if_pos e]
  · rw [if_neg e, if_neg e]; exact lsP_E hU n hn
theorem itT_E {T T' : Sc → Sc} {s t : Sc} (hT : ∀ a b, scE a b → scE (T a) (T' b)) (h : scE s t) (k : Nat) : scE (itF (fun _ => T) k s) (itF (fun _ => T') k t) := itF_E (E := scE) h k (fun _ a b _ he => hT a b he)
theorem hgS_E {T T' : Sc → Sc} {s t : Sc} {n : Nat} (hn : n ≤ 12) (hT : ∀ a b, scE a b → scE (T a) (T' b)) (h : scE s t) : ∀ k : Nat, hgS T s n k = hgS T' t n k
  | 0 => rfl
  | k + 1 => by
    unfold hgS
    rw [hgS_E hn hT h k, gr_E (itT_E hT h (k + 1)).1 n hn]
