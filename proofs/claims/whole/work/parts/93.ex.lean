/-- the knots put from the place k0 on -/
def knE (a b : Nat → Int32) (k0 : Nat) : List Int32 → Prop
  | [] => True
  | x :: e => knR x (a (64 + (k0 + e.length))) (b (64 + (k0 + e.length))) ∧ knE a b k0 e
theorem knE.up {a b a2 b2 : Nat → Int32} {k0 : Nat} : ∀ e : List Int32, (∀ j, j < 64 + (k0 + e.length) → a2 j = a j ∧ b2 j = b j) → knE a b k0 e → knE a2 b2 k0 e
  | [], _, _ => trivial
  | x :: e, h, g => by
    refine ⟨?_, knE.up e (fun j hj => h j (by rw [List.length_cons]; omega)) g.2⟩
    have := h (64 + (k0 + e.length)) (by rw [List.length_cons]; omega)
    rw [this.1, this.2]; exact g.1
/-- the reference reads an expression: the token at i is at hand, o are open, c knots are counted, those of e are put -/
def EX (M : Mm) (f : Nat → Int32) (n i o c k0 : Nat) (e : List Int32) : Prop := RD M n i ∧ M.1 150 = f ∧ M.1 149 29 = 0 ∧ M.1 149 33 = nI o ∧ M.1 149 34 = nI c ∧ M.1 151 25 = nI (k0 + e.length) ∧ (knE (M.1 167) (M.1 168) k0 e ∧ M.1 149 30 = -1)
def exF (M K : Mm) (k0 : Nat) : Prop := K.2.2 = M.2.2 ∧ (∀ a, a ≠ 149 → a ≠ 151 → a ≠ 167 → a ≠ 168 → K.1 a = M.1 a) ∧ (∀ j, (j < 25 ∨ j = 31 ∨ j = 32 ∨ 34 < j) → K.1 149 j = M.1 149 j) ∧ (∀ j, j ≠ 25 → K.1 151 j = M.1 151 j) ∧ (∀ j, j < 64 + k0 → K.1 167 j = M.1 167 j ∧ K.1 168 j = M.1 168 j)
theorem exF.rf {M : Mm} {k0 : Nat} : exF M M k0 := ⟨rfl, fun _ _ _ _ _ => rfl, fun _ _ => rfl, fun _ _ => rfl, fun _ _ => ⟨rfl, rfl⟩⟩
theorem exF.tr {M N K : Mm} {k0 : Nat} (h : exF M N k0) (g : exF N K k0) : exF M K k0 := ⟨g.1.trans h.1, fun a a1 a2 a3 a4 => (g.2.1 a a1 a2 a3 a4).trans (h.2.1 a a1 a2 a3 a4), fun j a1 => (g.2.2.1 j a1).trans (h.2.2.1 j a1), fun j a1 => (g.2.2.2.1 j a1).trans (h.2.2.2.1 j a1), fun j a1 => ⟨(g.2.2.2.2 j a1).1.trans (h.2.2.2.2 j a1).1, (g.2.2.2.2 j a1).2.trans (h.2.2.2.2 j a1).2⟩⟩
theorem exF.tok {M K : Mm} {k0 : Nat} (h : tkF M K) : exF M K k0 := ⟨h.1, fun a a1 _ _ _ => h.2.1 a a1, fun j a1 => h.2.2 j (by omega), fun j _ => by rw [h.2.1 151 (by decide)], fun j _ => by rw [h.2.1 167 (by decide), h.2.1 168 (by decide)]; exact ⟨rfl, rfl⟩⟩
theorem exF.f {M : Mm} {k0 : Nat} {g : Nat → Int32} (hg : ∀ j, (j < 25 ∨ j = 31 ∨ j = 32 ∨ 34 < j) → g j = M.1 149 j) : exF M (sI M 149 g) k0 := ⟨rfl, fun a a1 _ _ _ => sI_ne a1, hg, fun _ _ => rfl, fun _ _ => ⟨rfl, rfl⟩⟩
theorem exF.wr {M : Mm} {k0 : Nat} {k : Int32} : exF M (wrM M k) k0 := exF.f (fun j hj => by rw [pk_un (by omega), pk_un (by omega)])
theorem exF.put {M : Mm} {k0 k : Nat} {x y z : Int32} (hk : k0 ≤ k) : exF M (sI (sI (sI M 167 (upd (M.1 167) (64 + k) x)) 168 (upd (M.1 168) (64 + k) y)) 151 (upd (M.1 151) 25 z)) k0 := ⟨rfl, fun a a1 a2 a3 a4 => by rw [sI_ne a2, sI_ne a4, sI_ne a3], fun _ _ => rfl, fun j hj => pk_un hj, fun j hj => ⟨pk_un (by omega), pk_un (by omega)⟩⟩
theorem EX.knot {M : Mm} {f : Nat → Int32} {n i o c k0 : Nat} {e : List Int32} (h : EX M f n i o c k0 e) : EX (sI M 149 (upd (M.1 149) 34 (nI (c + 1)))) f n i o (c + 1) k0 e := ⟨h.1, h.2.1, h.2.2.1, h.2.2.2.1, rfl, h.2.2.2.2.2.1, h.2.2.2.2.2.2⟩
theorem EX.op {M : Mm} {f : Nat → Int32} {n i o o2 c k0 : Nat} {e : List Int32} (h : EX M f n i o c k0 e) : EX (sI M 149 (upd (M.1 149) 33 (nI o2))) f n i o2 c k0 e := ⟨h.1, h.2.1, h.2.2.1, rfl, h.2.2.2.2.1, h.2.2.2.2.2.1, h.2.2.2.2.2.2⟩
theorem EX.tok {M K : Mm} {f : Nat → Int32} {n i o c k0 : Nat} {e : List Int32} (h : EX M f n i o c k0 e) (t : tkF M K) (r : RD K n (nx f n i)) : EX K f n (nx f n i) o c k0 e := ⟨r, (t.2.1 150 (by decide)).trans h.2.1, (t.2.2 29 (by omega)).trans h.2.2.1, (t.2.2 33 (by omega)).trans h.2.2.2.1, (t.2.2 34 (by omega)).trans h.2.2.2.2.1, by rw [t.2.1 151 (by decide)]; exact h.2.2.2.2.2.1, by rw [t.2.1 167 (by decide), t.2.1 168 (by decide)]; exact h.2.2.2.2.2.2.1, (t.2.2 30 (by omega)).trans h.2.2.2.2.2.2.2⟩
theorem EX.put {M : Mm} {f : Nat → Int32} {n i o c k0 : Nat} {e : List Int32} {x a b : Int32} (h : EX M f n i o c k0 e) (hk : knR x a b) : EX (sI (sI (sI M 167 (upd (M.1 167) (64 + (k0 + e.length)) a)) 168 (upd (M.1 168) (64 + (k0 + e.length)) b)) 151 (upd (M.1 151) 25 (nI (k0 + e.length + 1)))) f n i o c k0 (x :: e) := by
  refine ⟨h.1, h.2.1, h.2.2.1, h.2.2.2.1, h.2.2.2.2.1, rfl, ⟨?_, ?_⟩, h.2.2.2.2.2.2.2⟩
  · show knR x (upd (M.1 167) (64 + (k0 + e.length)) a (64 + (k0 + e.length))) (upd (M.1 168) (64 + (k0 + e.length)) b (64 + (k0 + e.length)))
    rw [pk_us, pk_us]; exact hk
  · exact knE.up e (fun j hj => ⟨pk_un (by omega), pk_un (by omega)⟩) h.2.2.2.2.2.2.1
theorem EX.tc {M : Mm} {f : Nat → Int32} {n i o c k0 : Nat} {e : List Int32} (h : EX M f n i o c k0 e) : TC (M.1 149 27) (M.1 149 28) ∧ kdT (M.1 149 27) (M.1 149 28) = kdF f n i ∧ (¬ kdF f n i = 40 → M.1 149 28 = nvF f n i) := by have := h.1.tc; rw [h.2.1] at this; exact this
theorem EX.pl {M : Mm} {f : Nat → Int32} {n i o c k0 : Nat} {e : List Int32} (h : EX M f n i o c k0 e) : M.1 149 26 = nI (tkP f n i) := by have := h.1.2.2.2.1; rw [h.2.1] at this; exact this
theorem isT_y {s v d e : Int32} {a : Int32} (ha : a = 0) (h : s = d ∧ v = e) : isT a s v d e = 1 := (if_pos ha).trans ((if_pos h.1).trans (if_pos h.2))
theorem isT_n {s v d e : Int32} {a : Int32} (h : ¬ (s = d ∧ v = e)) : isT a s v d e = 0 := by
  unfold isT
  by_cases ha : a = 0
  · rw [if_pos ha]
    by_cases hs : s = d
    · rw [if_pos hs]; exact if_neg (fun hv => h ⟨hs, hv⟩)
    · exact if_neg hs
  · exact if_neg ha
theorem isT_f {s v d e : Int32} {a : Int32} (ha : ¬ a = 0) : isT a s v d e = 0 := if_neg ha
theorem knot64 {G : Gx} {l : Launch} {ly : Ly} {M : Mm} (hcn : M.1 149 34 = nI 64) (h0 : M.1 149 29 = 0) (hR : RW ly M.2.2) : Mt G l mX12_knot (1, 0, 0, false) [.ref 149] ly M (Is none ly (wrM M 2)) := tX12_knot (c := 64) ⟨hcn, by decide⟩ hR ⟨fun g => absurd h0 g, fun _ _ => ⟨rfl, rfl, rfl⟩, fun _ g => absurd g (by decide)⟩
theorem knotGo {G : Gx} {l : Launch} {ly : Ly} {M : Mm} {c : Nat} (hcn : M.1 149 34 = nI c) (hc : c < 64) (h0 : M.1 149 29 = 0) (hR : RW ly M.2.2) : Mt G l mX12_knot (1, 0, 0, false) [.ref 149] ly M (Is none ly (sI M 149 (upd (M.1 149) 34 (nI (c + 1))))) := tX12_knot (c := c) ⟨hcn, by omega⟩ hR ⟨fun g => absurd h0 g, fun _ g => absurd g (by omega), fun _ _ => ⟨rfl, rfl, rfl⟩⟩
theorem goOnY {G : Gx} {l : Launch} {ly : Ly} {M : Mm} {f : Nat → Int32} {n i o c k0 : Nat} {e : List Int32} (h : EX M f n i o c k0 e) (hR : RW ly M.2.2) : Mt G l mX12_goOn (7, 0, 0, false) [.ref 149] ly M (fun v ly2 K => v = none ∧ ly2 = ly ∧ tkF M K ∧ EX K f n (nx f n i) o c k0 e) := tX12_goOn h.1 hR ⟨fun g => absurd h.2.2.1 g, fun _ K t r => ⟨rfl, rfl, t, h.tok t (by have := h.2.1; subst this; exact r)⟩⟩
theorem tokY {G : Gx} {l : Launch} {ly : Ly} {M : Mm} {f : Nat → Int32} {n i o c k0 : Nat} {e : List Int32} (h : EX M f n i o c k0 e) (hR : RW ly M.2.2) : Mt G l mX12_token (6, 0, 0, false) [.ref 149] ly M (fun v ly2 K => v = none ∧ ly2 = ly ∧ tkF M K ∧ EX K f n (nx f n i) o c k0 e) := rdTok h.1 hR (fun K t r => ⟨rfl, rfl, t, h.tok t (by have := h.2.1; subst this; exact r)⟩)
theorem putsY {G : Gx} {l : Launch} {ly : Ly} {M : Mm} {f : Nat → Int32} {n i o c k0 : Nat} {e : List Int32} {x y : Int32} (h : EX M f n i o c k0 e) (hk : k0 + e.length < 64) (hR : RW ly M.2.2) : Mt G l mX12_puts (1, 0, 0, false) [.ref 149, .int x, .int y] ly M (Is none ly (sI (sI (sI M 167 (upd (M.1 167) (64 + (k0 + e.length)) x)) 168 (upd (M.1 168) (64 + (k0 + e.length)) y)) 151 (upd (M.1 151) 25 (nI (k0 + e.length + 1))))) := tX12_puts ⟨h.2.2.2.2.2.1, hk⟩ hR ⟨fun g => absurd h.2.2.1 g, fun _ => ⟨rfl, rfl, rfl⟩⟩
theorem knot0 {G : Gx} {l : Launch} {ly : Ly} {M : Mm} (hf : ¬ M.1 149 29 = 0) (hR : RW ly M.2.2) : Mt G l mX12_knot (1, 0, 0, false) [.ref 149] ly M (Is none ly M) := by
  refine Mt.is (fun Q hQ => ?_)
  refine Mt.of (lv := [some (.ref 149)]) rfl ?_
  refine Rn.aload_n dX12_knot_0 rfl ?_
  refine Rn.getI dX12_knot_1 fX12_222 rfl (rc149 hR) ?_
  refine Rn.if_eq dX12_knot_4 (fun g => absurd g hf) (fun g => ?_)
  exact Rn.vret dX12_knot_7 rfl hQ
theorem puts0 {G : Gx} {l : Launch} {ly : Ly} {M : Mm} {x y : Int32} (hf : ¬ M.1 149 29 = 0) (hR : RW ly M.2.2) : Mt G l mX12_puts (1, 0, 0, false) [.ref 149, .int x, .int y] ly M (Is none ly M) := by
  refine Mt.is (fun Q hQ => ?_)
  refine Mt.of (lv := [some (.ref 149), some (.int x), some (.int y)]) rfl ?_
  refine Rn.aload_n dX12_puts_0 rfl ?_
  refine Rn.getI dX12_puts_1 fX12_222 rfl (rc149 hR) ?_
  refine Rn.if_eq dX12_puts_4 (fun g => absurd g hf) (fun g => ?_)
  exact Rn.vret dX12_puts_7 rfl hQ
theorem wrong0 {G : Gx} {l : Launch} {ly : Ly} {M : Mm} {x : Int32} (hf : ¬ M.1 149 29 = 0) (hR : RW ly M.2.2) : Mt G l mX12_wrong (0, 0, 0, false) [.ref 149, .int x] ly M (Is none ly M) := tX12_wrong hR ⟨fun _ => ⟨rfl, rfl, rfl⟩, fun h => absurd h hf⟩
theorem pri0 {G : Gx} {l : Launch} {ly : Ly} {M : Mm} (hf : ¬ M.1 149 29 = 0) (hR : RW ly M.2.2) : Mt G l mX12_primary (0, 0, 0, false) [.ref 149] ly M (Is none ly M) := by
  refine Mt.is (fun Q hQ => ?_)
  refine Mt.of (lv := [some (.ref 149), none]) rfl ?_
  refine Rn.aload_n dX12_primary_0 rfl ?_
  refine Rn.getI dX12_primary_1 fX12_222 rfl (rc149 hR) ?_
  refine Rn.if_eq dX12_primary_4 (fun h9 => absurd h9 hf) (fun h9 => ?_)
  exact Rn.vret dX12_primary_7 rfl hQ
theorem pro0 {G : Gx} {l : Launch} {ly : Ly} {M : Mm} (hf : ¬ M.1 149 29 = 0) (hR : RW ly M.2.2) : Mt G l mX12_product (1, 0, 0, false) [.ref 149] ly M (Is none ly M) := by
  refine Mt.is (fun Q hQ => ?_)
  refine Mt.of (lv := [some (.ref 149), none]) rfl ?_
  refine Rn.aload_n dX12_product_0 rfl ?_
  refine Rn.callV0 dX12_product_1 vX12_318 (rc149 hR) (by decide) rfl (pri0 (M := M) hf hR) (by decide) ⟨(Nat.le_of_ble_eq_true rfl), (Nat.le_of_ble_eq_true rfl), (Nat.le_of_ble_eq_true rfl)⟩ (fun h => by cases h) (fun v1 ly1 M1 ⟨q1, q2, q3⟩ => ?_)
  rw [q1, q2, q3]
  refine Rn.aload_n dX12_product_4 rfl ?_
  refine Rn.bipushv (v := 42) dX12_product_5 bp_42 ?_
  refine Rn.callV1 dX12_product_7 vX12_285 (rc149 hR) (by decide) rfl (tX12_isSign (M := M) (x := 42) hR) (by decide) ⟨(Nat.le_of_ble_eq_true rfl), (Nat.le_of_ble_eq_true rfl), (Nat.le_of_ble_eq_true rfl)⟩ (fun h => by cases h) (fun v1 ly1 M1 ⟨q1, q2, q3⟩ => ?_)
  rw [q1, q2, q3]
  refine Rn.topI (y := 0) (isT_f hf) ?_
  refine Rn.if_ne dX12_product_10 (fun h9 => (by first | exact absurd h9 (by decide) | exact absurd (by decide) h9)) (fun h9 => ?_)
  refine Rn.aload_n dX12_product_13 rfl ?_
  refine Rn.bipushv (v := 47) dX12_product_14 bp_47 ?_
  refine Rn.callV1 dX12_product_16 vX12_285 (rc149 hR) (by decide) rfl (tX12_isSign (M := M) (x := 47) hR) (by decide) ⟨(Nat.le_of_ble_eq_true rfl), (Nat.le_of_ble_eq_true rfl), (Nat.le_of_ble_eq_true rfl)⟩ (fun h => by cases h) (fun v1 ly1 M1 ⟨q1, q2, q3⟩ => ?_)
  rw [q1, q2, q3]
  refine Rn.topI (y := 0) (isT_f hf) ?_
  refine Rn.if_eq dX12_product_19 (fun h9 => ?_) (fun h9 => (by first | exact absurd h9 (by decide) | exact absurd (by decide) h9))
  exact Rn.vret dX12_product_48 rfl hQ
theorem sum0 {G : Gx} {l : Launch} {ly : Ly} {M : Mm} (hf : ¬ M.1 149 29 = 0) (hR : RW ly M.2.2) : Mt G l mX12_sum (2, 0, 0, false) [.ref 149] ly M (Is none ly M) := by
  refine Mt.is (fun Q hQ => ?_)
  refine Mt.of (lv := [some (.ref 149), none]) rfl ?_
  refine Rn.aload_n dX12_sum_0 rfl ?_
  refine Rn.callV0 dX12_sum_1 vX12_315 (rc149 hR) (by decide) rfl (pro0 (M := M) hf hR) (by decide) ⟨(Nat.le_of_ble_eq_true rfl), (Nat.le_of_ble_eq_true rfl), (Nat.le_of_ble_eq_true rfl)⟩ (fun h => by cases h) (fun v1 ly1 M1 ⟨q1, q2, q3⟩ => ?_)
  rw [q1, q2, q3]
  refine Rn.aload_n dX12_sum_4 rfl ?_
  refine Rn.bipushv (v := 43) dX12_sum_5 bp_43 ?_
  refine Rn.callV1 dX12_sum_7 vX12_285 (rc149 hR) (by decide) rfl (tX12_isSign (M := M) (x := 43) hR) (by decide) ⟨(Nat.le_of_ble_eq_true rfl), (Nat.le_of_ble_eq_true rfl), (Nat.le_of_ble_eq_true rfl)⟩ (fun h => by cases h) (fun v1 ly1 M1 ⟨q1, q2, q3⟩ => ?_)
  rw [q1, q2, q3]
  refine Rn.topI (y := 0) (isT_f hf) ?_
  refine Rn.if_ne dX12_sum_10 (fun h9 => (by first | exact absurd h9 (by decide) | exact absurd (by decide) h9)) (fun h9 => ?_)
  refine Rn.aload_n dX12_sum_13 rfl ?_
  refine Rn.bipushv (v := 45) dX12_sum_14 bp_45 ?_
  refine Rn.callV1 dX12_sum_16 vX12_285 (rc149 hR) (by decide) rfl (tX12_isSign (M := M) (x := 45) hR) (by decide) ⟨(Nat.le_of_ble_eq_true rfl), (Nat.le_of_ble_eq_true rfl), (Nat.le_of_ble_eq_true rfl)⟩ (fun h => by cases h) (fun v1 ly1 M1 ⟨q1, q2, q3⟩ => ?_)
  rw [q1, q2, q3]
  refine Rn.topI (y := 0) (isT_f hf) ?_
  refine Rn.if_eq dX12_sum_19 (fun h9 => ?_) (fun h9 => (by first | exact absurd h9 (by decide) | exact absurd (by decide) h9))
  exact Rn.vret dX12_sum_48 rfl hQ
theorem neg0 {G : Gx} {l : Launch} {ly : Ly} {M : Mm} (hf : ¬ M.1 149 29 = 0) (hR : RW ly M.2.2) : Mt G l mX12_negation (3, 0, 0, false) [.ref 149] ly M (Is none ly M) := by
  refine Mt.is (fun Q hQ => ?_)
  refine Mt.of (lv := [some (.ref 149), none]) rfl ?_
  refine Rn.aload_n dX12_negation_0 rfl ?_
  refine Rn.bipushv (v := 18) dX12_negation_1 bp_18 ?_
  refine Rn.callV1 dX12_negation_3 vX12_300 (rc149 hR) (by decide) rfl (tX12_isWord (M := M) (x := 18) hR) (by decide) ⟨(Nat.le_of_ble_eq_true rfl), (Nat.le_of_ble_eq_true rfl), (Nat.le_of_ble_eq_true rfl)⟩ (fun h => by cases h) (fun v1 ly1 M1 ⟨q1, q2, q3⟩ => ?_)
  rw [q1, q2, q3]
  refine Rn.topI (y := 0) (isT_f hf) ?_
  refine Rn.if_eq dX12_negation_6 (fun h9 => ?_) (fun h9 => (by first | exact absurd h9 (by decide) | exact absurd (by decide) h9))
  refine Rn.aload_n dX12_negation_30 rfl ?_
  refine Rn.callV0 dX12_negation_31 vX12_312 (rc149 hR) (by decide) rfl (sum0 (M := M) hf hR) (by decide) ⟨(Nat.le_of_ble_eq_true rfl), (Nat.le_of_ble_eq_true rfl), (Nat.le_of_ble_eq_true rfl)⟩ (fun h => by cases h) (fun v1 ly1 M1 ⟨q1, q2, q3⟩ => ?_)
  rw [q1, q2, q3]
  refine Rn.aload_n dX12_negation_34 rfl ?_
  refine Rn.getI dX12_negation_35 fX12_222 rfl (rc149 hR) ?_
  refine Rn.if_ne dX12_negation_38 (fun h9 => ?_) (fun h9 => absurd h9 hf)
  exact Rn.vret dX12_negation_86 rfl hQ
theorem con0 {G : Gx} {l : Launch} {ly : Ly} {M : Mm} (hf : ¬ M.1 149 29 = 0) (hR : RW ly M.2.2) : Mt G l mX12_conjunction (4, 0, 0, false) [.ref 149] ly M (Is none ly M) := by
  refine Mt.is (fun Q hQ => ?_)
  refine Mt.of (lv := [some (.ref 149)]) rfl ?_
  refine Rn.aload_n dX12_conjunction_0 rfl ?_
  refine Rn.callV0 dX12_conjunction_1 vX12_309 (rc149 hR) (by decide) rfl (neg0 (M := M) hf hR) (by decide) ⟨(Nat.le_of_ble_eq_true rfl), (Nat.le_of_ble_eq_true rfl), (Nat.le_of_ble_eq_true rfl)⟩ (fun h => by cases h) (fun v1 ly1 M1 ⟨q1, q2, q3⟩ => ?_)
  rw [q1, q2, q3]
  refine Rn.aload_n dX12_conjunction_4 rfl ?_
  refine Rn.bipushv (v := 17) dX12_conjunction_5 bp_17 ?_
  refine Rn.callV1 dX12_conjunction_7 vX12_300 (rc149 hR) (by decide) rfl (tX12_isWord (M := M) (x := 17) hR) (by decide) ⟨(Nat.le_of_ble_eq_true rfl), (Nat.le_of_ble_eq_true rfl), (Nat.le_of_ble_eq_true rfl)⟩ (fun h => by cases h) (fun v1 ly1 M1 ⟨q1, q2, q3⟩ => ?_)
  rw [q1, q2, q3]
  refine Rn.topI (y := 0) (isT_f hf) ?_
  refine Rn.if_eq dX12_conjunction_10 (fun h9 => ?_) (fun h9 => (by first | exact absurd h9 (by decide) | exact absurd (by decide) h9))
  exact Rn.vret dX12_conjunction_36 rfl hQ
theorem exp0 {G : Gx} {l : Launch} {ly : Ly} {M : Mm} (hf : ¬ M.1 149 29 = 0) (hR : RW ly M.2.2) : Mt G l mX12_expression (5, 0, 0, false) [.ref 149] ly M (Is none ly M) := by
  refine Mt.is (fun Q hQ => ?_)
  refine Mt.of (lv := [some (.ref 149)]) rfl ?_
  refine Rn.aload_n dX12_expression_0 rfl ?_
  refine Rn.callV0 dX12_expression_1 vX12_297 (rc149 hR) (by decide) rfl (con0 (M := M) hf hR) (by decide) ⟨(Nat.le_of_ble_eq_true rfl), (Nat.le_of_ble_eq_true rfl), (Nat.le_of_ble_eq_true rfl)⟩ (fun h => by cases h) (fun v1 ly1 M1 ⟨q1, q2, q3⟩ => ?_)
  rw [q1, q2, q3]
  refine Rn.aload_n dX12_expression_4 rfl ?_
  refine Rn.bipushv (v := 16) dX12_expression_5 bp_16 ?_
  refine Rn.callV1 dX12_expression_7 vX12_300 (rc149 hR) (by decide) rfl (tX12_isWord (M := M) (x := 16) hR) (by decide) ⟨(Nat.le_of_ble_eq_true rfl), (Nat.le_of_ble_eq_true rfl), (Nat.le_of_ble_eq_true rfl)⟩ (fun h => by cases h) (fun v1 ly1 M1 ⟨q1, q2, q3⟩ => ?_)
  rw [q1, q2, q3]
  refine Rn.topI (y := 0) (isT_f hf) ?_
  refine Rn.if_eq dX12_expression_10 (fun h9 => ?_) (fun h9 => (by first | exact absurd h9 (by decide) | exact absurd (by decide) h9))
  exact Rn.vret dX12_expression_36 rfl hQ
/-- how a nonterminal ends in the memory -/
def PT (ly : Ly) (M : Mm) (f : Nat → Int32) (n k0 L o i c : Nat) (e : List Int32) : Qt := fun v ly2 K => v = none ∧ ly2 = ly ∧ exF M K k0 ∧ ((∃ j c2 e2, Dd (kdF f n) (nvF f n) (nx f n) L o i c e (dOk j c2 e2) ∧ EX K f n j o c2 k0 e2) ∨ (∃ k j, Dd (kdF f n) (nvF f n) (nx f n) L o i c e (dNo k j) ∧ K.1 149 29 = k ∧ K.1 149 30 = nI (tkP f n j)))
def CT (G : Gx) (l : Launch) (ly : Ly) (f : Nat → Int32) (n k0 L lv : Nat) (d : Md) (i : Nat) : Prop := ∀ (M : Mm) (o c : Nat) (e : List Int32), EX M f n i o c k0 e → RW ly M.2.2 → k0 + e.length ≤ c → c ≤ 64 → o ≤ 8 → Mt G l d (lv + 9 + (64 - c) + 6 * (8 - o), 0, 0, false) [.ref 149] ly M (PT ly M f n k0 L o i c e)
theorem drf {kd nv : Nat → Int32} {nx : Nat → Nat} {L o i c : Nat} {e : List Int32} {k : Int32} {j : Nat} {x : Int32} (h : Dd kd nv nx L o i c e (dNo k j)) (hx : x = k) : ¬ x = 0 := by
  rw [hx]
  rcases (h.b : k = 1 ∨ k = 2) with rfl | rfl <;> decide
