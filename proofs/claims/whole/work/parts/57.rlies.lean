/-- the spots by a code, as the reference counts them -/
def dcd (n k m : Nat) : Option (Nat × Nat × Nat) := match k with
  | 0 => some (0, 0, 0)
  | 1 => some (m, 0, 0)
  | 2 => if m % n < m / n then none else some (m / n, m % n, 0)
  | _ => if m / n % n < m / n / n then none else if m % n < m / n % n then none else some (m / n / n, m / n % n, m % n)
def alC (n k : Nat) : Nat := match k with
  | 0 => 1
  | 1 => n
  | 2 => n * n
  | _ => n * n * n
def okL (n k : Nat) : Bool := decide (lsS n k 1728 (0, 0, 0) = (List.range (alC n k)).filterMap (dcd n k))
theorem okL_all : ∀ n, n < 11 → ∀ k, k < 4 → okL (n + 2) k = true := by decide +kernel
theorem lsS_all {n k : Nat} (h1 : 2 ≤ n) (h2 : n ≤ 12) (hk : k < 4) : lsS n k 1728 (0, 0, 0) = (List.range (alC n k)).filterMap (dcd n k) := by
  have h := okL_all (n - 2) (by omega) k hk
  rw [show n - 2 + 2 = n by omega] at h
  exact of_decide_eq_true h
theorem lhF_app {H : Nat × Nat × Nat → Int32} {a : Nat × Nat × Nat} : ∀ (r : List (Nat × Nat × Nat)) (p : Int32 × Option (Nat × Nat × Nat)), lhF H (r ++ [a]) p = if H a < (lhF H r p).1 then (H a, some a) else lhF H r p
  | [], p => rfl
  | b :: r, p => lhF_app r _
theorem lhF_nn {H : Nat × Nat × Nat → Int32} : ∀ (r : List (Nat × Nat × Nat)) (v : Int32), (lhF H r (v, none)).2 = none → (lhF H r (v, none)).1 = v
  | [], v, _ => rfl
  | b :: r, v, h => by
    show (lhF H r (if H b < v then (H b, some b) else (v, none))).1 = v
    have h2 : (lhF H r (if H b < v then (H b, some b) else (v, none))).2 = none := h
    by_cases c : H b < v
    · rw [if_pos c] at h2
      exact absurd h2 (lhF_some r _ (fun e => by cases e))
    · rw [if_neg c] at h2 ⊢
      exact lhF_nn r v h2
theorem lhF_le {H : Nat × Nat × Nat → Int32} {bd : Int32} : ∀ (r : List (Nat × Nat × Nat)) (p : Int32 × Option (Nat × Nat × Nat)), (lhF H r p).1 ≤ bd ↔ (p.1 ≤ bd ∨ ∃ a ∈ r, H a ≤ bd)
  | [], p => ⟨fun h => Or.inl h, fun h => h.elim id (fun ⟨_, h, _⟩ => absurd h List.not_mem_nil)⟩
  | b :: r, p => by
    show (lhF H r (if H b < p.1 then (H b, some b) else p)).1 ≤ bd ↔ _
    rw [lhF_le r]
    by_cases c : H b < p.1
    · rw [if_pos c]
      constructor
      · rintro (h | ⟨a, h1, h2⟩)
        · exact Or.inr ⟨b, List.mem_cons_self, h⟩
        · exact Or.inr ⟨a, List.mem_cons_of_mem _ h1, h2⟩
      · rintro (h | ⟨a, h1, h2⟩)
        · exact Or.inl (Int32.le_trans (Int32.le_of_lt c) h)
        · rcases List.mem_cons.mp h1 with rfl | h1
          · exact Or.inl h2
          · exact Or.inr ⟨a, h1, h2⟩
    · rw [if_neg c]
      constructor
      · rintro (h | ⟨a, h1, h2⟩)
        · exact Or.inl h
        · exact Or.inr ⟨a, List.mem_cons_of_mem _ h1, h2⟩
      · rintro (h | ⟨a, h1, h2⟩)
        · exact Or.inl h
        · rcases List.mem_cons.mp h1 with rfl | h1
          · exact Or.inl (Int32.le_trans (Int32.not_lt.mp c) h2)
          · exact Or.inr ⟨a, h1, h2⟩
/-- one more is fat on the trial -/
theorem Rt.gw {M N : Mm} {nw t nf kp : Nat} {x y z : Int32} {s : Sc} {fc fk : Nat → Int32} (h : Rt M N nw t nf z kp s fc fk) (hnf : nf < 12) : Rt M (sI (sI (sI N 181 (upd (N.1 181) (12 * 1 + nf) x)) 182 (upd (N.1 182) (12 * 1 + nf) y)) 180 (upd (N.1 180) 1 (nI (nf + 1)))) nw t (nf + 1) z kp s (upd fc nf x) (upd fk nf y) := by
  obtain ⟨h1, h2, h3, f1, f2, f3, f4⟩ := h
  refine ⟨h1.tr ⟨rfl, fun a a1 a2 a3 a4 => (sI_ne (by omega)).trans ((sI_ne (by omega)).trans (sI_ne (by omega))), fun j a1 a2 a3 a4 a5 => rfl, fun a ha j a1 a2 => ?_, fun a ha j hj => ?_, fun a ha j hj => congrFun ((sI_ne (by omega)).trans ((sI_ne (by omega)).trans (sI_ne (by omega)))) j⟩, h2.eq rfl, h3, ⟨rfl, by omega, fun j hj => ?_, fun j hj => ?_⟩⟩
  · by_cases e : a = 180
    · subst e; exact pk_un a1
    · exact congrFun ((sI_ne (by omega)).trans ((sI_ne (by omega)).trans (sI_ne (by omega)))) j
  · by_cases e : a = 181
    · subst e; exact pk_un (by omega)
    · by_cases e2 : a = 182
      · subst e2; exact pk_un (by omega)
      · exact congrFun ((sI_ne (by omega)).trans ((sI_ne (by omega)).trans (sI_ne (by omega)))) j
  · show upd (N.1 181) (12 * 1 + nf) x (12 * 1 + j) = upd fc nf x j
    by_cases e : j = nf
    · subst e; rw [pk_us, pk_us]
    · rw [pk_un (by omega), pk_un e]; exact f3 j (by omega)
  · show upd (N.1 182) (12 * 1 + nf) y (12 * 1 + j) = upd fk nf y j
    by_cases e : j = nf
    · subst e; rw [pk_us, pk_us]
    · rw [pk_un (by omega), pk_un e]; exact f4 j (by omega)
theorem rvGw {G : Gx} {l : Launch} {ly : Ly} {M N : Mm} {nw t nf kp : Nat} {x y z : Int32} {s : Sc} {fc fk : Nat → Int32} (h : Rt M N nw t nf z kp s fc fk) (hnf : nf < 12) (hR : RW ly N.2.2) {Q : Qt} (hQ : ∀ K : Mm, Rt M K nw t (nf + 1) z kp s (upd fc nf x) (upd fk nf y) → K.1 149 = N.1 149 → K.1 189 = N.1 189 → Q none ly K) : Mt G l mX12_grows (1, 0, 0, false) [.ref 149, .int (nI 1), .int x, .int y] ly N Q := by
  refine Mt.post (tX12_grows (b := 1) (nf := nf) (by decide) h.2.2.2.1 hnf hR) ?_
  rintro v ly2 K ⟨rfl, rfl, rfl⟩
  exact hQ _ (h.gw hnf) rfl rfl
theorem lhF_ge {H : Nat × Nat × Nat → Int32} (h : ∀ a, 0 ≤ H a) : ∀ (r : List (Nat × Nat × Nat)) (p : Int32 × Option (Nat × Nat × Nat)), 0 ≤ p.1 → 0 ≤ (lhF H r p).1
  | [], p, hp => hp
  | b :: r, p, hp => lhF_ge h r _ (by split; exact h b; exact hp)
/-- where the least is, as the reference keeps it -/
def lsQ (K : Mm) (k : Nat) (q : Int32 × Option (Nat × Nat × Nat)) : Prop := (q.2 = none ∧ K.1 149 66 = -1) ∨ (∃ b : Nat × Nat × Nat, q.2 = some b ∧ K.1 149 66 = q.1 ∧ ∀ j, j < k → K.1 189 j = nI (gt3 b j))
theorem lsQ.eq {K L : Mm} {k : Nat} {q : Int32 × Option (Nat × Nat × Nat)} (h : lsQ K k q) (e1 : L.1 149 66 = K.1 149 66) (e2 : L.1 189 = K.1 189) : lsQ L k q := by unfold lsQ; rw [e1, e2]; exact h
theorem rvNow2 {G : Gx} {l : Launch} {ly : Ly} {M N : Mm} {n nw t nf : Nat} {p : P4} {h0 c0 : Int32} {W : Wx} {lw : Nat → (Nat → Int32) × Nat} {s : Sc} {fc fk : Nat → Int32} {x : Int32} {kp : Nat} (hS : RS M n nw t nf p h0 c0 W lw s fc fk) (hq : qR M N) (hm : md N x kp) (hR : RW ly N.2.2) {Q : Qt} (hQ : ∀ K : Mm, Rt M K nw t nf x kp s fc fk → K.1 149 = N.1 149 → K.1 189 = N.1 189 → Q none ly K) : Mt G l mX12_copies (2, 0, 0, false) [.ref 149, .int (nI 1), .int (nI 0)] ly N Q := by
  have hS2 := hS.q hq
  exact tX12_copies (p := 1) (q := 0) (nf := nf) (by decide) (by decide) (by decide) hS2.2.2.1.1 hS2.2.2.1.2.1 hS2.2.2.2.1 hR (fun K h => hQ K ⟨hq.tr (h.q (Or.inl rfl) hS2.2.2.1.2.1), hm.eq (h.2.1 149 (by omega)), h.al hS.w6 hS2.2.1, h.ft hS2.2.2.1⟩ (h.2.1 149 (by omega)) (h.2.1 189 (by omega)))
theorem rvHigh2 {G : Gx} {l : Launch} {ly : Ly} {M N : Mm} {n nw t nf : Nat} {p : P4} {h0 c0 : Int32} {W : Wx} {lw : Nat → (Nat → Int32) × Nat} {s : Sc} {fc fk : Nat → Int32} {x : Int32} {kp : Nat} {fc2 fk2 ca : Nat → Int32} {s2 : Sc} {t2 nf2 K0 : Nat} (hS : RS M n nw t nf p h0 c0 W lw s fc fk) (h : Rt M N nw t2 nf2 x kp s2 fc2 fk2) (hk : kp < 5) (hx : ¬ x = 0) (hx5 : ¬ x = 5) (hx1 : ¬ x = 1) (hca : cas n nf2 c0 fc2 fk2 ca) (ht : t2 ≤ 9999) (hK : K0 ≤ 1000) (hR : RW ly N.2.2) {Q : Qt} (hQ : ∀ K : Mm, qR M K → md K x kp → K.1 149 66 = N.1 149 66 → K.1 189 = N.1 189 → Q (some (.int (hgS (TR n nw p h0 0 ca W (fun m => valL m (lw kp).1 (lw kp).2) (fun m => valL m (lw 1).1 (lw 1).2)) s2 n K0))) ly K) : Mt G l mX12_highOf (8, 0, 0, false) [.ref 149, .int (nI K0)] ly N Q :=
  tX12_highOf (M := N) (N := K0) (h.ev hS hk hx hx5 hx1 hca) h.2.1.2.2.1 h.2.2.1 (by omega) hR (fun K f _ => hQ K (h.1.bl.tr f.q) (md.ps (N := sI N 171 (upd (N.1 171) 1 0)) (h.2.1.eq rfl) f) (f.2.2.1 66 (by decide)) (f.at 189 (by omega)))
theorem dv_lt {n m k : Nat} (h : m < n * k) : m / n < k := Nat.div_lt_of_lt_mul h
theorem tX12_layLies0 {G : Gx} {l : Launch} {ly : Ly} {M N0 : Mm} {n nw t nf : Nat} {p : P4} {h0 c0 : Int32} {W : Wx} {lw : Nat → (Nat → Int32) × Nat} {s : Sc} {fc fk : Nat → Int32} {y : Int32} {N : Nat} {cak : Nat × Nat × Nat → Nat → Int32} (hN : N ≤ 1000) (hnf : nf + 0 ≤ 8) (hn1 : 1 ≤ n) (hS : RS M n nw t nf p h0 c0 W lw s fc fk) (hcak : ∀ a : Nat × Nat × Nat, a.1 < n → a.2.1 < n → a.2.2 < n → cas n (nf + 0) c0 (fcK fc nf a 0) (fkK fk nf y 0) (cak a)) (hq : qR M N0) (hm : md N0 (-1) 0) (hR : RW ly M.2.2) {Q : Qt} (hQ : ∀ K : Mm, qR M K → md K (-1) 0 → lsQ K 0 (lhF (fun a => hgS (TR n nw p h0 0 (cak a) W (fun m => valL m (lw 0).1 (lw 0).2) (fun m => valL m (lw 1).1 (lw 1).2)) s n N) ((List.range (alC n 0)).filterMap (dcd n 0)) (100001, none)) → Q none ly K) : Mt G l mX12_layLies (9, 0, 0, false) [.ref 149, .int (nI N), .int 0, .int y] ly N0 Q := by
  refine Mt.of (lv := [some (.ref 149), some (.int (nI N)), some (.int 0), some (.int y), none, none, none, none, none, none, none]) rfl ?_
  have hRN0 : RW ly N0.2.2 := by rw [hq.1]; exact hR
  have hn12 := hS.n.2
  have hnN : N0.1 151 0 = nI n := (hS.q hq).n.1
  have hnn : n * n ≤ 144 := Nat.mul_le_mul hn12 hn12
  have hnnn : n * n * n ≤ 1728 := Nat.mul_le_mul hnn hn12
  refine Rn.aload_n dX12_layLies_0 rfl ?_
  refine Rn.iconstv (v := -1) dX12_layLies_1 ic_m1 ?_
  refine Rn.putI dX12_layLies_2 fX12_487 rfl rfl rfl (rc149 hRN0) ?_
  refine Rn.aload_n dX12_layLies_5 rfl ?_
  refine Rn.getR dX12_layLies_6 fX12_15 rfl (rc149 hRN0) (show N0.2.2 149 3 = some 151 from (rpt3 hRN0)) ?_
  refine Rn.iconstv (v := 0) dX12_layLies_9 ic_0 ?_
  refine Rn.iald dX12_layLies_10 (rc151 hRN0) (by unfold vp_in; decide) ?_
  refine Rn.topI (y := N0.1 151 0) (rfl) ?_
  refine Rn.topI (y := nI n) (hnN) ?_
  refine Rn.istore (lv' := [some (.ref 149), some (.int (nI N)), some (.int 0), some (.int y), some (.int (nI n)), none, none, none, none, none, none]) dX12_layLies_11 (by decide) rfl ?_
  refine Rn.iload_n dX12_layLies_13 rfl ?_
  refine Rn.if_ne dX12_layLies_14 (fun hl1 => ?_) (fun hl1 => ?_)
  · skip
    first | exact absurd hl1 (by decide) | exact absurd (by decide) hl1
  · skip
    refine Rn.iconstv (v := 1) dX12_layLies_17 ic_1 ?_
    refine Rn.goto dX12_layLies_18 ?_
    show Rn G l mX12_layLies (9, 0, 0, false) 52 [some (.ref 149), some (.int (nI N)), some (.int 0), some (.int y), some (.int (nI n)), none, none, none, none, none, none] [.int (nI 1)] ly (sI N0 149 (upd (N0.1 149) 66 (-1))) Q
    refine Rn.istore (lv' := [some (.ref 149), some (.int (nI N)), some (.int 0), some (.int y), some (.int (nI n)), some (.int (nI 1)), none, none, none, none, none]) dX12_layLies_52 (by decide) rfl ?_
    refine Rn.iconstv (v := 0) dX12_layLies_54 ic_0 ?_
    refine Rn.istore (lv' := [some (.ref 149), some (.int (nI N)), some (.int 0), some (.int y), some (.int (nI n)), some (.int (nI 1)), some (.int 0), none, none, none, none]) dX12_layLies_55 (by decide) rfl ?_
    have loop : ∀ (f m : Nat) (KK : Mm), m + f = 1 → qR M KK → md KK (-1) 0 → lsQ KK 0 (lhF (fun a => hgS (TR n nw p h0 0 (cak a) W (fun m => valL m (lw 0).1 (lw 0).2) (fun m => valL m (lw 1).1 (lw 1).2)) s n N) ((List.range m).filterMap (dcd n 0)) (100001, none)) → Rn G l mX12_layLies (9, 0, 0, false) 57 [some (.ref 149), some (.int (nI N)), some (.int 0), some (.int y), some (.int (nI n)), some (.int (nI 1)), some (.int (nI m)), none, none, none, none] [] ly KK Q := by
      intro f
      induction f with
      | zero =>
        intro m KK hmf hq hm hl
        have hRKK : RW ly KK.2.2 := by rw [hq.1]; exact hR
        refine Rn.iload dX12_layLies_57 rfl ?_
        refine Rn.iload dX12_layLies_59 rfl ?_
        refine Rn.icmp_ge dX12_layLies_61 (fun hlp => ?_) (fun hlp => ?_)
        · skip
          have em : m = 1 := by omega
          rw [em] at hl
          exact Rn.vret dX12_layLies_262 rfl (hQ KK hq hm hl)
        · skip
          exact absurd (nI_le (a := 1) (b := m) (by omega) (by omega)) hlp
      | succ f ih =>
        intro m KK hmf hq hm hl
        have hRKK : RW ly KK.2.2 := by rw [hq.1]; exact hR
        refine Rn.iload dX12_layLies_57 rfl ?_
        refine Rn.iload dX12_layLies_59 rfl ?_
        refine Rn.icmp_ge dX12_layLies_61 (fun hlp => ?_) (fun hlp => ?_)
        · skip
          exact absurd hlp (nI_ge (a := m) (b := 1) (by omega) (by omega))
        · skip
          have hmA : m < 1 := by omega
          have hm31 : m < 2 ^ 31 := by omega
          have hnz : ¬ nI n = 0 := nI_ne0 (by omega) (by omega)
          have hmod : m % n < n := Nat.mod_lt m (by omega)
          refine Rn.iload_n dX12_layLies_64 rfl ?_
          refine Rn.iconstv (v := 3) dX12_layLies_65 ic_3 ?_
          refine Rn.icmp_ne dX12_layLies_66 (fun hl2 => ?_) (fun hl2 => ?_)
          · skip
            refine Rn.iload_n dX12_layLies_80 rfl ?_
            refine Rn.iconstv (v := 2) dX12_layLies_81 ic_2 ?_
            refine Rn.icmp_ne dX12_layLies_82 (fun hl3 => ?_) (fun hl3 => ?_)
            · skip
              refine Rn.iload dX12_layLies_93 rfl ?_
              refine Rn.istore (lv' := [some (.ref 149), some (.int (nI N)), some (.int 0), some (.int y), some (.int (nI n)), some (.int (nI 1)), some (.int (nI m)), some (.int (nI m)), none, none, none]) dX12_layLies_95 (by decide) rfl ?_
              refine Rn.iload_n dX12_layLies_97 rfl ?_
              refine Rn.iconstv (v := 3) dX12_layLies_98 ic_3 ?_
              refine Rn.icmp_ne dX12_layLies_99 (fun hl4 => ?_) (fun hl4 => ?_)
              · skip
                refine Rn.iload dX12_layLies_113 rfl ?_
                refine Rn.iload dX12_layLies_115 rfl ?_
                refine Rn.irem dX12_layLies_117 hnz ?_
                refine Rn.topI (y := nI (m % n)) (i32rem hm31 (by omega)) ?_
                refine Rn.istore (lv' := [some (.ref 149), some (.int (nI N)), some (.int 0), some (.int y), some (.int (nI n)), some (.int (nI 1)), some (.int (nI m)), some (.int (nI m)), some (.int (nI (m % n))), none, none]) dX12_layLies_118 (by decide) rfl ?_
                refine Rn.iload dX12_layLies_120 rfl ?_
                refine Rn.iload dX12_layLies_122 rfl ?_
                refine Rn.irem dX12_layLies_124 hnz ?_
                refine Rn.topI (y := nI (m % n)) (i32rem hm31 (by omega)) ?_
                refine Rn.istore (lv' := [some (.ref 149), some (.int (nI N)), some (.int 0), some (.int y), some (.int (nI n)), some (.int (nI 1)), some (.int (nI m)), some (.int (nI m)), some (.int (nI (m % n))), some (.int (nI (m % n))), none]) dX12_layLies_125 (by decide) rfl ?_
                refine Rn.iload_n dX12_layLies_127 rfl ?_
                refine Rn.iconstv (v := 2) dX12_layLies_128 ic_2 ?_
                refine Rn.icmp_lt dX12_layLies_129 (fun hl5 => ?_) (fun hl5 => ?_)
                · skip
                  refine Rn.iload_n dX12_layLies_139 rfl ?_
                  refine Rn.iconstv (v := 3) dX12_layLies_140 ic_3 ?_
                  refine Rn.icmp_ne dX12_layLies_141 (fun hl6 => ?_) (fun hl6 => ?_)
                  · skip
                    have hdc : dcd n 0 m = some (0, 0, 0) := rfl
                    have hnx : (List.range (m + 1)).filterMap (dcd n 0) = (List.range m).filterMap (dcd n 0) ++ [(0, 0, 0)] := by rw [List.range_succ, List.filterMap_append]; exact congrArg (fun q9 => List.filterMap (dcd n 0) (List.range m) ++ q9) (by show List.filterMap (dcd n 0) [m] = _; rw [List.filterMap_cons, hdc]; rfl)
                    have hm0 : m = 0 := by omega
                    refine Rn.aload_n dX12_layLies_154 rfl ?_
                    refine Rn.iconstv (v := 1) dX12_layLies_155 ic_1 ?_
                    refine Rn.iconstv (v := 0) dX12_layLies_156 ic_0 ?_
                    refine Rn.callV2 dX12_layLies_157 vX12_461 (rc149 hRKK) (by decide) rfl (rvNow2 (M := M) (N := KK) (x := (-1)) (kp := 0) (Q := fun v0 ly0 K => v0 = none ∧ ly0 = ly ∧ Rt M K nw t nf (-1) 0 s fc fk ∧ K.1 149 = KK.1 149 ∧ K.1 189 = KK.1 189) hS hq hm hRKK (fun K a c d => ⟨rfl, rfl, a, c, d⟩)) (by decide) ⟨(Nat.le_of_ble_eq_true rfl), (Nat.le_of_ble_eq_true rfl), (Nat.le_of_ble_eq_true rfl)⟩ (fun h => by cases h) (fun v1 ly1 N1 ⟨q1, q2, hT1, e1, d1⟩ => ?_)
                    rw [q1, q2]
                    have hRN1 : RW ly N1.2.2 := by rw [hT1.1.1]; exact hR
                    refine Rn.iload_n dX12_layLies_160 rfl ?_
                    refine Rn.iconstv (v := 1) dX12_layLies_161 ic_1 ?_
                    refine Rn.icmp_lt dX12_layLies_162 (fun hl7 => ?_) (fun hl7 => ?_)
                    · skip
                      refine Rn.iload_n dX12_layLies_173 rfl ?_
                      refine Rn.iconstv (v := 2) dX12_layLies_174 ic_2 ?_
                      refine Rn.icmp_lt dX12_layLies_175 (fun hl8 => ?_) (fun hl8 => ?_)
                      · skip
                        refine Rn.iload_n dX12_layLies_186 rfl ?_
                        refine Rn.iconstv (v := 3) dX12_layLies_187 ic_3 ?_
                        refine Rn.icmp_lt dX12_layLies_188 (fun hl9 => ?_) (fun hl9 => ?_)
                        · skip
                          refine Rn.aload_n dX12_layLies_199 rfl ?_
                          refine Rn.iload_n dX12_layLies_200 rfl ?_
                          refine Rn.callV1 dX12_layLies_201 vX12_477 (rc149 hRN1) (by decide) rfl (rvHigh2 (M := M) (N := N1) (ca := cak (0, 0, 0)) (s2 := s) (K0 := N) (kp := 0) (Q := fun v0 ly0 K => v0 = some (.int (hgS (TR n nw p h0 0 (cak (0, 0, 0)) W (fun m => valL m (lw 0).1 (lw 0).2) (fun m => valL m (lw 1).1 (lw 1).2)) s n N)) ∧ ly0 = ly ∧ qR M K ∧ md K (-1) 0 ∧ K.1 149 66 = N1.1 149 66 ∧ K.1 189 = N1.1 189) hS hT1 (by decide) (by decide) (by decide) (by decide) (hcak (0, 0, 0) (by show 0 < n; omega) (by show 0 < n; omega) (by show 0 < n; omega)) hS.2.2.2.2 hN hRN1 (fun K a c d e => ⟨rfl, rfl, a, c, d, e⟩)) (by decide) ⟨(Nat.le_of_ble_eq_true rfl), (Nat.le_of_ble_eq_true rfl), (Nat.le_of_ble_eq_true rfl)⟩ (fun h => by cases h) (fun v1 ly1 N8 ⟨q1, q2, hq8, hm8, e8, d8⟩ => ?_)
                          rw [q1, q2]
                          have hRN8 : RW ly N8.2.2 := by rw [hq8.1]; exact hR
                          have e66 : N8.1 149 66 = KK.1 149 66 := (e8).trans (congrFun e1 66)
                          have e189 : N8.1 189 = KK.1 189 := (d8).trans (d1)
                          obtain ⟨hi, hhi⟩ : ∃ hi : Int32, hi = (fun a => hgS (TR n nw p h0 0 (cak a) W (fun m => valL m (lw 0).1 (lw 0).2) (fun m => valL m (lw 1).1 (lw 1).2)) s n N) (0, 0, 0) := ⟨_, rfl⟩
                          refine Rn.topI (y := hi) hhi.symm ?_
                          have hi5 : hi ≤ 100000 := by rw [hhi]; exact hgS_le (fun s => gr_pas) N
                          have hl8 : lsQ N8 0 (lhF (fun a => hgS (TR n nw p h0 0 (cak a) W (fun m => valL m (lw 0).1 (lw 0).2) (fun m => valL m (lw 1).1 (lw 1).2)) s n N) ((List.range m).filterMap (dcd n 0)) (100001, none)) := hl.eq e66 e189
                          have hq2 : lhF (fun a => hgS (TR n nw p h0 0 (cak a) W (fun m => valL m (lw 0).1 (lw 0).2) (fun m => valL m (lw 1).1 (lw 1).2)) s n N) ((List.range (m + 1)).filterMap (dcd n 0)) (100001, none) = if hi < (lhF (fun a => hgS (TR n nw p h0 0 (cak a) W (fun m => valL m (lw 0).1 (lw 0).2) (fun m => valL m (lw 1).1 (lw 1).2)) s n N) ((List.range m).filterMap (dcd n 0)) (100001, none)).1 then (hi, some (0, 0, 0)) else (lhF (fun a => hgS (TR n nw p h0 0 (cak a) W (fun m => valL m (lw 0).1 (lw 0).2) (fun m => valL m (lw 1).1 (lw 1).2)) s n N) ((List.range m).filterMap (dcd n 0)) (100001, none)) := by rw [hnx, lhF_app, hhi]
                          have hge0 : (0 : Int32) ≤ (lhF (fun a => hgS (TR n nw p h0 0 (cak a) W (fun m => valL m (lw 0).1 (lw 0).2) (fun m => valL m (lw 1).1 (lw 1).2)) s n N) ((List.range m).filterMap (dcd n 0)) (100001, none)).1 := lhF_ge (fun a => hgS_0 N) _ _ (by decide)
                          refine Rn.istore (lv' := [some (.ref 149), some (.int (nI N)), some (.int 0), some (.int y), some (.int (nI n)), some (.int (nI 1)), some (.int (nI m)), some (.int (nI m)), some (.int (nI (m % n))), some (.int (nI (m % n))), some (.int hi)]) dX12_layLies_204 (by decide) rfl ?_
                          refine Rn.aload_n dX12_layLies_206 rfl ?_
                          refine Rn.getI dX12_layLies_207 fX12_487 rfl (rc149 hRN8) ?_
                          refine Rn.iconstv (v := -1) dX12_layLies_210 ic_m1 ?_
                          refine Rn.icmp_eq dX12_layLies_211 (fun hb => ?_) (fun hb => ?_)
                          · skip
                            refine Rn.aload_n dX12_layLies_226 rfl ?_
                            refine Rn.iload dX12_layLies_227 rfl ?_
                            refine Rn.putI dX12_layLies_229 fX12_487 rfl rfl rfl (rc149 hRN8) ?_
                            refine Rn.aload_n dX12_layLies_232 rfl ?_
                            refine Rn.getR dX12_layLies_233 fX12_141 rfl (rc149 hRN8) (show N8.2.2 149 67 = some 189 from (rpt67 hRN8)) ?_
                            refine Rn.iconstv (v := 0) dX12_layLies_236 ic_0 ?_
                            refine Rn.iload dX12_layLies_237 rfl ?_
                            refine Rn.iast dX12_layLies_239 (rc189 hRN8) (by unfold vp_in; decide) ?_
                            refine Rn.aload_n dX12_layLies_240 rfl ?_
                            refine Rn.getR dX12_layLies_241 fX12_141 rfl (rc149 hRN8) (show N8.2.2 149 67 = some 189 from (rpt67 hRN8)) ?_
                            refine Rn.iconstv (v := 1) dX12_layLies_244 ic_1 ?_
                            refine Rn.iload dX12_layLies_245 rfl ?_
                            refine Rn.iast dX12_layLies_247 (rc189 hRN8) (by unfold vp_in; decide) ?_
                            refine Rn.meq (M2 := sI (sI N8 149 (upd (N8.1 149) 66 hi)) 189 (upd (upd (N8.1 189) 0 (nI m)) 1 (nI (m % n)))) (sI_sI _ _ _ _) ?_
                            refine Rn.aload_n dX12_layLies_248 rfl ?_
                            refine Rn.getR dX12_layLies_249 fX12_141 rfl (rc149 hRN8) (show N8.2.2 149 67 = some 189 from (rpt67 hRN8)) ?_
                            refine Rn.iconstv (v := 2) dX12_layLies_252 ic_2 ?_
                            refine Rn.iload dX12_layLies_253 rfl ?_
                            refine Rn.iast dX12_layLies_255 (rc189 hRN8) (by unfold vp_in; decide) ?_
                            refine Rn.meq (M2 := sI (sI N8 149 (upd (N8.1 149) 66 hi)) 189 (upd (upd (upd (N8.1 189) 0 (nI m)) 1 (nI (m % n))) 2 (nI (m % n)))) (sI_sI _ _ _ _) ?_
                            refine Rn.iincN (lv' := [some (.ref 149), some (.int (nI N)), some (.int 0), some (.int y), some (.int (nI n)), some (.int (nI 1)), some (.int (nI (m + 1))), some (.int (nI m)), some (.int (nI (m % n))), some (.int (nI (m % n))), some (.int hi)]) dX12_layLies_256 rfl (by decide) rfl ?_
                            refine Rn.goto dX12_layLies_259 ?_
                            refine Rn.forget (lv' := [some (.ref 149), some (.int (nI N)), some (.int 0), some (.int y), some (.int (nI n)), some (.int (nI 1)), some (.int (nI (m + 1))), none, none, none, none]) (⟨rfl, ⟨rfl, ⟨rfl, ⟨rfl, ⟨rfl, ⟨rfl, ⟨rfl, trivial⟩⟩⟩⟩⟩⟩⟩) ?_
                            have hyes : hi < (lhF (fun a => hgS (TR n nw p h0 0 (cak a) W (fun m => valL m (lw 0).1 (lw 0).2) (fun m => valL m (lw 1).1 (lw 1).2)) s n N) ((List.range m).filterMap (dcd n 0)) (100001, none)).1 := hl8.elim (fun h => by rw [lhF_nn _ _ h.1]; exact Int32.lt_of_le_of_lt hi5 (by decide)) (fun ⟨b, h1, h2, _⟩ => absurd (show (0 : Int32) ≤ -1 by rw [← hb, h2]; exact hge0) (by decide))
                            refine ih (m + 1) _ (by omega) ?_ ?_ ?_
                            · exact (hq8.fj (k := 66) (x := hi) (by decide)).tr ⟨rfl, fun a a1 a2 a3 a4 => sI_ne (by omega), fun j a1 a2 a3 a4 a5 => rfl, fun a ha j a1 a2 => congrFun (sI_ne (by omega)) j, fun a ha j hj => congrFun (sI_ne (by omega)) j, fun a ha j hj => congrFun (sI_ne (by omega)) j⟩
                            · exact ⟨(show upd (N8.1 149) 66 hi 55 = _ from pk_un (by decide)).trans hm8.1, (show upd (N8.1 149) 66 hi 56 = _ from pk_un (by decide)).trans hm8.2.1, (show upd (N8.1 149) 66 hi 57 = _ from pk_un (by decide)).trans hm8.2.2.1, (show upd (N8.1 149) 66 hi 62 = _ from pk_un (by decide)).trans hm8.2.2.2⟩
                            · rw [hq2, if_pos hyes]
                              refine Or.inr ⟨(0, 0, 0), rfl, rfl, fun j hj => ?_⟩
                              exact absurd hj (by omega)
                          · skip
                            refine Rn.iload dX12_layLies_214 rfl ?_
                            refine Rn.aload_n dX12_layLies_216 rfl ?_
                            refine Rn.getI dX12_layLies_217 fX12_487 rfl (rc149 hRN8) ?_
                            refine Rn.icmp_lt dX12_layLies_220 (fun hgt => ?_) (fun hgt => ?_)
                            · skip
                              have e66b : N8.1 149 66 = (lhF (fun a => hgS (TR n nw p h0 0 (cak a) W (fun m => valL m (lw 0).1 (lw 0).2) (fun m => valL m (lw 1).1 (lw 1).2)) s n N) ((List.range m).filterMap (dcd n 0)) (100001, none)).1 := (hl8.elim (fun h => absurd h.2 hb) (fun ⟨b, h1, h2, _⟩ => h2))
                              refine Rn.aload_n dX12_layLies_226 rfl ?_
                              refine Rn.iload dX12_layLies_227 rfl ?_
                              refine Rn.putI dX12_layLies_229 fX12_487 rfl rfl rfl (rc149 hRN8) ?_
                              refine Rn.aload_n dX12_layLies_232 rfl ?_
                              refine Rn.getR dX12_layLies_233 fX12_141 rfl (rc149 hRN8) (show N8.2.2 149 67 = some 189 from (rpt67 hRN8)) ?_
                              refine Rn.iconstv (v := 0) dX12_layLies_236 ic_0 ?_
                              refine Rn.iload dX12_layLies_237 rfl ?_
                              refine Rn.iast dX12_layLies_239 (rc189 hRN8) (by unfold vp_in; decide) ?_
                              refine Rn.aload_n dX12_layLies_240 rfl ?_
                              refine Rn.getR dX12_layLies_241 fX12_141 rfl (rc149 hRN8) (show N8.2.2 149 67 = some 189 from (rpt67 hRN8)) ?_
                              refine Rn.iconstv (v := 1) dX12_layLies_244 ic_1 ?_
                              refine Rn.iload dX12_layLies_245 rfl ?_
                              refine Rn.iast dX12_layLies_247 (rc189 hRN8) (by unfold vp_in; decide) ?_
                              refine Rn.meq (M2 := sI (sI N8 149 (upd (N8.1 149) 66 hi)) 189 (upd (upd (N8.1 189) 0 (nI m)) 1 (nI (m % n)))) (sI_sI _ _ _ _) ?_
                              refine Rn.aload_n dX12_layLies_248 rfl ?_
                              refine Rn.getR dX12_layLies_249 fX12_141 rfl (rc149 hRN8) (show N8.2.2 149 67 = some 189 from (rpt67 hRN8)) ?_
                              refine Rn.iconstv (v := 2) dX12_layLies_252 ic_2 ?_
                              refine Rn.iload dX12_layLies_253 rfl ?_
                              refine Rn.iast dX12_layLies_255 (rc189 hRN8) (by unfold vp_in; decide) ?_
                              refine Rn.meq (M2 := sI (sI N8 149 (upd (N8.1 149) 66 hi)) 189 (upd (upd (upd (N8.1 189) 0 (nI m)) 1 (nI (m % n))) 2 (nI (m % n)))) (sI_sI _ _ _ _) ?_
                              refine Rn.iincN (lv' := [some (.ref 149), some (.int (nI N)), some (.int 0), some (.int y), some (.int (nI n)), some (.int (nI 1)), some (.int (nI (m + 1))), some (.int (nI m)), some (.int (nI (m % n))), some (.int (nI (m % n))), some (.int hi)]) dX12_layLies_256 rfl (by decide) rfl ?_
                              refine Rn.goto dX12_layLies_259 ?_
                              refine Rn.forget (lv' := [some (.ref 149), some (.int (nI N)), some (.int 0), some (.int y), some (.int (nI n)), some (.int (nI 1)), some (.int (nI (m + 1))), none, none, none, none]) (⟨rfl, ⟨rfl, ⟨rfl, ⟨rfl, ⟨rfl, ⟨rfl, ⟨rfl, trivial⟩⟩⟩⟩⟩⟩⟩) ?_
                              have hyes : hi < (lhF (fun a => hgS (TR n nw p h0 0 (cak a) W (fun m => valL m (lw 0).1 (lw 0).2) (fun m => valL m (lw 1).1 (lw 1).2)) s n N) ((List.range m).filterMap (dcd n 0)) (100001, none)).1 := by rw [← e66b]; exact hgt
                              refine ih (m + 1) _ (by omega) ?_ ?_ ?_
                              · exact (hq8.fj (k := 66) (x := hi) (by decide)).tr ⟨rfl, fun a a1 a2 a3 a4 => sI_ne (by omega), fun j a1 a2 a3 a4 a5 => rfl, fun a ha j a1 a2 => congrFun (sI_ne (by omega)) j, fun a ha j hj => congrFun (sI_ne (by omega)) j, fun a ha j hj => congrFun (sI_ne (by omega)) j⟩
                              · exact ⟨(show upd (N8.1 149) 66 hi 55 = _ from pk_un (by decide)).trans hm8.1, (show upd (N8.1 149) 66 hi 56 = _ from pk_un (by decide)).trans hm8.2.1, (show upd (N8.1 149) 66 hi 57 = _ from pk_un (by decide)).trans hm8.2.2.1, (show upd (N8.1 149) 66 hi 62 = _ from pk_un (by decide)).trans hm8.2.2.2⟩
                              · rw [hq2, if_pos hyes]
                                refine Or.inr ⟨(0, 0, 0), rfl, rfl, fun j hj => ?_⟩
                                exact absurd hj (by omega)
                            · skip
                              have e66b : N8.1 149 66 = (lhF (fun a => hgS (TR n nw p h0 0 (cak a) W (fun m => valL m (lw 0).1 (lw 0).2) (fun m => valL m (lw 1).1 (lw 1).2)) s n N) ((List.range m).filterMap (dcd n 0)) (100001, none)).1 := (hl8.elim (fun h => absurd h.2 hb) (fun ⟨b, h1, h2, _⟩ => h2))
                              refine Rn.goto dX12_layLies_223 ?_
                              refine Rn.iincN (lv' := [some (.ref 149), some (.int (nI N)), some (.int 0), some (.int y), some (.int (nI n)), some (.int (nI 1)), some (.int (nI (m + 1))), some (.int (nI m)), some (.int (nI (m % n))), some (.int (nI (m % n))), some (.int hi)]) dX12_layLies_256 rfl (by decide) rfl ?_
                              refine Rn.goto dX12_layLies_259 ?_
                              refine Rn.forget (lv' := [some (.ref 149), some (.int (nI N)), some (.int 0), some (.int y), some (.int (nI n)), some (.int (nI 1)), some (.int (nI (m + 1))), none, none, none, none]) (⟨rfl, ⟨rfl, ⟨rfl, ⟨rfl, ⟨rfl, ⟨rfl, ⟨rfl, trivial⟩⟩⟩⟩⟩⟩⟩) ?_
                              exact ih (m + 1) N8 (by omega) hq8 hm8 (by rw [hq2, if_neg (by rw [← e66b]; exact hgt)]; exact hl8)
                        · skip
                          first | exact absurd hl9 (by decide) | exact absurd (by decide) hl9
                      · skip
                        first | exact absurd hl8 (by decide) | exact absurd (by decide) hl8
                    · skip
                      first | exact absurd hl7 (by decide) | exact absurd (by decide) hl7
                  · skip
                    first | exact absurd hl6 (by decide) | exact absurd (by decide) hl6
                · skip
                  first | exact absurd hl5 (by decide) | exact absurd (by decide) hl5
              · skip
                first | exact absurd hl4 (by decide) | exact absurd (by decide) hl4
            · skip
              first | exact absurd hl3 (by decide) | exact absurd (by decide) hl3
          · skip
            first | exact absurd hl2 (by decide) | exact absurd (by decide) hl2
    exact loop (1) 0 _ (by omega) (hq.fj (by decide)) ⟨(show upd (N0.1 149) 66 (-1) 55 = _ from pk_un (by decide)).trans hm.1, (show upd (N0.1 149) 66 (-1) 56 = _ from pk_un (by decide)).trans hm.2.1, (show upd (N0.1 149) 66 (-1) 57 = _ from pk_un (by decide)).trans hm.2.2.1, (show upd (N0.1 149) 66 (-1) 62 = _ from pk_un (by decide)).trans hm.2.2.2⟩ (Or.inl ⟨rfl, rfl⟩)
theorem tX12_layLies1 {G : Gx} {l : Launch} {ly : Ly} {M N0 : Mm} {n nw t nf : Nat} {p : P4} {h0 c0 : Int32} {W : Wx} {lw : Nat → (Nat → Int32) × Nat} {s : Sc} {fc fk : Nat → Int32} {y : Int32} {N : Nat} {cak : Nat × Nat × Nat → Nat → Int32} (hN : N ≤ 1000) (hnf : nf + 1 ≤ 8) (hn1 : 1 ≤ n) (hS : RS M n nw t nf p h0 c0 W lw s fc fk) (hcak : ∀ a : Nat × Nat × Nat, a.1 < n → a.2.1 < n → a.2.2 < n → cas n (nf + 1) c0 (fcK fc nf a 1) (fkK fk nf y 1) (cak a)) (hq : qR M N0) (hm : md N0 (-1) 0) (hR : RW ly M.2.2) {Q : Qt} (hQ : ∀ K : Mm, qR M K → md K (-1) 0 → lsQ K 1 (lhF (fun a => hgS (TR n nw p h0 0 (cak a) W (fun m => valL m (lw 0).1 (lw 0).2) (fun m => valL m (lw 1).1 (lw 1).2)) s n N) ((List.range (alC n 1)).filterMap (dcd n 1)) (100001, none)) → Q none ly K) : Mt G l mX12_layLies (9, 0, 0, false) [.ref 149, .int (nI N), .int 1, .int y] ly N0 Q := by
  refine Mt.of (lv := [some (.ref 149), some (.int (nI N)), some (.int 1), some (.int y), none, none, none, none, none, none, none]) rfl ?_
  have hRN0 : RW ly N0.2.2 := by rw [hq.1]; exact hR
  have hn12 := hS.n.2
  have hnN : N0.1 151 0 = nI n := (hS.q hq).n.1
  have hnn : n * n ≤ 144 := Nat.mul_le_mul hn12 hn12
  have hnnn : n * n * n ≤ 1728 := Nat.mul_le_mul hnn hn12
  refine Rn.aload_n dX12_layLies_0 rfl ?_
  refine Rn.iconstv (v := -1) dX12_layLies_1 ic_m1 ?_
  refine Rn.putI dX12_layLies_2 fX12_487 rfl rfl rfl (rc149 hRN0) ?_
  refine Rn.aload_n dX12_layLies_5 rfl ?_
  refine Rn.getR dX12_layLies_6 fX12_15 rfl (rc149 hRN0) (show N0.2.2 149 3 = some 151 from (rpt3 hRN0)) ?_
  refine Rn.iconstv (v := 0) dX12_layLies_9 ic_0 ?_
  refine Rn.iald dX12_layLies_10 (rc151 hRN0) (by unfold vp_in; decide) ?_
  refine Rn.topI (y := N0.1 151 0) (rfl) ?_
  refine Rn.topI (y := nI n) (hnN) ?_
  refine Rn.istore (lv' := [some (.ref 149), some (.int (nI N)), some (.int 1), some (.int y), some (.int (nI n)), none, none, none, none, none, none]) dX12_layLies_11 (by decide) rfl ?_
  refine Rn.iload_n dX12_layLies_13 rfl ?_
  refine Rn.if_ne dX12_layLies_14 (fun hl1 => ?_) (fun hl1 => ?_)
  · skip
    refine Rn.iload_n dX12_layLies_21 rfl ?_
    refine Rn.iconstv (v := 1) dX12_layLies_22 ic_1 ?_
    refine Rn.icmp_ne dX12_layLies_23 (fun hl2 => ?_) (fun hl2 => ?_)
    · skip
      first | exact absurd hl2 (by decide) | exact absurd (by decide) hl2
    · skip
      refine Rn.iload dX12_layLies_26 rfl ?_
      refine Rn.goto dX12_layLies_28 ?_
      refine Rn.istore (lv' := [some (.ref 149), some (.int (nI N)), some (.int 1), some (.int y), some (.int (nI n)), some (.int (nI n)), none, none, none, none, none]) dX12_layLies_52 (by decide) rfl ?_
      refine Rn.iconstv (v := 0) dX12_layLies_54 ic_0 ?_
      refine Rn.istore (lv' := [some (.ref 149), some (.int (nI N)), some (.int 1), some (.int y), some (.int (nI n)), some (.int (nI n)), some (.int 0), none, none, none, none]) dX12_layLies_55 (by decide) rfl ?_
      have loop : ∀ (f m : Nat) (KK : Mm), m + f = n → qR M KK → md KK (-1) 0 → lsQ KK 1 (lhF (fun a => hgS (TR n nw p h0 0 (cak a) W (fun m => valL m (lw 0).1 (lw 0).2) (fun m => valL m (lw 1).1 (lw 1).2)) s n N) ((List.range m).filterMap (dcd n 1)) (100001, none)) → Rn G l mX12_layLies (9, 0, 0, false) 57 [some (.ref 149), some (.int (nI N)), some (.int 1), some (.int y), some (.int (nI n)), some (.int (nI n)), some (.int (nI m)), none, none, none, none] [] ly KK Q := by
        intro f
        induction f with
        | zero =>
          intro m KK hmf hq hm hl
          have hRKK : RW ly KK.2.2 := by rw [hq.1]; exact hR
          refine Rn.iload dX12_layLies_57 rfl ?_
          refine Rn.iload dX12_layLies_59 rfl ?_
          refine Rn.icmp_ge dX12_layLies_61 (fun hlp => ?_) (fun hlp => ?_)
          · skip
            have em : m = n := by omega
            rw [em] at hl
            exact Rn.vret dX12_layLies_262 rfl (hQ KK hq hm hl)
          · skip
            exact absurd (nI_le (a := n) (b := m) (by omega) (by omega)) hlp
        | succ f ih =>
          intro m KK hmf hq hm hl
          have hRKK : RW ly KK.2.2 := by rw [hq.1]; exact hR
          refine Rn.iload dX12_layLies_57 rfl ?_
          refine Rn.iload dX12_layLies_59 rfl ?_
          refine Rn.icmp_ge dX12_layLies_61 (fun hlp => ?_) (fun hlp => ?_)
          · skip
            exact absurd hlp (nI_ge (a := m) (b := n) (by omega) (by omega))
          · skip
            have hmA : m < n := by omega
            have hm31 : m < 2 ^ 31 := by omega
            have hnz : ¬ nI n = 0 := nI_ne0 (by omega) (by omega)
            have hmod : m % n < n := Nat.mod_lt m (by omega)
            refine Rn.iload_n dX12_layLies_64 rfl ?_
            refine Rn.iconstv (v := 3) dX12_layLies_65 ic_3 ?_
            refine Rn.icmp_ne dX12_layLies_66 (fun hl3 => ?_) (fun hl3 => ?_)
            · skip
              refine Rn.iload_n dX12_layLies_80 rfl ?_
              refine Rn.iconstv (v := 2) dX12_layLies_81 ic_2 ?_
              refine Rn.icmp_ne dX12_layLies_82 (fun hl4 => ?_) (fun hl4 => ?_)
              · skip
                refine Rn.iload dX12_layLies_93 rfl ?_
                refine Rn.istore (lv' := [some (.ref 149), some (.int (nI N)), some (.int 1), some (.int y), some (.int (nI n)), some (.int (nI n)), some (.int (nI m)), some (.int (nI m)), none, none, none]) dX12_layLies_95 (by decide) rfl ?_
                refine Rn.iload_n dX12_layLies_97 rfl ?_
                refine Rn.iconstv (v := 3) dX12_layLies_98 ic_3 ?_
                refine Rn.icmp_ne dX12_layLies_99 (fun hl5 => ?_) (fun hl5 => ?_)
                · skip
                  refine Rn.iload dX12_layLies_113 rfl ?_
                  refine Rn.iload dX12_layLies_115 rfl ?_
                  refine Rn.irem dX12_layLies_117 hnz ?_
                  refine Rn.topI (y := nI (m % n)) (i32rem hm31 (by omega)) ?_
                  refine Rn.istore (lv' := [some (.ref 149), some (.int (nI N)), some (.int 1), some (.int y), some (.int (nI n)), some (.int (nI n)), some (.int (nI m)), some (.int (nI m)), some (.int (nI (m % n))), none, none]) dX12_layLies_118 (by decide) rfl ?_
                  refine Rn.iload dX12_layLies_120 rfl ?_
                  refine Rn.iload dX12_layLies_122 rfl ?_
                  refine Rn.irem dX12_layLies_124 hnz ?_
                  refine Rn.topI (y := nI (m % n)) (i32rem hm31 (by omega)) ?_
                  refine Rn.istore (lv' := [some (.ref 149), some (.int (nI N)), some (.int 1), some (.int y), some (.int (nI n)), some (.int (nI n)), some (.int (nI m)), some (.int (nI m)), some (.int (nI (m % n))), some (.int (nI (m % n))), none]) dX12_layLies_125 (by decide) rfl ?_
                  refine Rn.iload_n dX12_layLies_127 rfl ?_
                  refine Rn.iconstv (v := 2) dX12_layLies_128 ic_2 ?_
                  refine Rn.icmp_lt dX12_layLies_129 (fun hl6 => ?_) (fun hl6 => ?_)
                  · skip
                    refine Rn.iload_n dX12_layLies_139 rfl ?_
                    refine Rn.iconstv (v := 3) dX12_layLies_140 ic_3 ?_
                    refine Rn.icmp_ne dX12_layLies_141 (fun hl7 => ?_) (fun hl7 => ?_)
                    · skip
                      have hdc : dcd n 1 m = some (m, 0, 0) := rfl
                      have hnx : (List.range (m + 1)).filterMap (dcd n 1) = (List.range m).filterMap (dcd n 1) ++ [(m, 0, 0)] := by rw [List.range_succ, List.filterMap_append]; exact congrArg (fun q9 => List.filterMap (dcd n 1) (List.range m) ++ q9) (by show List.filterMap (dcd n 1) [m] = _; rw [List.filterMap_cons, hdc]; rfl)
                      refine Rn.aload_n dX12_layLies_154 rfl ?_
                      refine Rn.iconstv (v := 1) dX12_layLies_155 ic_1 ?_
                      refine Rn.iconstv (v := 0) dX12_layLies_156 ic_0 ?_
                      refine Rn.callV2 dX12_layLies_157 vX12_461 (rc149 hRKK) (by decide) rfl (rvNow2 (M := M) (N := KK) (x := (-1)) (kp := 0) (Q := fun v0 ly0 K => v0 = none ∧ ly0 = ly ∧ Rt M K nw t nf (-1) 0 s fc fk ∧ K.1 149 = KK.1 149 ∧ K.1 189 = KK.1 189) hS hq hm hRKK (fun K a c d => ⟨rfl, rfl, a, c, d⟩)) (by decide) ⟨(Nat.le_of_ble_eq_true rfl), (Nat.le_of_ble_eq_true rfl), (Nat.le_of_ble_eq_true rfl)⟩ (fun h => by cases h) (fun v1 ly1 N1 ⟨q1, q2, hT1, e1, d1⟩ => ?_)
                      rw [q1, q2]
                      have hRN1 : RW ly N1.2.2 := by rw [hT1.1.1]; exact hR
                      refine Rn.iload_n dX12_layLies_160 rfl ?_
                      refine Rn.iconstv (v := 1) dX12_layLies_161 ic_1 ?_
                      refine Rn.icmp_lt dX12_layLies_162 (fun hl8 => ?_) (fun hl8 => ?_)
                      · skip
                        first | exact absurd hl8 (by decide) | exact absurd (by decide) hl8
                      · skip
                        refine Rn.aload_n dX12_layLies_165 rfl ?_
                        refine Rn.iconstv (v := 1) dX12_layLies_166 ic_1 ?_
                        refine Rn.iload dX12_layLies_167 rfl ?_
                        refine Rn.iload_n dX12_layLies_169 rfl ?_
                        refine Rn.callV3 dX12_layLies_170 vX12_470 (rc149 hRN1) (by decide) rfl (rvGw (M := M) (N := N1) (x := nI (m)) (y := y) (Q := fun v0 ly0 K => v0 = none ∧ ly0 = ly ∧ Rt M K nw t (nf + 1) (-1) 0 s (fcK fc nf (m, 0, 0) 1) (fkK fk nf y 1) ∧ K.1 149 = N1.1 149 ∧ K.1 189 = N1.1 189) hT1 (by omega) hRN1 (fun K a c d => ⟨rfl, rfl, a, c, d⟩)) (by decide) ⟨(Nat.le_of_ble_eq_true rfl), (Nat.le_of_ble_eq_true rfl), (Nat.le_of_ble_eq_true rfl)⟩ (fun h => by cases h) (fun v1 ly1 N2 ⟨q1, q2, hT2, e2, d2⟩ => ?_)
                        rw [q1, q2]
                        have hRN2 : RW ly N2.2.2 := by rw [hT2.1.1]; exact hR
                        refine Rn.iload_n dX12_layLies_173 rfl ?_
                        refine Rn.iconstv (v := 2) dX12_layLies_174 ic_2 ?_
                        refine Rn.icmp_lt dX12_layLies_175 (fun hl9 => ?_) (fun hl9 => ?_)
                        · skip
                          refine Rn.iload_n dX12_layLies_186 rfl ?_
                          refine Rn.iconstv (v := 3) dX12_layLies_187 ic_3 ?_
                          refine Rn.icmp_lt dX12_layLies_188 (fun hl10 => ?_) (fun hl10 => ?_)
                          · skip
                            refine Rn.aload_n dX12_layLies_199 rfl ?_
                            refine Rn.iload_n dX12_layLies_200 rfl ?_
                            refine Rn.callV1 dX12_layLies_201 vX12_477 (rc149 hRN2) (by decide) rfl (rvHigh2 (M := M) (N := N2) (ca := cak (m, 0, 0)) (s2 := s) (K0 := N) (kp := 0) (Q := fun v0 ly0 K => v0 = some (.int (hgS (TR n nw p h0 0 (cak (m, 0, 0)) W (fun m => valL m (lw 0).1 (lw 0).2) (fun m => valL m (lw 1).1 (lw 1).2)) s n N)) ∧ ly0 = ly ∧ qR M K ∧ md K (-1) 0 ∧ K.1 149 66 = N2.1 149 66 ∧ K.1 189 = N2.1 189) hS hT2 (by decide) (by decide) (by decide) (by decide) (hcak (m, 0, 0) (by show m < n; omega) (by show 0 < n; omega) (by show 0 < n; omega)) hS.2.2.2.2 hN hRN2 (fun K a c d e => ⟨rfl, rfl, a, c, d, e⟩)) (by decide) ⟨(Nat.le_of_ble_eq_true rfl), (Nat.le_of_ble_eq_true rfl), (Nat.le_of_ble_eq_true rfl)⟩ (fun h => by cases h) (fun v1 ly1 N8 ⟨q1, q2, hq8, hm8, e8, d8⟩ => ?_)
                            rw [q1, q2]
                            have hRN8 : RW ly N8.2.2 := by rw [hq8.1]; exact hR
                            have e66 : N8.1 149 66 = KK.1 149 66 := (e8).trans ((congrFun e2 66).trans (congrFun e1 66))
                            have e189 : N8.1 189 = KK.1 189 := (d8).trans ((d2).trans (d1))
                            obtain ⟨hi, hhi⟩ : ∃ hi : Int32, hi = (fun a => hgS (TR n nw p h0 0 (cak a) W (fun m => valL m (lw 0).1 (lw 0).2) (fun m => valL m (lw 1).1 (lw 1).2)) s n N) (m, 0, 0) := ⟨_, rfl⟩
                            refine Rn.topI (y := hi) hhi.symm ?_
                            have hi5 : hi ≤ 100000 := by rw [hhi]; exact hgS_le (fun s => gr_pas) N
                            have hl8 : lsQ N8 1 (lhF (fun a => hgS (TR n nw p h0 0 (cak a) W (fun m => valL m (lw 0).1 (lw 0).2) (fun m => valL m (lw 1).1 (lw 1).2)) s n N) ((List.range m).filterMap (dcd n 1)) (100001, none)) := hl.eq e66 e189
                            have hq2 : lhF (fun a => hgS (TR n nw p h0 0 (cak a) W (fun m => valL m (lw 0).1 (lw 0).2) (fun m => valL m (lw 1).1 (lw 1).2)) s n N) ((List.range (m + 1)).filterMap (dcd n 1)) (100001, none) = if hi < (lhF (fun a => hgS (TR n nw p h0 0 (cak a) W (fun m => valL m (lw 0).1 (lw 0).2) (fun m => valL m (lw 1).1 (lw 1).2)) s n N) ((List.range m).filterMap (dcd n 1)) (100001, none)).1 then (hi, some (m, 0, 0)) else (lhF (fun a => hgS (TR n nw p h0 0 (cak a) W (fun m => valL m (lw 0).1 (lw 0).2) (fun m => valL m (lw 1).1 (lw 1).2)) s n N) ((List.range m).filterMap (dcd n 1)) (100001, none)) := by rw [hnx, lhF_app, hhi]
                            have hge0 : (0 : Int32) ≤ (lhF (fun a => hgS (TR n nw p h0 0 (cak a) W (fun m => valL m (lw 0).1 (lw 0).2) (fun m => valL m (lw 1).1 (lw 1).2)) s n N) ((List.range m).filterMap (dcd n 1)) (100001, none)).1 := lhF_ge (fun a => hgS_0 N) _ _ (by decide)
                            refine Rn.istore (lv' := [some (.ref 149), some (.int (nI N)), some (.int 1), some (.int y), some (.int (nI n)), some (.int (nI n)), some (.int (nI m)), some (.int (nI m)), some (.int (nI (m % n))), some (.int (nI (m % n))), some (.int hi)]) dX12_layLies_204 (by decide) rfl ?_
                            refine Rn.aload_n dX12_layLies_206 rfl ?_
                            refine Rn.getI dX12_layLies_207 fX12_487 rfl (rc149 hRN8) ?_
                            refine Rn.iconstv (v := -1) dX12_layLies_210 ic_m1 ?_
                            refine Rn.icmp_eq dX12_layLies_211 (fun hb => ?_) (fun hb => ?_)
                            · skip
                              refine Rn.aload_n dX12_layLies_226 rfl ?_
                              refine Rn.iload dX12_layLies_227 rfl ?_
                              refine Rn.putI dX12_layLies_229 fX12_487 rfl rfl rfl (rc149 hRN8) ?_
                              refine Rn.aload_n dX12_layLies_232 rfl ?_
                              refine Rn.getR dX12_layLies_233 fX12_141 rfl (rc149 hRN8) (show N8.2.2 149 67 = some 189 from (rpt67 hRN8)) ?_
                              refine Rn.iconstv (v := 0) dX12_layLies_236 ic_0 ?_
                              refine Rn.iload dX12_layLies_237 rfl ?_
                              refine Rn.iast dX12_layLies_239 (rc189 hRN8) (by unfold vp_in; decide) ?_
                              refine Rn.aload_n dX12_layLies_240 rfl ?_
                              refine Rn.getR dX12_layLies_241 fX12_141 rfl (rc149 hRN8) (show N8.2.2 149 67 = some 189 from (rpt67 hRN8)) ?_
                              refine Rn.iconstv (v := 1) dX12_layLies_244 ic_1 ?_
                              refine Rn.iload dX12_layLies_245 rfl ?_
                              refine Rn.iast dX12_layLies_247 (rc189 hRN8) (by unfold vp_in; decide) ?_
                              refine Rn.meq (M2 := sI (sI N8 149 (upd (N8.1 149) 66 hi)) 189 (upd (upd (N8.1 189) 0 (nI m)) 1 (nI (m % n)))) (sI_sI _ _ _ _) ?_
                              refine Rn.aload_n dX12_layLies_248 rfl ?_
                              refine Rn.getR dX12_layLies_249 fX12_141 rfl (rc149 hRN8) (show N8.2.2 149 67 = some 189 from (rpt67 hRN8)) ?_
                              refine Rn.iconstv (v := 2) dX12_layLies_252 ic_2 ?_
                              refine Rn.iload dX12_layLies_253 rfl ?_
                              refine Rn.iast dX12_layLies_255 (rc189 hRN8) (by unfold vp_in; decide) ?_
                              refine Rn.meq (M2 := sI (sI N8 149 (upd (N8.1 149) 66 hi)) 189 (upd (upd (upd (N8.1 189) 0 (nI m)) 1 (nI (m % n))) 2 (nI (m % n)))) (sI_sI _ _ _ _) ?_
                              refine Rn.iincN (lv' := [some (.ref 149), some (.int (nI N)), some (.int 1), some (.int y), some (.int (nI n)), some (.int (nI n)), some (.int (nI (m + 1))), some (.int (nI m)), some (.int (nI (m % n))), some (.int (nI (m % n))), some (.int hi)]) dX12_layLies_256 rfl (by decide) rfl ?_
                              refine Rn.goto dX12_layLies_259 ?_
                              refine Rn.forget (lv' := [some (.ref 149), some (.int (nI N)), some (.int 1), some (.int y), some (.int (nI n)), some (.int (nI n)), some (.int (nI (m + 1))), none, none, none, none]) (⟨rfl, ⟨rfl, ⟨rfl, ⟨rfl, ⟨rfl, ⟨rfl, ⟨rfl, trivial⟩⟩⟩⟩⟩⟩⟩) ?_
                              have hyes : hi < (lhF (fun a => hgS (TR n nw p h0 0 (cak a) W (fun m => valL m (lw 0).1 (lw 0).2) (fun m => valL m (lw 1).1 (lw 1).2)) s n N) ((List.range m).filterMap (dcd n 1)) (100001, none)).1 := hl8.elim (fun h => by rw [lhF_nn _ _ h.1]; exact Int32.lt_of_le_of_lt hi5 (by decide)) (fun ⟨b, h1, h2, _⟩ => absurd (show (0 : Int32) ≤ -1 by rw [← hb, h2]; exact hge0) (by decide))
                              refine ih (m + 1) _ (by omega) ?_ ?_ ?_
                              · exact (hq8.fj (k := 66) (x := hi) (by decide)).tr ⟨rfl, fun a a1 a2 a3 a4 => sI_ne (by omega), fun j a1 a2 a3 a4 a5 => rfl, fun a ha j a1 a2 => congrFun (sI_ne (by omega)) j, fun a ha j hj => congrFun (sI_ne (by omega)) j, fun a ha j hj => congrFun (sI_ne (by omega)) j⟩
                              · exact ⟨(show upd (N8.1 149) 66 hi 55 = _ from pk_un (by decide)).trans hm8.1, (show upd (N8.1 149) 66 hi 56 = _ from pk_un (by decide)).trans hm8.2.1, (show upd (N8.1 149) 66 hi 57 = _ from pk_un (by decide)).trans hm8.2.2.1, (show upd (N8.1 149) 66 hi 62 = _ from pk_un (by decide)).trans hm8.2.2.2⟩
                              · rw [hq2, if_pos hyes]
                                refine Or.inr ⟨(m, 0, 0), rfl, rfl, fun j hj => ?_⟩
                                rcases (show j = 0 by omega) with rfl
                                rfl
                            · skip
                              refine Rn.iload dX12_layLies_214 rfl ?_
                              refine Rn.aload_n dX12_layLies_216 rfl ?_
                              refine Rn.getI dX12_layLies_217 fX12_487 rfl (rc149 hRN8) ?_
                              refine Rn.icmp_lt dX12_layLies_220 (fun hgt => ?_) (fun hgt => ?_)
                              · skip
                                have e66b : N8.1 149 66 = (lhF (fun a => hgS (TR n nw p h0 0 (cak a) W (fun m => valL m (lw 0).1 (lw 0).2) (fun m => valL m (lw 1).1 (lw 1).2)) s n N) ((List.range m).filterMap (dcd n 1)) (100001, none)).1 := (hl8.elim (fun h => absurd h.2 hb) (fun ⟨b, h1, h2, _⟩ => h2))
                                refine Rn.aload_n dX12_layLies_226 rfl ?_
                                refine Rn.iload dX12_layLies_227 rfl ?_
                                refine Rn.putI dX12_layLies_229 fX12_487 rfl rfl rfl (rc149 hRN8) ?_
                                refine Rn.aload_n dX12_layLies_232 rfl ?_
                                refine Rn.getR dX12_layLies_233 fX12_141 rfl (rc149 hRN8) (show N8.2.2 149 67 = some 189 from (rpt67 hRN8)) ?_
                                refine Rn.iconstv (v := 0) dX12_layLies_236 ic_0 ?_
                                refine Rn.iload dX12_layLies_237 rfl ?_
                                refine Rn.iast dX12_layLies_239 (rc189 hRN8) (by unfold vp_in; decide) ?_
                                refine Rn.aload_n dX12_layLies_240 rfl ?_
                                refine Rn.getR dX12_layLies_241 fX12_141 rfl (rc149 hRN8) (show N8.2.2 149 67 = some 189 from (rpt67 hRN8)) ?_
                                refine Rn.iconstv (v := 1) dX12_layLies_244 ic_1 ?_
                                refine Rn.iload dX12_layLies_245 rfl ?_
                                refine Rn.iast dX12_layLies_247 (rc189 hRN8) (by unfold vp_in; decide) ?_
                                refine Rn.meq (M2 := sI (sI N8 149 (upd (N8.1 149) 66 hi)) 189 (upd (upd (N8.1 189) 0 (nI m)) 1 (nI (m % n)))) (sI_sI _ _ _ _) ?_
                                refine Rn.aload_n dX12_layLies_248 rfl ?_
                                refine Rn.getR dX12_layLies_249 fX12_141 rfl (rc149 hRN8) (show N8.2.2 149 67 = some 189 from (rpt67 hRN8)) ?_
                                refine Rn.iconstv (v := 2) dX12_layLies_252 ic_2 ?_
                                refine Rn.iload dX12_layLies_253 rfl ?_
                                refine Rn.iast dX12_layLies_255 (rc189 hRN8) (by unfold vp_in; decide) ?_
                                refine Rn.meq (M2 := sI (sI N8 149 (upd (N8.1 149) 66 hi)) 189 (upd (upd (upd (N8.1 189) 0 (nI m)) 1 (nI (m % n))) 2 (nI (m % n)))) (sI_sI _ _ _ _) ?_
                                refine Rn.iincN (lv' := [some (.ref 149), some (.int (nI N)), some (.int 1), some (.int y), some (.int (nI n)), some (.int (nI n)), some (.int (nI (m + 1))), some (.int (nI m)), some (.int (nI (m % n))), some (.int (nI (m % n))), some (.int hi)]) dX12_layLies_256 rfl (by decide) rfl ?_
                                refine Rn.goto dX12_layLies_259 ?_
                                refine Rn.forget (lv' := [some (.ref 149), some (.int (nI N)), some (.int 1), some (.int y), some (.int (nI n)), some (.int (nI n)), some (.int (nI (m + 1))), none, none, none, none]) (⟨rfl, ⟨rfl, ⟨rfl, ⟨rfl, ⟨rfl, ⟨rfl, ⟨rfl, trivial⟩⟩⟩⟩⟩⟩⟩) ?_
                                have hyes : hi < (lhF (fun a => hgS (TR n nw p h0 0 (cak a) W (fun m => valL m (lw 0).1 (lw 0).2) (fun m => valL m (lw 1).1 (lw 1).2)) s n N) ((List.range m).filterMap (dcd n 1)) (100001, none)).1 := by rw [← e66b]; exact hgt
                                refine ih (m + 1) _ (by omega) ?_ ?_ ?_
                                · exact (hq8.fj (k := 66) (x := hi) (by decide)).tr ⟨rfl, fun a a1 a2 a3 a4 => sI_ne (by omega), fun j a1 a2 a3 a4 a5 => rfl, fun a ha j a1 a2 => congrFun (sI_ne (by omega)) j, fun a ha j hj => congrFun (sI_ne (by omega)) j, fun a ha j hj => congrFun (sI_ne (by omega)) j⟩
                                · exact ⟨(show upd (N8.1 149) 66 hi 55 = _ from pk_un (by decide)).trans hm8.1, (show upd (N8.1 149) 66 hi 56 = _ from pk_un (by decide)).trans hm8.2.1, (show upd (N8.1 149) 66 hi 57 = _ from pk_un (by decide)).trans hm8.2.2.1, (show upd (N8.1 149) 66 hi 62 = _ from pk_un (by decide)).trans hm8.2.2.2⟩
                                · rw [hq2, if_pos hyes]
                                  refine Or.inr ⟨(m, 0, 0), rfl, rfl, fun j hj => ?_⟩
                                  rcases (show j = 0 by omega) with rfl
                                  rfl
                              · skip
                                have e66b : N8.1 149 66 = (lhF (fun a => hgS (TR n nw p h0 0 (cak a) W (fun m => valL m (lw 0).1 (lw 0).2) (fun m => valL m (lw 1).1 (lw 1).2)) s n N) ((List.range m).filterMap (dcd n 1)) (100001, none)).1 := (hl8.elim (fun h => absurd h.2 hb) (fun ⟨b, h1, h2, _⟩ => h2))
                                refine Rn.goto dX12_layLies_223 ?_
                                refine Rn.iincN (lv' := [some (.ref 149), some (.int (nI N)), some (.int 1), some (.int y), some (.int (nI n)), some (.int (nI n)), some (.int (nI (m + 1))), some (.int (nI m)), some (.int (nI (m % n))), some (.int (nI (m % n))), some (.int hi)]) dX12_layLies_256 rfl (by decide) rfl ?_
                                refine Rn.goto dX12_layLies_259 ?_
                                refine Rn.forget (lv' := [some (.ref 149), some (.int (nI N)), some (.int 1), some (.int y), some (.int (nI n)), some (.int (nI n)), some (.int (nI (m + 1))), none, none, none, none]) (⟨rfl, ⟨rfl, ⟨rfl, ⟨rfl, ⟨rfl, ⟨rfl, ⟨rfl, trivial⟩⟩⟩⟩⟩⟩⟩) ?_
                                exact ih (m + 1) N8 (by omega) hq8 hm8 (by rw [hq2, if_neg (by rw [← e66b]; exact hgt)]; exact hl8)
                          · skip
                            first | exact absurd hl10 (by decide) | exact absurd (by decide) hl10
                        · skip
                          first | exact absurd hl9 (by decide) | exact absurd (by decide) hl9
                    · skip
                      first | exact absurd hl7 (by decide) | exact absurd (by decide) hl7
                  · skip
                    first | exact absurd hl6 (by decide) | exact absurd (by decide) hl6
                · skip
                  first | exact absurd hl5 (by decide) | exact absurd (by decide) hl5
              · skip
                first | exact absurd hl4 (by decide) | exact absurd (by decide) hl4
            · skip
              first | exact absurd hl3 (by decide) | exact absurd (by decide) hl3
      exact loop (n) 0 _ (by omega) (hq.fj (by decide)) ⟨(show upd (N0.1 149) 66 (-1) 55 = _ from pk_un (by decide)).trans hm.1, (show upd (N0.1 149) 66 (-1) 56 = _ from pk_un (by decide)).trans hm.2.1, (show upd (N0.1 149) 66 (-1) 57 = _ from pk_un (by decide)).trans hm.2.2.1, (show upd (N0.1 149) 66 (-1) 62 = _ from pk_un (by decide)).trans hm.2.2.2⟩ (Or.inl ⟨rfl, rfl⟩)
  · skip
    first | exact absurd hl1 (by decide) | exact absurd (by decide) hl1
theorem tX12_layLies2 {G : Gx} {l : Launch} {ly : Ly} {M N0 : Mm} {n nw t nf : Nat} {p : P4} {h0 c0 : Int32} {W : Wx} {lw : Nat → (Nat → Int32) × Nat} {s : Sc} {fc fk : Nat → Int32} {y : Int32} {N : Nat} {cak : Nat × Nat × Nat → Nat → Int32} (hN : N ≤ 1000) (hnf : nf + 2 ≤ 8) (hn1 : 1 ≤ n) (hS : RS M n nw t nf p h0 c0 W lw s fc fk) (hcak : ∀ a : Nat × Nat × Nat, a.1 < n → a.2.1 < n → a.2.2 < n → cas n (nf + 2) c0 (fcK fc nf a 2) (fkK fk nf y 2) (cak a)) (hq : qR M N0) (hm : md N0 (-1) 0) (hR : RW ly M.2.2) {Q : Qt} (hQ : ∀ K : Mm, qR M K → md K (-1) 0 → lsQ K 2 (lhF (fun a => hgS (TR n nw p h0 0 (cak a) W (fun m => valL m (lw 0).1 (lw 0).2) (fun m => valL m (lw 1).1 (lw 1).2)) s n N) ((List.range (alC n 2)).filterMap (dcd n 2)) (100001, none)) → Q none ly K) : Mt G l mX12_layLies (9, 0, 0, false) [.ref 149, .int (nI N), .int 2, .int y] ly N0 Q := by
  refine Mt.of (lv := [some (.ref 149), some (.int (nI N)), some (.int 2), some (.int y), none, none, none, none, none, none, none]) rfl ?_
  have hRN0 : RW ly N0.2.2 := by rw [hq.1]; exact hR
  have hn12 := hS.n.2
  have hnN : N0.1 151 0 = nI n := (hS.q hq).n.1
  have hnn : n * n ≤ 144 := Nat.mul_le_mul hn12 hn12
  have hnnn : n * n * n ≤ 1728 := Nat.mul_le_mul hnn hn12
  refine Rn.aload_n dX12_layLies_0 rfl ?_
  refine Rn.iconstv (v := -1) dX12_layLies_1 ic_m1 ?_
  refine Rn.putI dX12_layLies_2 fX12_487 rfl rfl rfl (rc149 hRN0) ?_
  refine Rn.aload_n dX12_layLies_5 rfl ?_
  refine Rn.getR dX12_layLies_6 fX12_15 rfl (rc149 hRN0) (show N0.2.2 149 3 = some 151 from (rpt3 hRN0)) ?_
  refine Rn.iconstv (v := 0) dX12_layLies_9 ic_0 ?_
  refine Rn.iald dX12_layLies_10 (rc151 hRN0) (by unfold vp_in; decide) ?_
  refine Rn.topI (y := N0.1 151 0) (rfl) ?_
  refine Rn.topI (y := nI n) (hnN) ?_
  refine Rn.istore (lv' := [some (.ref 149), some (.int (nI N)), some (.int 2), some (.int y), some (.int (nI n)), none, none, none, none, none, none]) dX12_layLies_11 (by decide) rfl ?_
  refine Rn.iload_n dX12_layLies_13 rfl ?_
  refine Rn.if_ne dX12_layLies_14 (fun hl1 => ?_) (fun hl1 => ?_)
  · skip
    refine Rn.iload_n dX12_layLies_21 rfl ?_
    refine Rn.iconstv (v := 1) dX12_layLies_22 ic_1 ?_
    refine Rn.icmp_ne dX12_layLies_23 (fun hl2 => ?_) (fun hl2 => ?_)
    · skip
      refine Rn.iload_n dX12_layLies_31 rfl ?_
      refine Rn.iconstv (v := 2) dX12_layLies_32 ic_2 ?_
      refine Rn.icmp_ne dX12_layLies_33 (fun hl3 => ?_) (fun hl3 => ?_)
      · skip
        first | exact absurd hl3 (by decide) | exact absurd (by decide) hl3
      · skip
        refine Rn.iload dX12_layLies_36 rfl ?_
        refine Rn.iload dX12_layLies_38 rfl ?_
        refine Rn.imul dX12_layLies_40 ?_
        refine Rn.topI (y := nI (n * n)) (nI_mul n n) ?_
        refine Rn.goto dX12_layLies_41 ?_
        refine Rn.istore (lv' := [some (.ref 149), some (.int (nI N)), some (.int 2), some (.int y), some (.int (nI n)), some (.int (nI (n * n))), none, none, none, none, none]) dX12_layLies_52 (by decide) rfl ?_
        refine Rn.iconstv (v := 0) dX12_layLies_54 ic_0 ?_
        refine Rn.istore (lv' := [some (.ref 149), some (.int (nI N)), some (.int 2), some (.int y), some (.int (nI n)), some (.int (nI (n * n))), some (.int 0), none, none, none, none]) dX12_layLies_55 (by decide) rfl ?_
        have loop : ∀ (f m : Nat) (KK : Mm), m + f = n * n → qR M KK → md KK (-1) 0 → lsQ KK 2 (lhF (fun a => hgS (TR n nw p h0 0 (cak a) W (fun m => valL m (lw 0).1 (lw 0).2) (fun m => valL m (lw 1).1 (lw 1).2)) s n N) ((List.range m).filterMap (dcd n 2)) (100001, none)) → Rn G l mX12_layLies (9, 0, 0, false) 57 [some (.ref 149), some (.int (nI N)), some (.int 2), some (.int y), some (.int (nI n)), some (.int (nI (n * n))), some (.int (nI m)), none, none, none, none] [] ly KK Q := by
          intro f
          induction f with
          | zero =>
            intro m KK hmf hq hm hl
            have hRKK : RW ly KK.2.2 := by rw [hq.1]; exact hR
            refine Rn.iload dX12_layLies_57 rfl ?_
            refine Rn.iload dX12_layLies_59 rfl ?_
            refine Rn.icmp_ge dX12_layLies_61 (fun hlp => ?_) (fun hlp => ?_)
            · skip
              have em : m = n * n := by omega
              rw [em] at hl
              exact Rn.vret dX12_layLies_262 rfl (hQ KK hq hm hl)
            · skip
              exact absurd (nI_le (a := n * n) (b := m) (by omega) (by omega)) hlp
          | succ f ih =>
            intro m KK hmf hq hm hl
            have hRKK : RW ly KK.2.2 := by rw [hq.1]; exact hR
            refine Rn.iload dX12_layLies_57 rfl ?_
            refine Rn.iload dX12_layLies_59 rfl ?_
            refine Rn.icmp_ge dX12_layLies_61 (fun hlp => ?_) (fun hlp => ?_)
            · skip
              exact absurd hlp (nI_ge (a := m) (b := n * n) (by omega) (by omega))
            · skip
              have hmA : m < n * n := by omega
              have hm31 : m < 2 ^ 31 := by omega
              have hnz : ¬ nI n = 0 := nI_ne0 (by omega) (by omega)
              have hmod : m % n < n := Nat.mod_lt m (by omega)
              have hdv : m / n < n := dv_lt (by omega)
              refine Rn.iload_n dX12_layLies_64 rfl ?_
              refine Rn.iconstv (v := 3) dX12_layLies_65 ic_3 ?_
              refine Rn.icmp_ne dX12_layLies_66 (fun hl4 => ?_) (fun hl4 => ?_)
              · skip
                refine Rn.iload_n dX12_layLies_80 rfl ?_
                refine Rn.iconstv (v := 2) dX12_layLies_81 ic_2 ?_
                refine Rn.icmp_ne dX12_layLies_82 (fun hl5 => ?_) (fun hl5 => ?_)
                · skip
                  first | exact absurd hl5 (by decide) | exact absurd (by decide) hl5
                · skip
                  refine Rn.iload dX12_layLies_85 rfl ?_
                  refine Rn.iload dX12_layLies_87 rfl ?_
                  refine Rn.idiv dX12_layLies_89 hnz ?_
                  refine Rn.topI (y := nI (m / n)) (i32div hm31 (by omega)) ?_
                  refine Rn.goto dX12_layLies_90 ?_
                  refine Rn.istore (lv' := [some (.ref 149), some (.int (nI N)), some (.int 2), some (.int y), some (.int (nI n)), some (.int (nI (n * n))), some (.int (nI m)), some (.int (nI (m / n))), none, none, none]) dX12_layLies_95 (by decide) rfl ?_
                  refine Rn.iload_n dX12_layLies_97 rfl ?_
                  refine Rn.iconstv (v := 3) dX12_layLies_98 ic_3 ?_
                  refine Rn.icmp_ne dX12_layLies_99 (fun hl6 => ?_) (fun hl6 => ?_)
                  · skip
                    refine Rn.iload dX12_layLies_113 rfl ?_
                    refine Rn.iload dX12_layLies_115 rfl ?_
                    refine Rn.irem dX12_layLies_117 hnz ?_
                    refine Rn.topI (y := nI (m % n)) (i32rem hm31 (by omega)) ?_
                    refine Rn.istore (lv' := [some (.ref 149), some (.int (nI N)), some (.int 2), some (.int y), some (.int (nI n)), some (.int (nI (n * n))), some (.int (nI m)), some (.int (nI (m / n))), some (.int (nI (m % n))), none, none]) dX12_layLies_118 (by decide) rfl ?_
                    refine Rn.iload dX12_layLies_120 rfl ?_
                    refine Rn.iload dX12_layLies_122 rfl ?_
                    refine Rn.irem dX12_layLies_124 hnz ?_
                    refine Rn.topI (y := nI (m % n)) (i32rem hm31 (by omega)) ?_
                    refine Rn.istore (lv' := [some (.ref 149), some (.int (nI N)), some (.int 2), some (.int y), some (.int (nI n)), some (.int (nI (n * n))), some (.int (nI m)), some (.int (nI (m / n))), some (.int (nI (m % n))), some (.int (nI (m % n))), none]) dX12_layLies_125 (by decide) rfl ?_
                    refine Rn.iload_n dX12_layLies_127 rfl ?_
                    refine Rn.iconstv (v := 2) dX12_layLies_128 ic_2 ?_
                    refine Rn.icmp_lt dX12_layLies_129 (fun hl7 => ?_) (fun hl7 => ?_)
                    · skip
                      first | exact absurd hl7 (by decide) | exact absurd (by decide) hl7
                    · skip
                      refine Rn.iload dX12_layLies_132 rfl ?_
                      refine Rn.iload dX12_layLies_134 rfl ?_
                      refine Rn.icmp_lt dX12_layLies_136 (fun hba => ?_) (fun hba => ?_)
                      · skip
                        have hlt := (nI_ltI (by omega) (by omega)).mp hba
                        refine Rn.iincN (lv' := [some (.ref 149), some (.int (nI N)), some (.int 2), some (.int y), some (.int (nI n)), some (.int (nI (n * n))), some (.int (nI (m + 1))), some (.int (nI (m / n))), some (.int (nI (m % n))), some (.int (nI (m % n))), none]) dX12_layLies_256 rfl (by decide) rfl ?_
                        refine Rn.goto dX12_layLies_259 ?_
                        refine Rn.forget (lv' := [some (.ref 149), some (.int (nI N)), some (.int 2), some (.int y), some (.int (nI n)), some (.int (nI (n * n))), some (.int (nI (m + 1))), none, none, none, none]) (⟨rfl, ⟨rfl, ⟨rfl, ⟨rfl, ⟨rfl, ⟨rfl, ⟨rfl, trivial⟩⟩⟩⟩⟩⟩⟩) ?_
                        exact ih (m + 1) KK (by omega) hq hm (by rw [List.range_succ, List.filterMap_append, show [m].filterMap (dcd n 2) = [] from (by show List.filterMap (dcd n 2) [m] = []; rw [List.filterMap_cons, show dcd n 2 m = none from if_pos hlt]; rfl), List.append_nil]; exact hl)
                      · skip
                        have hge := fun h => hba (nI_lt h (by omega))
                        refine Rn.iload_n dX12_layLies_139 rfl ?_
                        refine Rn.iconstv (v := 3) dX12_layLies_140 ic_3 ?_
                        refine Rn.icmp_ne dX12_layLies_141 (fun hl8 => ?_) (fun hl8 => ?_)
                        · skip
                          have hdc : dcd n 2 m = some (m / n, m % n, 0) := if_neg hge
                          have hnx : (List.range (m + 1)).filterMap (dcd n 2) = (List.range m).filterMap (dcd n 2) ++ [(m / n, m % n, 0)] := by rw [List.range_succ, List.filterMap_append]; exact congrArg (fun q9 => List.filterMap (dcd n 2) (List.range m) ++ q9) (by show List.filterMap (dcd n 2) [m] = _; rw [List.filterMap_cons, hdc]; rfl)
                          refine Rn.aload_n dX12_layLies_154 rfl ?_
                          refine Rn.iconstv (v := 1) dX12_layLies_155 ic_1 ?_
                          refine Rn.iconstv (v := 0) dX12_layLies_156 ic_0 ?_
                          refine Rn.callV2 dX12_layLies_157 vX12_461 (rc149 hRKK) (by decide) rfl (rvNow2 (M := M) (N := KK) (x := (-1)) (kp := 0) (Q := fun v0 ly0 K => v0 = none ∧ ly0 = ly ∧ Rt M K nw t nf (-1) 0 s fc fk ∧ K.1 149 = KK.1 149 ∧ K.1 189 = KK.1 189) hS hq hm hRKK (fun K a c d => ⟨rfl, rfl, a, c, d⟩)) (by decide) ⟨(Nat.le_of_ble_eq_true rfl), (Nat.le_of_ble_eq_true rfl), (Nat.le_of_ble_eq_true rfl)⟩ (fun h => by cases h) (fun v1 ly1 N1 ⟨q1, q2, hT1, e1, d1⟩ => ?_)
                          rw [q1, q2]
                          have hRN1 : RW ly N1.2.2 := by rw [hT1.1.1]; exact hR
                          refine Rn.iload_n dX12_layLies_160 rfl ?_
                          refine Rn.iconstv (v := 1) dX12_layLies_161 ic_1 ?_
                          refine Rn.icmp_lt dX12_layLies_162 (fun hl9 => ?_) (fun hl9 => ?_)
                          · skip
                            first | exact absurd hl9 (by decide) | exact absurd (by decide) hl9
                          · skip
                            refine Rn.aload_n dX12_layLies_165 rfl ?_
                            refine Rn.iconstv (v := 1) dX12_layLies_166 ic_1 ?_
                            refine Rn.iload dX12_layLies_167 rfl ?_
                            refine Rn.iload_n dX12_layLies_169 rfl ?_
                            refine Rn.callV3 dX12_layLies_170 vX12_470 (rc149 hRN1) (by decide) rfl (rvGw (M := M) (N := N1) (x := nI (m / n)) (y := y) (Q := fun v0 ly0 K => v0 = none ∧ ly0 = ly ∧ Rt M K nw t (nf + 1) (-1) 0 s (fcK fc nf (m / n, m % n, 0) 1) (fkK fk nf y 1) ∧ K.1 149 = N1.1 149 ∧ K.1 189 = N1.1 189) hT1 (by omega) hRN1 (fun K a c d => ⟨rfl, rfl, a, c, d⟩)) (by decide) ⟨(Nat.le_of_ble_eq_true rfl), (Nat.le_of_ble_eq_true rfl), (Nat.le_of_ble_eq_true rfl)⟩ (fun h => by cases h) (fun v1 ly1 N2 ⟨q1, q2, hT2, e2, d2⟩ => ?_)
                            rw [q1, q2]
                            have hRN2 : RW ly N2.2.2 := by rw [hT2.1.1]; exact hR
                            refine Rn.iload_n dX12_layLies_173 rfl ?_
                            refine Rn.iconstv (v := 2) dX12_layLies_174 ic_2 ?_
                            refine Rn.icmp_lt dX12_layLies_175 (fun hl10 => ?_) (fun hl10 => ?_)
                            · skip
                              first | exact absurd hl10 (by decide) | exact absurd (by decide) hl10
                            · skip
                              refine Rn.aload_n dX12_layLies_178 rfl ?_
                              refine Rn.iconstv (v := 1) dX12_layLies_179 ic_1 ?_
                              refine Rn.iload dX12_layLies_180 rfl ?_
                              refine Rn.iload_n dX12_layLies_182 rfl ?_
                              refine Rn.callV3 dX12_layLies_183 vX12_470 (rc149 hRN2) (by decide) rfl (rvGw (M := M) (N := N2) (x := nI (m % n)) (y := y) (Q := fun v0 ly0 K => v0 = none ∧ ly0 = ly ∧ Rt M K nw t (nf + 2) (-1) 0 s (fcK fc nf (m / n, m % n, 0) 2) (fkK fk nf y 2) ∧ K.1 149 = N2.1 149 ∧ K.1 189 = N2.1 189) hT2 (by omega) hRN2 (fun K a c d => ⟨rfl, rfl, a, c, d⟩)) (by decide) ⟨(Nat.le_of_ble_eq_true rfl), (Nat.le_of_ble_eq_true rfl), (Nat.le_of_ble_eq_true rfl)⟩ (fun h => by cases h) (fun v1 ly1 N3 ⟨q1, q2, hT3, e3, d3⟩ => ?_)
                              rw [q1, q2]
                              have hRN3 : RW ly N3.2.2 := by rw [hT3.1.1]; exact hR
                              refine Rn.iload_n dX12_layLies_186 rfl ?_
                              refine Rn.iconstv (v := 3) dX12_layLies_187 ic_3 ?_
                              refine Rn.icmp_lt dX12_layLies_188 (fun hl11 => ?_) (fun hl11 => ?_)
                              · skip
                                refine Rn.aload_n dX12_layLies_199 rfl ?_
                                refine Rn.iload_n dX12_layLies_200 rfl ?_
                                refine Rn.callV1 dX12_layLies_201 vX12_477 (rc149 hRN3) (by decide) rfl (rvHigh2 (M := M) (N := N3) (ca := cak (m / n, m % n, 0)) (s2 := s) (K0 := N) (kp := 0) (Q := fun v0 ly0 K => v0 = some (.int (hgS (TR n nw p h0 0 (cak (m / n, m % n, 0)) W (fun m => valL m (lw 0).1 (lw 0).2) (fun m => valL m (lw 1).1 (lw 1).2)) s n N)) ∧ ly0 = ly ∧ qR M K ∧ md K (-1) 0 ∧ K.1 149 66 = N3.1 149 66 ∧ K.1 189 = N3.1 189) hS hT3 (by decide) (by decide) (by decide) (by decide) (hcak (m / n, m % n, 0) (by show m / n < n; omega) (by show m % n < n; omega) (by show 0 < n; omega)) hS.2.2.2.2 hN hRN3 (fun K a c d e => ⟨rfl, rfl, a, c, d, e⟩)) (by decide) ⟨(Nat.le_of_ble_eq_true rfl), (Nat.le_of_ble_eq_true rfl), (Nat.le_of_ble_eq_true rfl)⟩ (fun h => by cases h) (fun v1 ly1 N8 ⟨q1, q2, hq8, hm8, e8, d8⟩ => ?_)
                                rw [q1, q2]
                                have hRN8 : RW ly N8.2.2 := by rw [hq8.1]; exact hR
                                have e66 : N8.1 149 66 = KK.1 149 66 := (e8).trans ((congrFun e3 66).trans ((congrFun e2 66).trans (congrFun e1 66)))
                                have e189 : N8.1 189 = KK.1 189 := (d8).trans ((d3).trans ((d2).trans (d1)))
                                obtain ⟨hi, hhi⟩ : ∃ hi : Int32, hi = (fun a => hgS (TR n nw p h0 0 (cak a) W (fun m => valL m (lw 0).1 (lw 0).2) (fun m => valL m (lw 1).1 (lw 1).2)) s n N) (m / n, m % n, 0) := ⟨_, rfl⟩
                                refine Rn.topI (y := hi) hhi.symm ?_
                                have hi5 : hi ≤ 100000 := by rw [hhi]; exact hgS_le (fun s => gr_pas) N
                                have hl8 : lsQ N8 2 (lhF (fun a => hgS (TR n nw p h0 0 (cak a) W (fun m => valL m (lw 0).1 (lw 0).2) (fun m => valL m (lw 1).1 (lw 1).2)) s n N) ((List.range m).filterMap (dcd n 2)) (100001, none)) := hl.eq e66 e189
                                have hq2 : lhF (fun a => hgS (TR n nw p h0 0 (cak a) W (fun m => valL m (lw 0).1 (lw 0).2) (fun m => valL m (lw 1).1 (lw 1).2)) s n N) ((List.range (m + 1)).filterMap (dcd n 2)) (100001, none) = if hi < (lhF (fun a => hgS (TR n nw p h0 0 (cak a) W (fun m => valL m (lw 0).1 (lw 0).2) (fun m => valL m (lw 1).1 (lw 1).2)) s n N) ((List.range m).filterMap (dcd n 2)) (100001, none)).1 then (hi, some (m / n, m % n, 0)) else (lhF (fun a => hgS (TR n nw p h0 0 (cak a) W (fun m => valL m (lw 0).1 (lw 0).2) (fun m => valL m (lw 1).1 (lw 1).2)) s n N) ((List.range m).filterMap (dcd n 2)) (100001, none)) := by rw [hnx, lhF_app, hhi]
                                have hge0 : (0 : Int32) ≤ (lhF (fun a => hgS (TR n nw p h0 0 (cak a) W (fun m => valL m (lw 0).1 (lw 0).2) (fun m => valL m (lw 1).1 (lw 1).2)) s n N) ((List.range m).filterMap (dcd n 2)) (100001, none)).1 := lhF_ge (fun a => hgS_0 N) _ _ (by decide)
                                refine Rn.istore (lv' := [some (.ref 149), some (.int (nI N)), some (.int 2), some (.int y), some (.int (nI n)), some (.int (nI (n * n))), some (.int (nI m)), some (.int (nI (m / n))), some (.int (nI (m % n))), some (.int (nI (m % n))), some (.int hi)]) dX12_layLies_204 (by decide) rfl ?_
                                refine Rn.aload_n dX12_layLies_206 rfl ?_
                                refine Rn.getI dX12_layLies_207 fX12_487 rfl (rc149 hRN8) ?_
                                refine Rn.iconstv (v := -1) dX12_layLies_210 ic_m1 ?_
                                refine Rn.icmp_eq dX12_layLies_211 (fun hb => ?_) (fun hb => ?_)
                                · skip
                                  refine Rn.aload_n dX12_layLies_226 rfl ?_
                                  refine Rn.iload dX12_layLies_227 rfl ?_
                                  refine Rn.putI dX12_layLies_229 fX12_487 rfl rfl rfl (rc149 hRN8) ?_
                                  refine Rn.aload_n dX12_layLies_232 rfl ?_
                                  refine Rn.getR dX12_layLies_233 fX12_141 rfl (rc149 hRN8) (show N8.2.2 149 67 = some 189 from (rpt67 hRN8)) ?_
                                  refine Rn.iconstv (v := 0) dX12_layLies_236 ic_0 ?_
                                  refine Rn.iload dX12_layLies_237 rfl ?_
                                  refine Rn.iast dX12_layLies_239 (rc189 hRN8) (by unfold vp_in; decide) ?_
                                  refine Rn.aload_n dX12_layLies_240 rfl ?_
                                  refine Rn.getR dX12_layLies_241 fX12_141 rfl (rc149 hRN8) (show N8.2.2 149 67 = some 189 from (rpt67 hRN8)) ?_
                                  refine Rn.iconstv (v := 1) dX12_layLies_244 ic_1 ?_
                                  refine Rn.iload dX12_layLies_245 rfl ?_
                                  refine Rn.iast dX12_layLies_247 (rc189 hRN8) (by unfold vp_in; decide) ?_
                                  refine Rn.meq (M2 := sI (sI N8 149 (upd (N8.1 149) 66 hi)) 189 (upd (upd (N8.1 189) 0 (nI (m / n))) 1 (nI (m % n)))) (sI_sI _ _ _ _) ?_
                                  refine Rn.aload_n dX12_layLies_248 rfl ?_
                                  refine Rn.getR dX12_layLies_249 fX12_141 rfl (rc149 hRN8) (show N8.2.2 149 67 = some 189 from (rpt67 hRN8)) ?_
                                  refine Rn.iconstv (v := 2) dX12_layLies_252 ic_2 ?_
                                  refine Rn.iload dX12_layLies_253 rfl ?_
                                  refine Rn.iast dX12_layLies_255 (rc189 hRN8) (by unfold vp_in; decide) ?_
                                  refine Rn.meq (M2 := sI (sI N8 149 (upd (N8.1 149) 66 hi)) 189 (upd (upd (upd (N8.1 189) 0 (nI (m / n))) 1 (nI (m % n))) 2 (nI (m % n)))) (sI_sI _ _ _ _) ?_
                                  refine Rn.iincN (lv' := [some (.ref 149), some (.int (nI N)), some (.int 2), some (.int y), some (.int (nI n)), some (.int (nI (n * n))), some (.int (nI (m + 1))), some (.int (nI (m / n))), some (.int (nI (m % n))), some (.int (nI (m % n))), some (.int hi)]) dX12_layLies_256 rfl (by decide) rfl ?_
                                  refine Rn.goto dX12_layLies_259 ?_
                                  refine Rn.forget (lv' := [some (.ref 149), some (.int (nI N)), some (.int 2), some (.int y), some (.int (nI n)), some (.int (nI (n * n))), some (.int (nI (m + 1))), none, none, none, none]) (⟨rfl, ⟨rfl, ⟨rfl, ⟨rfl, ⟨rfl, ⟨rfl, ⟨rfl, trivial⟩⟩⟩⟩⟩⟩⟩) ?_
                                  have hyes : hi < (lhF (fun a => hgS (TR n nw p h0 0 (cak a) W (fun m => valL m (lw 0).1 (lw 0).2) (fun m => valL m (lw 1).1 (lw 1).2)) s n N) ((List.range m).filterMap (dcd n 2)) (100001, none)).1 := hl8.elim (fun h => by rw [lhF_nn _ _ h.1]; exact Int32.lt_of_le_of_lt hi5 (by decide)) (fun ⟨b, h1, h2, _⟩ => absurd (show (0 : Int32) ≤ -1 by rw [← hb, h2]; exact hge0) (by decide))
                                  refine ih (m + 1) _ (by omega) ?_ ?_ ?_
                                  · exact (hq8.fj (k := 66) (x := hi) (by decide)).tr ⟨rfl, fun a a1 a2 a3 a4 => sI_ne (by omega), fun j a1 a2 a3 a4 a5 => rfl, fun a ha j a1 a2 => congrFun (sI_ne (by omega)) j, fun a ha j hj => congrFun (sI_ne (by omega)) j, fun a ha j hj => congrFun (sI_ne (by omega)) j⟩
                                  · exact ⟨(show upd (N8.1 149) 66 hi 55 = _ from pk_un (by decide)).trans hm8.1, (show upd (N8.1 149) 66 hi 56 = _ from pk_un (by decide)).trans hm8.2.1, (show upd (N8.1 149) 66 hi 57 = _ from pk_un (by decide)).trans hm8.2.2.1, (show upd (N8.1 149) 66 hi 62 = _ from pk_un (by decide)).trans hm8.2.2.2⟩
                                  · rw [hq2, if_pos hyes]
                                    refine Or.inr ⟨(m / n, m % n, 0), rfl, rfl, fun j hj => ?_⟩
                                    rcases (show j = 0 ∨ j = 1 by omega) with rfl | rfl <;> rfl
                                · skip
                                  refine Rn.iload dX12_layLies_214 rfl ?_
                                  refine Rn.aload_n dX12_layLies_216 rfl ?_
                                  refine Rn.getI dX12_layLies_217 fX12_487 rfl (rc149 hRN8) ?_
                                  refine Rn.icmp_lt dX12_layLies_220 (fun hgt => ?_) (fun hgt => ?_)
                                  · skip
                                    have e66b : N8.1 149 66 = (lhF (fun a => hgS (TR n nw p h0 0 (cak a) W (fun m => valL m (lw 0).1 (lw 0).2) (fun m => valL m (lw 1).1 (lw 1).2)) s n N) ((List.range m).filterMap (dcd n 2)) (100001, none)).1 := (hl8.elim (fun h => absurd h.2 hb) (fun ⟨b, h1, h2, _⟩ => h2))
                                    refine Rn.aload_n dX12_layLies_226 rfl ?_
                                    refine Rn.iload dX12_layLies_227 rfl ?_
                                    refine Rn.putI dX12_layLies_229 fX12_487 rfl rfl rfl (rc149 hRN8) ?_
                                    refine Rn.aload_n dX12_layLies_232 rfl ?_
                                    refine Rn.getR dX12_layLies_233 fX12_141 rfl (rc149 hRN8) (show N8.2.2 149 67 = some 189 from (rpt67 hRN8)) ?_
                                    refine Rn.iconstv (v := 0) dX12_layLies_236 ic_0 ?_
                                    refine Rn.iload dX12_layLies_237 rfl ?_
                                    refine Rn.iast dX12_layLies_239 (rc189 hRN8) (by unfold vp_in; decide) ?_
                                    refine Rn.aload_n dX12_layLies_240 rfl ?_
                                    refine Rn.getR dX12_layLies_241 fX12_141 rfl (rc149 hRN8) (show N8.2.2 149 67 = some 189 from (rpt67 hRN8)) ?_
                                    refine Rn.iconstv (v := 1) dX12_layLies_244 ic_1 ?_
                                    refine Rn.iload dX12_layLies_245 rfl ?_
                                    refine Rn.iast dX12_layLies_247 (rc189 hRN8) (by unfold vp_in; decide) ?_
                                    refine Rn.meq (M2 := sI (sI N8 149 (upd (N8.1 149) 66 hi)) 189 (upd (upd (N8.1 189) 0 (nI (m / n))) 1 (nI (m % n)))) (sI_sI _ _ _ _) ?_
                                    refine Rn.aload_n dX12_layLies_248 rfl ?_
                                    refine Rn.getR dX12_layLies_249 fX12_141 rfl (rc149 hRN8) (show N8.2.2 149 67 = some 189 from (rpt67 hRN8)) ?_
                                    refine Rn.iconstv (v := 2) dX12_layLies_252 ic_2 ?_
                                    refine Rn.iload dX12_layLies_253 rfl ?_
                                    refine Rn.iast dX12_layLies_255 (rc189 hRN8) (by unfold vp_in; decide) ?_
                                    refine Rn.meq (M2 := sI (sI N8 149 (upd (N8.1 149) 66 hi)) 189 (upd (upd (upd (N8.1 189) 0 (nI (m / n))) 1 (nI (m % n))) 2 (nI (m % n)))) (sI_sI _ _ _ _) ?_
                                    refine Rn.iincN (lv' := [some (.ref 149), some (.int (nI N)), some (.int 2), some (.int y), some (.int (nI n)), some (.int (nI (n * n))), some (.int (nI (m + 1))), some (.int (nI (m / n))), some (.int (nI (m % n))), some (.int (nI (m % n))), some (.int hi)]) dX12_layLies_256 rfl (by decide) rfl ?_
                                    refine Rn.goto dX12_layLies_259 ?_
                                    refine Rn.forget (lv' := [some (.ref 149), some (.int (nI N)), some (.int 2), some (.int y), some (.int (nI n)), some (.int (nI (n * n))), some (.int (nI (m + 1))), none, none, none, none]) (⟨rfl, ⟨rfl, ⟨rfl, ⟨rfl, ⟨rfl, ⟨rfl, ⟨rfl, trivial⟩⟩⟩⟩⟩⟩⟩) ?_
                                    have hyes : hi < (lhF (fun a => hgS (TR n nw p h0 0 (cak a) W (fun m => valL m (lw 0).1 (lw 0).2) (fun m => valL m (lw 1).1 (lw 1).2)) s n N) ((List.range m).filterMap (dcd n 2)) (100001, none)).1 := by rw [← e66b]; exact hgt
                                    refine ih (m + 1) _ (by omega) ?_ ?_ ?_
                                    · exact (hq8.fj (k := 66) (x := hi) (by decide)).tr ⟨rfl, fun a a1 a2 a3 a4 => sI_ne (by omega), fun j a1 a2 a3 a4 a5 => rfl, fun a ha j a1 a2 => congrFun (sI_ne (by omega)) j, fun a ha j hj => congrFun (sI_ne (by omega)) j, fun a ha j hj => congrFun (sI_ne (by omega)) j⟩
                                    · exact ⟨(show upd (N8.1 149) 66 hi 55 = _ from pk_un (by decide)).trans hm8.1, (show upd (N8.1 149) 66 hi 56 = _ from pk_un (by decide)).trans hm8.2.1, (show upd (N8.1 149) 66 hi 57 = _ from pk_un (by decide)).trans hm8.2.2.1, (show upd (N8.1 149) 66 hi 62 = _ from pk_un (by decide)).trans hm8.2.2.2⟩
                                    · rw [hq2, if_pos hyes]
                                      refine Or.inr ⟨(m / n, m % n, 0), rfl, rfl, fun j hj => ?_⟩
                                      rcases (show j = 0 ∨ j = 1 by omega) with rfl | rfl <;> rfl
                                  · skip
                                    have e66b : N8.1 149 66 = (lhF (fun a => hgS (TR n nw p h0 0 (cak a) W (fun m => valL m (lw 0).1 (lw 0).2) (fun m => valL m (lw 1).1 (lw 1).2)) s n N) ((List.range m).filterMap (dcd n 2)) (100001, none)).1 := (hl8.elim (fun h => absurd h.2 hb) (fun ⟨b, h1, h2, _⟩ => h2))
                                    refine Rn.goto dX12_layLies_223 ?_
                                    refine Rn.iincN (lv' := [some (.ref 149), some (.int (nI N)), some (.int 2), some (.int y), some (.int (nI n)), some (.int (nI (n * n))), some (.int (nI (m + 1))), some (.int (nI (m / n))), some (.int (nI (m % n))), some (.int (nI (m % n))), some (.int hi)]) dX12_layLies_256 rfl (by decide) rfl ?_
                                    refine Rn.goto dX12_layLies_259 ?_
                                    refine Rn.forget (lv' := [some (.ref 149), some (.int (nI N)), some (.int 2), some (.int y), some (.int (nI n)), some (.int (nI (n * n))), some (.int (nI (m + 1))), none, none, none, none]) (⟨rfl, ⟨rfl, ⟨rfl, ⟨rfl, ⟨rfl, ⟨rfl, ⟨rfl, trivial⟩⟩⟩⟩⟩⟩⟩) ?_
                                    exact ih (m + 1) N8 (by omega) hq8 hm8 (by rw [hq2, if_neg (by rw [← e66b]; exact hgt)]; exact hl8)
                              · skip
                                first | exact absurd hl11 (by decide) | exact absurd (by decide) hl11
                        · skip
                          first | exact absurd hl8 (by decide) | exact absurd (by decide) hl8
                  · skip
                    first | exact absurd hl6 (by decide) | exact absurd (by decide) hl6
              · skip
                first | exact absurd hl4 (by decide) | exact absurd (by decide) hl4
        exact loop (n * n) 0 _ (by omega) (hq.fj (by decide)) ⟨(show upd (N0.1 149) 66 (-1) 55 = _ from pk_un (by decide)).trans hm.1, (show upd (N0.1 149) 66 (-1) 56 = _ from pk_un (by decide)).trans hm.2.1, (show upd (N0.1 149) 66 (-1) 57 = _ from pk_un (by decide)).trans hm.2.2.1, (show upd (N0.1 149) 66 (-1) 62 = _ from pk_un (by decide)).trans hm.2.2.2⟩ (Or.inl ⟨rfl, rfl⟩)
    · skip
      first | exact absurd hl2 (by decide) | exact absurd (by decide) hl2
  · skip
    first | exact absurd hl1 (by decide) | exact absurd (by decide) hl1
theorem tX12_layLies3 {G : Gx} {l : Launch} {ly : Ly} {M N0 : Mm} {n nw t nf : Nat} {p : P4} {h0 c0 : Int32} {W : Wx} {lw : Nat → (Nat → Int32) × Nat} {s : Sc} {fc fk : Nat → Int32} {y : Int32} {N : Nat} {cak : Nat × Nat × Nat → Nat → Int32} (hN : N ≤ 1000) (hnf : nf + 3 ≤ 8) (hn1 : 1 ≤ n) (hS : RS M n nw t nf p h0 c0 W lw s fc fk) (hcak : ∀ a : Nat × Nat × Nat, a.1 < n → a.2.1 < n → a.2.2 < n → cas n (nf + 3) c0 (fcK fc nf a 3) (fkK fk nf y 3) (cak a)) (hq : qR M N0) (hm : md N0 (-1) 0) (hR : RW ly M.2.2) {Q : Qt} (hQ : ∀ K : Mm, qR M K → md K (-1) 0 → lsQ K 3 (lhF (fun a => hgS (TR n nw p h0 0 (cak a) W (fun m => valL m (lw 0).1 (lw 0).2) (fun m => valL m (lw 1).1 (lw 1).2)) s n N) ((List.range (alC n 3)).filterMap (dcd n 3)) (100001, none)) → Q none ly K) : Mt G l mX12_layLies (9, 0, 0, false) [.ref 149, .int (nI N), .int 3, .int y] ly N0 Q := by
  refine Mt.of (lv := [some (.ref 149), some (.int (nI N)), some (.int 3), some (.int y), none, none, none, none, none, none, none]) rfl ?_
  have hRN0 : RW ly N0.2.2 := by rw [hq.1]; exact hR
  have hn12 := hS.n.2
  have hnN : N0.1 151 0 = nI n := (hS.q hq).n.1
  have hnn : n * n ≤ 144 := Nat.mul_le_mul hn12 hn12
  have hnnn : n * n * n ≤ 1728 := Nat.mul_le_mul hnn hn12
  refine Rn.aload_n dX12_layLies_0 rfl ?_
  refine Rn.iconstv (v := -1) dX12_layLies_1 ic_m1 ?_
  refine Rn.putI dX12_layLies_2 fX12_487 rfl rfl rfl (rc149 hRN0) ?_
  refine Rn.aload_n dX12_layLies_5 rfl ?_
  refine Rn.getR dX12_layLies_6 fX12_15 rfl (rc149 hRN0) (show N0.2.2 149 3 = some 151 from (rpt3 hRN0)) ?_
  refine Rn.iconstv (v := 0) dX12_layLies_9 ic_0 ?_
  refine Rn.iald dX12_layLies_10 (rc151 hRN0) (by unfold vp_in; decide) ?_
  refine Rn.topI (y := N0.1 151 0) (rfl) ?_
  refine Rn.topI (y := nI n) (hnN) ?_
  refine Rn.istore (lv' := [some (.ref 149), some (.int (nI N)), some (.int 3), some (.int y), some (.int (nI n)), none, none, none, none, none, none]) dX12_layLies_11 (by decide) rfl ?_
  refine Rn.iload_n dX12_layLies_13 rfl ?_
  refine Rn.if_ne dX12_layLies_14 (fun hl1 => ?_) (fun hl1 => ?_)
  · skip
    refine Rn.iload_n dX12_layLies_21 rfl ?_
    refine Rn.iconstv (v := 1) dX12_layLies_22 ic_1 ?_
    refine Rn.icmp_ne dX12_layLies_23 (fun hl2 => ?_) (fun hl2 => ?_)
    · skip
      refine Rn.iload_n dX12_layLies_31 rfl ?_
      refine Rn.iconstv (v := 2) dX12_layLies_32 ic_2 ?_
      refine Rn.icmp_ne dX12_layLies_33 (fun hl3 => ?_) (fun hl3 => ?_)
      · skip
        refine Rn.iload dX12_layLies_44 rfl ?_
        refine Rn.iload dX12_layLies_46 rfl ?_
        refine Rn.imul dX12_layLies_48 ?_
        refine Rn.topI (y := nI (n * n)) (nI_mul n n) ?_
        refine Rn.iload dX12_layLies_49 rfl ?_
        refine Rn.imul dX12_layLies_51 ?_
        refine Rn.topI (y := nI ((n * n) * n)) (nI_mul (n * n) n) ?_
        refine Rn.topI (y := nI (n * n * n)) (rfl) ?_
        refine Rn.istore (lv' := [some (.ref 149), some (.int (nI N)), some (.int 3), some (.int y), some (.int (nI n)), some (.int (nI (n * n * n))), none, none, none, none, none]) dX12_layLies_52 (by decide) rfl ?_
        refine Rn.iconstv (v := 0) dX12_layLies_54 ic_0 ?_
        refine Rn.istore (lv' := [some (.ref 149), some (.int (nI N)), some (.int 3), some (.int y), some (.int (nI n)), some (.int (nI (n * n * n))), some (.int 0), none, none, none, none]) dX12_layLies_55 (by decide) rfl ?_
        have loop : ∀ (f m : Nat) (KK : Mm), m + f = n * n * n → qR M KK → md KK (-1) 0 → lsQ KK 3 (lhF (fun a => hgS (TR n nw p h0 0 (cak a) W (fun m => valL m (lw 0).1 (lw 0).2) (fun m => valL m (lw 1).1 (lw 1).2)) s n N) ((List.range m).filterMap (dcd n 3)) (100001, none)) → Rn G l mX12_layLies (9, 0, 0, false) 57 [some (.ref 149), some (.int (nI N)), some (.int 3), some (.int y), some (.int (nI n)), some (.int (nI (n * n * n))), some (.int (nI m)), none, none, none, none] [] ly KK Q := by
          intro f
          induction f with
          | zero =>
            intro m KK hmf hq hm hl
            have hRKK : RW ly KK.2.2 := by rw [hq.1]; exact hR
            refine Rn.iload dX12_layLies_57 rfl ?_
            refine Rn.iload dX12_layLies_59 rfl ?_
            refine Rn.icmp_ge dX12_layLies_61 (fun hlp => ?_) (fun hlp => ?_)
            · skip
              have em : m = n * n * n := by omega
              rw [em] at hl
              exact Rn.vret dX12_layLies_262 rfl (hQ KK hq hm hl)
            · skip
              exact absurd (nI_le (a := n * n * n) (b := m) (by omega) (by omega)) hlp
          | succ f ih =>
            intro m KK hmf hq hm hl
            have hRKK : RW ly KK.2.2 := by rw [hq.1]; exact hR
            refine Rn.iload dX12_layLies_57 rfl ?_
            refine Rn.iload dX12_layLies_59 rfl ?_
            refine Rn.icmp_ge dX12_layLies_61 (fun hlp => ?_) (fun hlp => ?_)
            · skip
              exact absurd hlp (nI_ge (a := m) (b := n * n * n) (by omega) (by omega))
            · skip
              have hmA : m < n * n * n := by omega
              have hm31 : m < 2 ^ 31 := by omega
              have hnz : ¬ nI n = 0 := nI_ne0 (by omega) (by omega)
              have hmod : m % n < n := Nat.mod_lt m (by omega)
              have hdv : m / n < n * n := dv_lt (by rw [Nat.mul_comm n (n * n)]; exact hmA)
              have hdv2 : m / n / n < n := dv_lt hdv
              have hmod2 : m / n % n < n := Nat.mod_lt _ (by omega)
              refine Rn.iload_n dX12_layLies_64 rfl ?_
              refine Rn.iconstv (v := 3) dX12_layLies_65 ic_3 ?_
              refine Rn.icmp_ne dX12_layLies_66 (fun hl4 => ?_) (fun hl4 => ?_)
              · skip
                first | exact absurd hl4 (by decide) | exact absurd (by decide) hl4
              · skip
                refine Rn.iload dX12_layLies_69 rfl ?_
                refine Rn.iload dX12_layLies_71 rfl ?_
                refine Rn.idiv dX12_layLies_73 hnz ?_
                refine Rn.topI (y := nI (m / n)) (i32div hm31 (by omega)) ?_
                refine Rn.iload dX12_layLies_74 rfl ?_
                refine Rn.idiv dX12_layLies_76 hnz ?_
                refine Rn.topI (y := nI (m / n / n)) (i32div (by omega) (by omega)) ?_
                refine Rn.goto dX12_layLies_77 ?_
                refine Rn.istore (lv' := [some (.ref 149), some (.int (nI N)), some (.int 3), some (.int y), some (.int (nI n)), some (.int (nI (n * n * n))), some (.int (nI m)), some (.int (nI (m / n / n))), none, none, none]) dX12_layLies_95 (by decide) rfl ?_
                refine Rn.iload_n dX12_layLies_97 rfl ?_
                refine Rn.iconstv (v := 3) dX12_layLies_98 ic_3 ?_
                refine Rn.icmp_ne dX12_layLies_99 (fun hl5 => ?_) (fun hl5 => ?_)
                · skip
                  first | exact absurd hl5 (by decide) | exact absurd (by decide) hl5
                · skip
                  refine Rn.iload dX12_layLies_102 rfl ?_
                  refine Rn.iload dX12_layLies_104 rfl ?_
                  refine Rn.idiv dX12_layLies_106 hnz ?_
                  refine Rn.topI (y := nI (m / n)) (i32div hm31 (by omega)) ?_
                  refine Rn.iload dX12_layLies_107 rfl ?_
                  refine Rn.irem dX12_layLies_109 hnz ?_
                  refine Rn.topI (y := nI (m / n % n)) (i32rem (by omega) (by omega)) ?_
                  refine Rn.goto dX12_layLies_110 ?_
                  refine Rn.istore (lv' := [some (.ref 149), some (.int (nI N)), some (.int 3), some (.int y), some (.int (nI n)), some (.int (nI (n * n * n))), some (.int (nI m)), some (.int (nI (m / n / n))), some (.int (nI (m / n % n))), none, none]) dX12_layLies_118 (by decide) rfl ?_
                  refine Rn.iload dX12_layLies_120 rfl ?_
                  refine Rn.iload dX12_layLies_122 rfl ?_
                  refine Rn.irem dX12_layLies_124 hnz ?_
                  refine Rn.topI (y := nI (m % n)) (i32rem hm31 (by omega)) ?_
                  refine Rn.istore (lv' := [some (.ref 149), some (.int (nI N)), some (.int 3), some (.int y), some (.int (nI n)), some (.int (nI (n * n * n))), some (.int (nI m)), some (.int (nI (m / n / n))), some (.int (nI (m / n % n))), some (.int (nI (m % n))), none]) dX12_layLies_125 (by decide) rfl ?_
                  refine Rn.iload_n dX12_layLies_127 rfl ?_
                  refine Rn.iconstv (v := 2) dX12_layLies_128 ic_2 ?_
                  refine Rn.icmp_lt dX12_layLies_129 (fun hl6 => ?_) (fun hl6 => ?_)
                  · skip
                    first | exact absurd hl6 (by decide) | exact absurd (by decide) hl6
                  · skip
                    refine Rn.iload dX12_layLies_132 rfl ?_
                    refine Rn.iload dX12_layLies_134 rfl ?_
                    refine Rn.icmp_lt dX12_layLies_136 (fun hba => ?_) (fun hba => ?_)
                    · skip
                      have hlt := (nI_ltI (by omega) (by omega)).mp hba
                      refine Rn.iincN (lv' := [some (.ref 149), some (.int (nI N)), some (.int 3), some (.int y), some (.int (nI n)), some (.int (nI (n * n * n))), some (.int (nI (m + 1))), some (.int (nI (m / n / n))), some (.int (nI (m / n % n))), some (.int (nI (m % n))), none]) dX12_layLies_256 rfl (by decide) rfl ?_
                      refine Rn.goto dX12_layLies_259 ?_
                      refine Rn.forget (lv' := [some (.ref 149), some (.int (nI N)), some (.int 3), some (.int y), some (.int (nI n)), some (.int (nI (n * n * n))), some (.int (nI (m + 1))), none, none, none, none]) (⟨rfl, ⟨rfl, ⟨rfl, ⟨rfl, ⟨rfl, ⟨rfl, ⟨rfl, trivial⟩⟩⟩⟩⟩⟩⟩) ?_
                      exact ih (m + 1) KK (by omega) hq hm (by rw [List.range_succ, List.filterMap_append, show [m].filterMap (dcd n 3) = [] from (by show List.filterMap (dcd n 3) [m] = []; rw [List.filterMap_cons, show dcd n 3 m = none from if_pos hlt]; rfl), List.append_nil]; exact hl)
                    · skip
                      have hge := fun h => hba (nI_lt h (by omega))
                      refine Rn.iload_n dX12_layLies_139 rfl ?_
                      refine Rn.iconstv (v := 3) dX12_layLies_140 ic_3 ?_
                      refine Rn.icmp_ne dX12_layLies_141 (fun hl7 => ?_) (fun hl7 => ?_)
                      · skip
                        first | exact absurd hl7 (by decide) | exact absurd (by decide) hl7
                      · skip
                        refine Rn.iload dX12_layLies_144 rfl ?_
                        refine Rn.iload dX12_layLies_146 rfl ?_
                        refine Rn.icmp_ge dX12_layLies_148 (fun hcb => ?_) (fun hcb => ?_)
                        · skip
                          have hge2 : ¬ m % n < m / n % n := fun h => nI_ge h (by omega) hcb
                          have hdc : dcd n 3 m = some (m / n / n, m / n % n, m % n) := (if_neg hge).trans (if_neg hge2)
                          have hnx : (List.range (m + 1)).filterMap (dcd n 3) = (List.range m).filterMap (dcd n 3) ++ [(m / n / n, m / n % n, m % n)] := by rw [List.range_succ, List.filterMap_append]; exact congrArg (fun q9 => List.filterMap (dcd n 3) (List.range m) ++ q9) (by show List.filterMap (dcd n 3) [m] = _; rw [List.filterMap_cons, hdc]; rfl)
                          refine Rn.aload_n dX12_layLies_154 rfl ?_
                          refine Rn.iconstv (v := 1) dX12_layLies_155 ic_1 ?_
                          refine Rn.iconstv (v := 0) dX12_layLies_156 ic_0 ?_
                          refine Rn.callV2 dX12_layLies_157 vX12_461 (rc149 hRKK) (by decide) rfl (rvNow2 (M := M) (N := KK) (x := (-1)) (kp := 0) (Q := fun v0 ly0 K => v0 = none ∧ ly0 = ly ∧ Rt M K nw t nf (-1) 0 s fc fk ∧ K.1 149 = KK.1 149 ∧ K.1 189 = KK.1 189) hS hq hm hRKK (fun K a c d => ⟨rfl, rfl, a, c, d⟩)) (by decide) ⟨(Nat.le_of_ble_eq_true rfl), (Nat.le_of_ble_eq_true rfl), (Nat.le_of_ble_eq_true rfl)⟩ (fun h => by cases h) (fun v1 ly1 N1 ⟨q1, q2, hT1, e1, d1⟩ => ?_)
                          rw [q1, q2]
                          have hRN1 : RW ly N1.2.2 := by rw [hT1.1.1]; exact hR
                          refine Rn.iload_n dX12_layLies_160 rfl ?_
                          refine Rn.iconstv (v := 1) dX12_layLies_161 ic_1 ?_
                          refine Rn.icmp_lt dX12_layLies_162 (fun hl8 => ?_) (fun hl8 => ?_)
                          · skip
                            first | exact absurd hl8 (by decide) | exact absurd (by decide) hl8
                          · skip
                            refine Rn.aload_n dX12_layLies_165 rfl ?_
                            refine Rn.iconstv (v := 1) dX12_layLies_166 ic_1 ?_
                            refine Rn.iload dX12_layLies_167 rfl ?_
                            refine Rn.iload_n dX12_layLies_169 rfl ?_
                            refine Rn.callV3 dX12_layLies_170 vX12_470 (rc149 hRN1) (by decide) rfl (rvGw (M := M) (N := N1) (x := nI (m / n / n)) (y := y) (Q := fun v0 ly0 K => v0 = none ∧ ly0 = ly ∧ Rt M K nw t (nf + 1) (-1) 0 s (fcK fc nf (m / n / n, m / n % n, m % n) 1) (fkK fk nf y 1) ∧ K.1 149 = N1.1 149 ∧ K.1 189 = N1.1 189) hT1 (by omega) hRN1 (fun K a c d => ⟨rfl, rfl, a, c, d⟩)) (by decide) ⟨(Nat.le_of_ble_eq_true rfl), (Nat.le_of_ble_eq_true rfl), (Nat.le_of_ble_eq_true rfl)⟩ (fun h => by cases h) (fun v1 ly1 N2 ⟨q1, q2, hT2, e2, d2⟩ => ?_)
                            rw [q1, q2]
                            have hRN2 : RW ly N2.2.2 := by rw [hT2.1.1]; exact hR
                            refine Rn.iload_n dX12_layLies_173 rfl ?_
                            refine Rn.iconstv (v := 2) dX12_layLies_174 ic_2 ?_
                            refine Rn.icmp_lt dX12_layLies_175 (fun hl9 => ?_) (fun hl9 => ?_)
                            · skip
                              first | exact absurd hl9 (by decide) | exact absurd (by decide) hl9
                            · skip
                              refine Rn.aload_n dX12_layLies_178 rfl ?_
                              refine Rn.iconstv (v := 1) dX12_layLies_179 ic_1 ?_
                              refine Rn.iload dX12_layLies_180 rfl ?_
                              refine Rn.iload_n dX12_layLies_182 rfl ?_
                              refine Rn.callV3 dX12_layLies_183 vX12_470 (rc149 hRN2) (by decide) rfl (rvGw (M := M) (N := N2) (x := nI (m / n % n)) (y := y) (Q := fun v0 ly0 K => v0 = none ∧ ly0 = ly ∧ Rt M K nw t (nf + 2) (-1) 0 s (fcK fc nf (m / n / n, m / n % n, m % n) 2) (fkK fk nf y 2) ∧ K.1 149 = N2.1 149 ∧ K.1 189 = N2.1 189) hT2 (by omega) hRN2 (fun K a c d => ⟨rfl, rfl, a, c, d⟩)) (by decide) ⟨(Nat.le_of_ble_eq_true rfl), (Nat.le_of_ble_eq_true rfl), (Nat.le_of_ble_eq_true rfl)⟩ (fun h => by cases h) (fun v1 ly1 N3 ⟨q1, q2, hT3, e3, d3⟩ => ?_)
                              rw [q1, q2]
                              have hRN3 : RW ly N3.2.2 := by rw [hT3.1.1]; exact hR
                              refine Rn.iload_n dX12_layLies_186 rfl ?_
                              refine Rn.iconstv (v := 3) dX12_layLies_187 ic_3 ?_
                              refine Rn.icmp_lt dX12_layLies_188 (fun hl10 => ?_) (fun hl10 => ?_)
                              · skip
                                first | exact absurd hl10 (by decide) | exact absurd (by decide) hl10
                              · skip
                                refine Rn.aload_n dX12_layLies_191 rfl ?_
                                refine Rn.iconstv (v := 1) dX12_layLies_192 ic_1 ?_
                                refine Rn.iload dX12_layLies_193 rfl ?_
                                refine Rn.iload_n dX12_layLies_195 rfl ?_
                                refine Rn.callV3 dX12_layLies_196 vX12_470 (rc149 hRN3) (by decide) rfl (rvGw (M := M) (N := N3) (x := nI (m % n)) (y := y) (Q := fun v0 ly0 K => v0 = none ∧ ly0 = ly ∧ Rt M K nw t (nf + 3) (-1) 0 s (fcK fc nf (m / n / n, m / n % n, m % n) 3) (fkK fk nf y 3) ∧ K.1 149 = N3.1 149 ∧ K.1 189 = N3.1 189) hT3 (by omega) hRN3 (fun K a c d => ⟨rfl, rfl, a, c, d⟩)) (by decide) ⟨(Nat.le_of_ble_eq_true rfl), (Nat.le_of_ble_eq_true rfl), (Nat.le_of_ble_eq_true rfl)⟩ (fun h => by cases h) (fun v1 ly1 N4 ⟨q1, q2, hT4, e4, d4⟩ => ?_)
                                rw [q1, q2]
                                have hRN4 : RW ly N4.2.2 := by rw [hT4.1.1]; exact hR
                                refine Rn.aload_n dX12_layLies_199 rfl ?_
                                refine Rn.iload_n dX12_layLies_200 rfl ?_
                                refine Rn.callV1 dX12_layLies_201 vX12_477 (rc149 hRN4) (by decide) rfl (rvHigh2 (M := M) (N := N4) (ca := cak (m / n / n, m / n % n, m % n)) (s2 := s) (K0 := N) (kp := 0) (Q := fun v0 ly0 K => v0 = some (.int (hgS (TR n nw p h0 0 (cak (m / n / n, m / n % n, m % n)) W (fun m => valL m (lw 0).1 (lw 0).2) (fun m => valL m (lw 1).1 (lw 1).2)) s n N)) ∧ ly0 = ly ∧ qR M K ∧ md K (-1) 0 ∧ K.1 149 66 = N4.1 149 66 ∧ K.1 189 = N4.1 189) hS hT4 (by decide) (by decide) (by decide) (by decide) (hcak (m / n / n, m / n % n, m % n) (by show m / n / n < n; omega) (by show m / n % n < n; omega) (by show m % n < n; omega)) hS.2.2.2.2 hN hRN4 (fun K a c d e => ⟨rfl, rfl, a, c, d, e⟩)) (by decide) ⟨(Nat.le_of_ble_eq_true rfl), (Nat.le_of_ble_eq_true rfl), (Nat.le_of_ble_eq_true rfl)⟩ (fun h => by cases h) (fun v1 ly1 N8 ⟨q1, q2, hq8, hm8, e8, d8⟩ => ?_)
                                rw [q1, q2]
                                have hRN8 : RW ly N8.2.2 := by rw [hq8.1]; exact hR
                                have e66 : N8.1 149 66 = KK.1 149 66 := (e8).trans ((congrFun e4 66).trans ((congrFun e3 66).trans ((congrFun e2 66).trans (congrFun e1 66))))
                                have e189 : N8.1 189 = KK.1 189 := (d8).trans ((d4).trans ((d3).trans ((d2).trans (d1))))
                                obtain ⟨hi, hhi⟩ : ∃ hi : Int32, hi = (fun a => hgS (TR n nw p h0 0 (cak a) W (fun m => valL m (lw 0).1 (lw 0).2) (fun m => valL m (lw 1).1 (lw 1).2)) s n N) (m / n / n, m / n % n, m % n) := ⟨_, rfl⟩
                                refine Rn.topI (y := hi) hhi.symm ?_
                                have hi5 : hi ≤ 100000 := by rw [hhi]; exact hgS_le (fun s => gr_pas) N
                                have hl8 : lsQ N8 3 (lhF (fun a => hgS (TR n nw p h0 0 (cak a) W (fun m => valL m (lw 0).1 (lw 0).2) (fun m => valL m (lw 1).1 (lw 1).2)) s n N) ((List.range m).filterMap (dcd n 3)) (100001, none)) := hl.eq e66 e189
                                have hq2 : lhF (fun a => hgS (TR n nw p h0 0 (cak a) W (fun m => valL m (lw 0).1 (lw 0).2) (fun m => valL m (lw 1).1 (lw 1).2)) s n N) ((List.range (m + 1)).filterMap (dcd n 3)) (100001, none) = if hi < (lhF (fun a => hgS (TR n nw p h0 0 (cak a) W (fun m => valL m (lw 0).1 (lw 0).2) (fun m => valL m (lw 1).1 (lw 1).2)) s n N) ((List.range m).filterMap (dcd n 3)) (100001, none)).1 then (hi, some (m / n / n, m / n % n, m % n)) else (lhF (fun a => hgS (TR n nw p h0 0 (cak a) W (fun m => valL m (lw 0).1 (lw 0).2) (fun m => valL m (lw 1).1 (lw 1).2)) s n N) ((List.range m).filterMap (dcd n 3)) (100001, none)) := by rw [hnx, lhF_app, hhi]
                                have hge0 : (0 : Int32) ≤ (lhF (fun a => hgS (TR n nw p h0 0 (cak a) W (fun m => valL m (lw 0).1 (lw 0).2) (fun m => valL m (lw 1).1 (lw 1).2)) s n N) ((List.range m).filterMap (dcd n 3)) (100001, none)).1 := lhF_ge (fun a => hgS_0 N) _ _ (by decide)
                                refine Rn.istore (lv' := [some (.ref 149), some (.int (nI N)), some (.int 3), some (.int y), some (.int (nI n)), some (.int (nI (n * n * n))), some (.int (nI m)), some (.int (nI (m / n / n))), some (.int (nI (m / n % n))), some (.int (nI (m % n))), some (.int hi)]) dX12_layLies_204 (by decide) rfl ?_
                                refine Rn.aload_n dX12_layLies_206 rfl ?_
                                refine Rn.getI dX12_layLies_207 fX12_487 rfl (rc149 hRN8) ?_
                                refine Rn.iconstv (v := -1) dX12_layLies_210 ic_m1 ?_
                                refine Rn.icmp_eq dX12_layLies_211 (fun hb => ?_) (fun hb => ?_)
                                · skip
                                  refine Rn.aload_n dX12_layLies_226 rfl ?_
                                  refine Rn.iload dX12_layLies_227 rfl ?_
                                  refine Rn.putI dX12_layLies_229 fX12_487 rfl rfl rfl (rc149 hRN8) ?_
                                  refine Rn.aload_n dX12_layLies_232 rfl ?_
                                  refine Rn.getR dX12_layLies_233 fX12_141 rfl (rc149 hRN8) (show N8.2.2 149 67 = some 189 from (rpt67 hRN8)) ?_
                                  refine Rn.iconstv (v := 0) dX12_layLies_236 ic_0 ?_
                                  refine Rn.iload dX12_layLies_237 rfl ?_
                                  refine Rn.iast dX12_layLies_239 (rc189 hRN8) (by unfold vp_in; decide) ?_
                                  refine Rn.aload_n dX12_layLies_240 rfl ?_
                                  refine Rn.getR dX12_layLies_241 fX12_141 rfl (rc149 hRN8) (show N8.2.2 149 67 = some 189 from (rpt67 hRN8)) ?_
                                  refine Rn.iconstv (v := 1) dX12_layLies_244 ic_1 ?_
                                  refine Rn.iload dX12_layLies_245 rfl ?_
                                  refine Rn.iast dX12_layLies_247 (rc189 hRN8) (by unfold vp_in; decide) ?_
                                  refine Rn.meq (M2 := sI (sI N8 149 (upd (N8.1 149) 66 hi)) 189 (upd (upd (N8.1 189) 0 (nI (m / n / n))) 1 (nI (m / n % n)))) (sI_sI _ _ _ _) ?_
                                  refine Rn.aload_n dX12_layLies_248 rfl ?_
                                  refine Rn.getR dX12_layLies_249 fX12_141 rfl (rc149 hRN8) (show N8.2.2 149 67 = some 189 from (rpt67 hRN8)) ?_
                                  refine Rn.iconstv (v := 2) dX12_layLies_252 ic_2 ?_
                                  refine Rn.iload dX12_layLies_253 rfl ?_
                                  refine Rn.iast dX12_layLies_255 (rc189 hRN8) (by unfold vp_in; decide) ?_
                                  refine Rn.meq (M2 := sI (sI N8 149 (upd (N8.1 149) 66 hi)) 189 (upd (upd (upd (N8.1 189) 0 (nI (m / n / n))) 1 (nI (m / n % n))) 2 (nI (m % n)))) (sI_sI _ _ _ _) ?_
                                  refine Rn.iincN (lv' := [some (.ref 149), some (.int (nI N)), some (.int 3), some (.int y), some (.int (nI n)), some (.int (nI (n * n * n))), some (.int (nI (m + 1))), some (.int (nI (m / n / n))), some (.int (nI (m / n % n))), some (.int (nI (m % n))), some (.int hi)]) dX12_layLies_256 rfl (by decide) rfl ?_
                                  refine Rn.goto dX12_layLies_259 ?_
                                  refine Rn.forget (lv' := [some (.ref 149), some (.int (nI N)), some (.int 3), some (.int y), some (.int (nI n)), some (.int (nI (n * n * n))), some (.int (nI (m + 1))), none, none, none, none]) (⟨rfl, ⟨rfl, ⟨rfl, ⟨rfl, ⟨rfl, ⟨rfl, ⟨rfl, trivial⟩⟩⟩⟩⟩⟩⟩) ?_
                                  have hyes : hi < (lhF (fun a => hgS (TR n nw p h0 0 (cak a) W (fun m => valL m (lw 0).1 (lw 0).2) (fun m => valL m (lw 1).1 (lw 1).2)) s n N) ((List.range m).filterMap (dcd n 3)) (100001, none)).1 := hl8.elim (fun h => by rw [lhF_nn _ _ h.1]; exact Int32.lt_of_le_of_lt hi5 (by decide)) (fun ⟨b, h1, h2, _⟩ => absurd (show (0 : Int32) ≤ -1 by rw [← hb, h2]; exact hge0) (by decide))
                                  refine ih (m + 1) _ (by omega) ?_ ?_ ?_
                                  · exact (hq8.fj (k := 66) (x := hi) (by decide)).tr ⟨rfl, fun a a1 a2 a3 a4 => sI_ne (by omega), fun j a1 a2 a3 a4 a5 => rfl, fun a ha j a1 a2 => congrFun (sI_ne (by omega)) j, fun a ha j hj => congrFun (sI_ne (by omega)) j, fun a ha j hj => congrFun (sI_ne (by omega)) j⟩
                                  · exact ⟨(show upd (N8.1 149) 66 hi 55 = _ from pk_un (by decide)).trans hm8.1, (show upd (N8.1 149) 66 hi 56 = _ from pk_un (by decide)).trans hm8.2.1, (show upd (N8.1 149) 66 hi 57 = _ from pk_un (by decide)).trans hm8.2.2.1, (show upd (N8.1 149) 66 hi 62 = _ from pk_un (by decide)).trans hm8.2.2.2⟩
                                  · rw [hq2, if_pos hyes]
                                    refine Or.inr ⟨(m / n / n, m / n % n, m % n), rfl, rfl, fun j hj => ?_⟩
                                    rcases (show j = 0 ∨ j = 1 ∨ j = 2 by omega) with rfl | rfl | rfl <;> rfl
                                · skip
                                  refine Rn.iload dX12_layLies_214 rfl ?_
                                  refine Rn.aload_n dX12_layLies_216 rfl ?_
                                  refine Rn.getI dX12_layLies_217 fX12_487 rfl (rc149 hRN8) ?_
                                  refine Rn.icmp_lt dX12_layLies_220 (fun hgt => ?_) (fun hgt => ?_)
                                  · skip
                                    have e66b : N8.1 149 66 = (lhF (fun a => hgS (TR n nw p h0 0 (cak a) W (fun m => valL m (lw 0).1 (lw 0).2) (fun m => valL m (lw 1).1 (lw 1).2)) s n N) ((List.range m).filterMap (dcd n 3)) (100001, none)).1 := (hl8.elim (fun h => absurd h.2 hb) (fun ⟨b, h1, h2, _⟩ => h2))
                                    refine Rn.aload_n dX12_layLies_226 rfl ?_
                                    refine Rn.iload dX12_layLies_227 rfl ?_
                                    refine Rn.putI dX12_layLies_229 fX12_487 rfl rfl rfl (rc149 hRN8) ?_
                                    refine Rn.aload_n dX12_layLies_232 rfl ?_
                                    refine Rn.getR dX12_layLies_233 fX12_141 rfl (rc149 hRN8) (show N8.2.2 149 67 = some 189 from (rpt67 hRN8)) ?_
                                    refine Rn.iconstv (v := 0) dX12_layLies_236 ic_0 ?_
                                    refine Rn.iload dX12_layLies_237 rfl ?_
                                    refine Rn.iast dX12_layLies_239 (rc189 hRN8) (by unfold vp_in; decide) ?_
                                    refine Rn.aload_n dX12_layLies_240 rfl ?_
                                    refine Rn.getR dX12_layLies_241 fX12_141 rfl (rc149 hRN8) (show N8.2.2 149 67 = some 189 from (rpt67 hRN8)) ?_
                                    refine Rn.iconstv (v := 1) dX12_layLies_244 ic_1 ?_
                                    refine Rn.iload dX12_layLies_245 rfl ?_
                                    refine Rn.iast dX12_layLies_247 (rc189 hRN8) (by unfold vp_in; decide) ?_
                                    refine Rn.meq (M2 := sI (sI N8 149 (upd (N8.1 149) 66 hi)) 189 (upd (upd (N8.1 189) 0 (nI (m / n / n))) 1 (nI (m / n % n)))) (sI_sI _ _ _ _) ?_
                                    refine Rn.aload_n dX12_layLies_248 rfl ?_
                                    refine Rn.getR dX12_layLies_249 fX12_141 rfl (rc149 hRN8) (show N8.2.2 149 67 = some 189 from (rpt67 hRN8)) ?_
                                    refine Rn.iconstv (v := 2) dX12_layLies_252 ic_2 ?_
                                    refine Rn.iload dX12_layLies_253 rfl ?_
                                    refine Rn.iast dX12_layLies_255 (rc189 hRN8) (by unfold vp_in; decide) ?_
                                    refine Rn.meq (M2 := sI (sI N8 149 (upd (N8.1 149) 66 hi)) 189 (upd (upd (upd (N8.1 189) 0 (nI (m / n / n))) 1 (nI (m / n % n))) 2 (nI (m % n)))) (sI_sI _ _ _ _) ?_
                                    refine Rn.iincN (lv' := [some (.ref 149), some (.int (nI N)), some (.int 3), some (.int y), some (.int (nI n)), some (.int (nI (n * n * n))), some (.int (nI (m + 1))), some (.int (nI (m / n / n))), some (.int (nI (m / n % n))), some (.int (nI (m % n))), some (.int hi)]) dX12_layLies_256 rfl (by decide) rfl ?_
                                    refine Rn.goto dX12_layLies_259 ?_
                                    refine Rn.forget (lv' := [some (.ref 149), some (.int (nI N)), some (.int 3), some (.int y), some (.int (nI n)), some (.int (nI (n * n * n))), some (.int (nI (m + 1))), none, none, none, none]) (⟨rfl, ⟨rfl, ⟨rfl, ⟨rfl, ⟨rfl, ⟨rfl, ⟨rfl, trivial⟩⟩⟩⟩⟩⟩⟩) ?_
                                    have hyes : hi < (lhF (fun a => hgS (TR n nw p h0 0 (cak a) W (fun m => valL m (lw 0).1 (lw 0).2) (fun m => valL m (lw 1).1 (lw 1).2)) s n N) ((List.range m).filterMap (dcd n 3)) (100001, none)).1 := by rw [← e66b]; exact hgt
                                    refine ih (m + 1) _ (by omega) ?_ ?_ ?_
                                    · exact (hq8.fj (k := 66) (x := hi) (by decide)).tr ⟨rfl, fun a a1 a2 a3 a4 => sI_ne (by omega), fun j a1 a2 a3 a4 a5 => rfl, fun a ha j a1 a2 => congrFun (sI_ne (by omega)) j, fun a ha j hj => congrFun (sI_ne (by omega)) j, fun a ha j hj => congrFun (sI_ne (by omega)) j⟩
                                    · exact ⟨(show upd (N8.1 149) 66 hi 55 = _ from pk_un (by decide)).trans hm8.1, (show upd (N8.1 149) 66 hi 56 = _ from pk_un (by decide)).trans hm8.2.1, (show upd (N8.1 149) 66 hi 57 = _ from pk_un (by decide)).trans hm8.2.2.1, (show upd (N8.1 149) 66 hi 62 = _ from pk_un (by decide)).trans hm8.2.2.2⟩
                                    · rw [hq2, if_pos hyes]
                                      refine Or.inr ⟨(m / n / n, m / n % n, m % n), rfl, rfl, fun j hj => ?_⟩
                                      rcases (show j = 0 ∨ j = 1 ∨ j = 2 by omega) with rfl | rfl | rfl <;> rfl
                                  · skip
                                    have e66b : N8.1 149 66 = (lhF (fun a => hgS (TR n nw p h0 0 (cak a) W (fun m => valL m (lw 0).1 (lw 0).2) (fun m => valL m (lw 1).1 (lw 1).2)) s n N) ((List.range m).filterMap (dcd n 3)) (100001, none)).1 := (hl8.elim (fun h => absurd h.2 hb) (fun ⟨b, h1, h2, _⟩ => h2))
                                    refine Rn.goto dX12_layLies_223 ?_
                                    refine Rn.iincN (lv' := [some (.ref 149), some (.int (nI N)), some (.int 3), some (.int y), some (.int (nI n)), some (.int (nI (n * n * n))), some (.int (nI (m + 1))), some (.int (nI (m / n / n))), some (.int (nI (m / n % n))), some (.int (nI (m % n))), some (.int hi)]) dX12_layLies_256 rfl (by decide) rfl ?_
                                    refine Rn.goto dX12_layLies_259 ?_
                                    refine Rn.forget (lv' := [some (.ref 149), some (.int (nI N)), some (.int 3), some (.int y), some (.int (nI n)), some (.int (nI (n * n * n))), some (.int (nI (m + 1))), none, none, none, none]) (⟨rfl, ⟨rfl, ⟨rfl, ⟨rfl, ⟨rfl, ⟨rfl, ⟨rfl, trivial⟩⟩⟩⟩⟩⟩⟩) ?_
                                    exact ih (m + 1) N8 (by omega) hq8 hm8 (by rw [hq2, if_neg (by rw [← e66b]; exact hgt)]; exact hl8)
                        · skip
                          have hlt2 : m % n < m / n % n := Nat.lt_of_not_le (fun h => hcb (nI_le h (by omega)))
                          refine Rn.goto dX12_layLies_151 ?_
                          refine Rn.iincN (lv' := [some (.ref 149), some (.int (nI N)), some (.int 3), some (.int y), some (.int (nI n)), some (.int (nI (n * n * n))), some (.int (nI (m + 1))), some (.int (nI (m / n / n))), some (.int (nI (m / n % n))), some (.int (nI (m % n))), none]) dX12_layLies_256 rfl (by decide) rfl ?_
                          refine Rn.goto dX12_layLies_259 ?_
                          refine Rn.forget (lv' := [some (.ref 149), some (.int (nI N)), some (.int 3), some (.int y), some (.int (nI n)), some (.int (nI (n * n * n))), some (.int (nI (m + 1))), none, none, none, none]) (⟨rfl, ⟨rfl, ⟨rfl, ⟨rfl, ⟨rfl, ⟨rfl, ⟨rfl, trivial⟩⟩⟩⟩⟩⟩⟩) ?_
                          exact ih (m + 1) KK (by omega) hq hm (by rw [List.range_succ, List.filterMap_append, show [m].filterMap (dcd n 3) = [] from (by show List.filterMap (dcd n 3) [m] = []; rw [List.filterMap_cons, show dcd n 3 m = none from (if_neg hge).trans (if_pos hlt2)]; rfl), List.append_nil]; exact hl)
        exact loop (n * n * n) 0 _ (by omega) (hq.fj (by decide)) ⟨(show upd (N0.1 149) 66 (-1) 55 = _ from pk_un (by decide)).trans hm.1, (show upd (N0.1 149) 66 (-1) 56 = _ from pk_un (by decide)).trans hm.2.1, (show upd (N0.1 149) 66 (-1) 57 = _ from pk_un (by decide)).trans hm.2.2.1, (show upd (N0.1 149) 66 (-1) 62 = _ from pk_un (by decide)).trans hm.2.2.2⟩ (Or.inl ⟨rfl, rfl⟩)
      · skip
        first | exact absurd hl3 (by decide) | exact absurd (by decide) hl3
    · skip
      first | exact absurd hl2 (by decide) | exact absurd (by decide) hl2
  · skip
    first | exact absurd hl1 (by decide) | exact absurd (by decide) hl1
