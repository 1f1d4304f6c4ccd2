/-- the reference's state, as far as a question sees it -/
def RS (M : Mm) (n nw t nf : Nat) (p : P4) (h0 c0 : Int32) (W : Wx) (lw : Nat → (Nat → Int32) × Nat) (s : Sc) (fc fk : Nat → Int32) : Prop := plE M.1 n nw p h0 c0 W lw ∧ rAl M.1 0 nw t s ∧ ftR M.1 0 nf fc fk ∧ (M.1 171 0 = 0 ∨ M.1 171 0 = 1) ∧ t ≤ 9999
/-- the calms of cells -/
def cas (n nf : Nat) (c0 : Int32) (fc fk ca : Nat → Int32) : Prop := ∀ c, c < n → mn 100 (cmR c0 fc fk (nI c) nf) = ca c
theorem RS.w6 {M : Mm} {n nw t nf : Nat} {p : P4} {h0 c0 : Int32} {W : Wx} {lw : Nat → (Nat → Int32) × Nat} {s : Sc} {fc fk : Nat → Int32} (h : RS M n nw t nf p h0 c0 W lw s fc fk) : nw ≤ 6 := h.1.2.2.2.2.1.2.1
theorem RS.n {M : Mm} {n nw t nf : Nat} {p : P4} {h0 c0 : Int32} {W : Wx} {lw : Nat → (Nat → Int32) × Nat} {s : Sc} {fc fk : Nat → Int32} (h : RS M n nw t nf p h0 c0 W lw s fc fk) : M.1 151 0 = nI n ∧ n ≤ 12 := h.1.1
theorem RS.nw {M : Mm} {n nw t nf : Nat} {p : P4} {h0 c0 : Int32} {W : Wx} {lw : Nat → (Nat → Int32) × Nat} {s : Sc} {fc fk : Nat → Int32} (h : RS M n nw t nf p h0 c0 W lw s fc fk) : M.1 151 6 = nI nw := h.1.2.2.2.2.1.1
theorem RS.q {M K : Mm} {n nw t nf : Nat} {p : P4} {h0 c0 : Int32} {W : Wx} {lw : Nat → (Nat → Int32) × Nat} {s : Sc} {fc fk : Nat → Int32} (h : RS M n nw t nf p h0 c0 W lw s fc fk) (f : qR M K) : RS K n nw t nf p h0 c0 W lw s fc fk := ⟨h.1.q f, f.al h.w6 h.2.1, f.ft h.2.2.1, by rw [f.2.2.2.1 171 (by omega) 0 (by omega) (by omega)]; exact h.2.2.2.1, h.2.2.2.2⟩
/-- the reference's trial -/
def Rt (M N : Mm) (nw t nf : Nat) (x : Int32) (kp : Nat) (s : Sc) (fc fk : Nat → Int32) : Prop := qR M N ∧ md N x kp ∧ rAl N.1 1 nw t s ∧ ftR N.1 1 nf fc fk
theorem qR.f0 {M N : Mm} (h : qR M N) : qR M (sI N 149 (upd (N.1 149) 0 0)) := h.tr ⟨rfl, fun a a1 a2 a3 a4 => sI_ne a1, fun j a1 a2 a3 a4 a5 => pk_un a2, fun a ha j a1 a2 => congrFun (sI_ne (by omega)) j, fun a ha j hj => congrFun (sI_ne (by omega)) j, fun a ha j hj => congrFun (sI_ne (by omega)) j⟩
/-- a scratch place of the object is written -/
theorem qR.fj {M N : Mm} {k : Nat} {x : Int32} (h : qR M N) (hk : (54 ≤ k ∧ k ≤ 62) ∨ k = 66 ∨ k = 68 ∨ k = 69) : qR M (sI N 149 (upd (N.1 149) k x)) := h.tr ⟨rfl, fun a a1 a2 a3 a4 => sI_ne a1, fun j a1 a2 a3 a4 a5 => pk_un (by omega), fun a ha j a1 a2 => congrFun (sI_ne (by omega)) j, fun a ha j hj => congrFun (sI_ne (by omega)) j, fun a ha j hj => congrFun (sI_ne (by omega)) j⟩
theorem qR.plain {M N : Mm} (h : qR M N) : qR M (sI N 149 (upd (upd (upd (upd (upd (N.1 149) 55 (-1)) 56 0) 57 (-1)) 61 0) 62 0)) := h.tr ⟨rfl, fun a a1 a2 a3 a4 => sI_ne a1, fun j a1 a2 a3 a4 a5 => (pk_un (by omega)).trans ((pk_un (by omega)).trans ((pk_un (by omega)).trans ((pk_un (by omega)).trans (pk_un (by omega))))), fun a ha j a1 a2 => congrFun (sI_ne (by omega)) j, fun a ha j hj => congrFun (sI_ne (by omega)) j, fun a ha j hj => congrFun (sI_ne (by omega)) j⟩
/-- it blows over the bridge 1, or not -/
theorem qR.bl {M N : Mm} {x : Int32} (h : qR M N) : qR M (sI N 171 (upd (N.1 171) 1 x)) := h.tr ⟨rfl, fun a a1 a2 a3 a4 => sI_ne (by omega), fun j a1 a2 a3 a4 a5 => rfl, fun a ha j a1 a2 => (by
  by_cases e : a = 171
  · subst e; exact pk_un a1
  · exact congrFun (sI_ne e) j), fun a ha j hj => congrFun (sI_ne (by omega)) j, fun a ha j hj => congrFun (sI_ne (by omega)) j⟩
theorem rvNow {G : Gx} {l : Launch} {ly : Ly} {M N : Mm} {n nw t nf : Nat} {p : P4} {h0 c0 : Int32} {W : Wx} {lw : Nat → (Nat → Int32) × Nat} {s : Sc} {fc fk : Nat → Int32} {x : Int32} {kp : Nat} (hS : RS M n nw t nf p h0 c0 W lw s fc fk) (hq : qR M N) (hm : md N x kp) (hR : RW ly N.2.2) {Q : Qt} (hQ : ∀ K : Mm, Rt M K nw t nf x kp s fc fk → K.1 171 1 = M.1 171 0 → Q none ly K) : Mt G l mX12_copies (2, 0, 0, false) [.ref 149, .int (nI 1), .int (nI 0)] ly N Q := by
  have hS2 := hS.q hq
  refine tX12_copies (p := 1) (q := 0) (nf := nf) (by decide) (by decide) (by decide) hS2.2.2.1.1 hS2.2.2.1.2.1 hS2.2.2.2.1 hR (fun K h => hQ K ⟨hq.tr (h.q (Or.inl rfl) hS2.2.2.1.2.1), hm.eq (h.2.1 149 (by omega)), h.al hS.w6 hS2.2.1, h.ft hS2.2.2.1⟩ ?_)
  rw [h.2.2.1 171 (by omega), pk_us]
  exact hq.2.2.2.1 171 (by omega) 0 (by omega) (by omega)
theorem Rt.ev {M N : Mm} {n nw t nf : Nat} {p : P4} {h0 c0 : Int32} {W : Wx} {lw : Nat → (Nat → Int32) × Nat} {s : Sc} {fc fk : Nat → Int32} {x bl : Int32} {kp : Nat} {fc2 fk2 ca : Nat → Int32} {s2 : Sc} {t2 nf2 : Nat} (hS : RS M n nw t nf p h0 c0 W lw s fc fk) (h : Rt M N nw t2 nf2 x kp s2 fc2 fk2) (hk : kp < 5) (hx : ¬ x = 0) (hx5 : ¬ x = 5) (hx1 : ¬ x = 1) (hca : cas n nf2 c0 fc2 fk2 ca) : EVt (sI N 171 (upd (N.1 171) 1 bl)).1 1 n nw p h0 bl ca W (fun m => valL m (lw kp).1 (lw kp).2) (fun m => valL m (lw 1).1 (lw 1).2) := by
  obtain ⟨h1, h2, h3, h4⟩ := h
  refine EVt.of (N := sI N 171 (upd (N.1 171) 1 bl)) (hS.1.q (h1.bl)) (h2.eq rfl) hk hx hx5 rfl (ftR.cm (nf := nf2) (fc := fc2) (fk := fk2) h4 (by show ¬ N.1 149 55 = 1; rw [h2.1]; exact hx1) (fun c hc => ?_))
  show mn 100 (cmR (N.1 151 3) fc2 fk2 (nI c) nf2) = ca c
  rw [(hS.1.q h1).2.2.2.1]
  exact hca c hc
theorem rvHigh {G : Gx} {l : Launch} {ly : Ly} {M N : Mm} {n nw t nf : Nat} {p : P4} {h0 c0 : Int32} {W : Wx} {lw : Nat → (Nat → Int32) × Nat} {s : Sc} {fc fk : Nat → Int32} {x : Int32} {kp : Nat} {fc2 fk2 ca : Nat → Int32} {s2 : Sc} {t2 nf2 K0 : Nat} (hS : RS M n nw t nf p h0 c0 W lw s fc fk) (h : Rt M N nw t2 nf2 x kp s2 fc2 fk2) (hk : kp < 5) (hx : ¬ x = 0) (hx5 : ¬ x = 5) (hx1 : ¬ x = 1) (hca : cas n nf2 c0 fc2 fk2 ca) (ht : t2 ≤ 9999) (hK : K0 ≤ 1000) (hR : RW ly N.2.2) {Q : Qt} (hQ : ∀ K : Mm, qR M K → md K x kp → Q (some (.int (hgS (TR n nw p h0 0 ca W (fun m => valL m (lw kp).1 (lw kp).2) (fun m => valL m (lw 1).1 (lw 1).2)) s2 n K0))) ly K) : Mt G l mX12_highOf (8, 0, 0, false) [.ref 149, .int (nI K0)] ly N Q :=
  tX12_highOf (M := N) (N := K0) (h.ev hS hk hx hx5 hx1 hca) h.2.1.2.2.1 h.2.2.1 (by omega) hR (fun K f _ => hQ K (h.1.bl.tr f.q) (md.ps (N := sI N 171 (upd (N.1 171) 1 0)) (h.2.1.eq rfl) f))
theorem tX12_highNow {G : Gx} {l : Launch} {ly : Ly} {M N : Mm} {n nw t nf : Nat} {p : P4} {h0 c0 : Int32} {W : Wx} {lw : Nat → (Nat → Int32) × Nat} {s : Sc} {fc fk : Nat → Int32} {ca : Nat → Int32} {K0 : Nat} (hK : K0 ≤ 1000) (hm : md N (-1) 0) (hS : RS M n nw t nf p h0 c0 W lw s fc fk) (hca : cas n nf c0 fc fk ca) (hq : qR M N) (hR : RW ly M.2.2) {Q : Qt} (hQ : ∀ K : Mm, qR M K → md K (-1) 0 → Q (some (.int (hgS (TR n nw p h0 0 ca W (fun m => valL m (lw 0).1 (lw 0).2) (fun m => valL m (lw 1).1 (lw 1).2)) s n K0))) ly K) : Mt G l mX12_highNow (9, 0, 0, false) [.ref 149, .int (nI K0)] ly N Q := by
  refine Mt.of (lv := [some (.ref 149), some (.int (nI K0))]) rfl ?_
  have hRN : RW ly N.2.2 := by rw [hq.1]; exact hR
  refine Rn.aload_n dX12_highNow_0 rfl ?_
  refine Rn.iconstv (v := 1) dX12_highNow_1 ic_1 ?_
  refine Rn.iconstv (v := 0) dX12_highNow_2 ic_0 ?_
  refine Rn.callV2 dX12_highNow_3 vX12_461 (rc149 hRN) (by decide) rfl (rvNow (M := M) (N := N) (x := (-1)) (kp := 0) (Q := fun v0 ly0 K => v0 = none ∧ ly0 = ly ∧ Rt M K nw t nf (-1) 0 s fc fk ∧ K.1 171 1 = M.1 171 0) hS hq hm hRN (fun K a c => ⟨rfl, rfl, a, c⟩)) (by decide) ⟨(Nat.le_of_ble_eq_true rfl), (Nat.le_of_ble_eq_true rfl), (Nat.le_of_ble_eq_true rfl)⟩ (fun h => by cases h) (fun v1 ly1 N1 ⟨q1, q2, hT1, hb1⟩ => ?_)
  rw [q1, q2]
  have hRN1 : RW ly N1.2.2 := by rw [hT1.1.1]; exact hR
  refine Rn.aload_n dX12_highNow_6 rfl ?_
  refine Rn.iload_n dX12_highNow_7 rfl ?_
  refine Rn.callV1 dX12_highNow_8 vX12_477 (rc149 hRN1) (by decide) rfl (rvHigh (M := M) (N := N1) (ca := ca) (s2 := s) (K0 := K0) (kp := 0) (Q := fun v0 ly0 K => v0 = some (.int (hgS (TR n nw p h0 0 ca W (fun m => valL m (lw 0).1 (lw 0).2) (fun m => valL m (lw 1).1 (lw 1).2)) s n K0)) ∧ ly0 = ly ∧ qR M K ∧ md K (-1) 0) hS hT1 (by decide) (by decide) (by decide) (by decide) hca hS.2.2.2.2 (by omega) hRN1 (fun K a c => ⟨rfl, rfl, a, c⟩)) (by decide) ⟨(Nat.le_of_ble_eq_true rfl), (Nat.le_of_ble_eq_true rfl), (Nat.le_of_ble_eq_true rfl)⟩ (fun h => by cases h) (fun v1 ly1 N2 ⟨q1, q2, hq2, hm2⟩ => ?_)
  rw [q1, q2]
  have hRN2 : RW ly N2.2.2 := by rw [hq2.1]; exact hR
  exact Rn.iret (ty := .int) dX12_highNow_11 rfl rfl (hQ N2 hq2 hm2)
