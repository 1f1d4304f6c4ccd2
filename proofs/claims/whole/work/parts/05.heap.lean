
/-- a field's link: from the class own, entry idx: the field j of the class ci -/
def FL (own : String) (idx ci j : Nat) : Prop := ci < 13 ∧ j < NXf ci ∧ Cond.fieldLink own idx (RXf ci) (TXf ci j).2.1 (TXf ci j).2.2.1 ∈ TB ∧ (TXf ci j).1 = RXf ci
theorem Hp.put {G : Gx} {ly : Ly} {M M' : Mm} {s : State} {H H1 : Heap} {locs locs1 : List Loc} {cells : Nat} {ex : Bool} {k : Nat} {e : (Nat × Nat) ⊕ Nat} (h : Hp G ly M s H locs cells ex) (hl : ly[k]? = some e) (hal : Mal M M' k) {x : va_E} (hx : x = eE G M' k e) (hP : va_P G.2.1 vwCl ((wG G ly M).set k (G.1 + k, x)) H1) (hS : va_S (GA G) s.heap H1 locs1) : Hp G ly M' s H1 locs1 cells ex := by
  subst hx
  rw [wG_set hl hal] at hP
  exact ⟨hP, hS, h.2.2⟩
section RNH
variable {G : Gx} {l : Launch} {d : Md} {b : Bq} {pc n : Nat} {lv : List (Option Value)} {st : List Value} {ly : Ly} {M : Mm} {Q : Qt}

theorem Rn.getI {idx ci j a : Nat} (hd : Dc d.2.1 pc n (.getfield idx) 3) (hf : FL d.1.cls idx ci j) (hk : (fcs ci)[j]? = some 0) (ho : ly[a]? = some (.inr ci)) (k : Rn G l d b n lv (.int (M.1 a j) :: st) ly M Q) : Rn G l d b pc lv (.ref a :: st) ly M Q := by
  obtain ⟨hd, rfl⟩ := hd
  obtain ⟨hci, hj, hw, hs⟩ := hf
  obtain ⟨q1, q2, q3, q4, -⟩ := clq_all ci hci
  intro p e R s m args below meth c H locs cells slots ls Z hC hH hB hl hK
  exact va_get hC.hx hC.hb hC.hts q2 hC.hown hC.hK hH.1 a (wG_get ho) q1 j hj (hC.hts _ hw) (fun x h => hs ▸ h) (v := .int (M.1 a j)) (by rw [List.getElem?_mapIdx, hk]; rfl) hd (k p e R s m args below meth c H locs cells slots ls Z hC hH hB hl hK)
theorem Rn.getL {idx ci j a : Nat} (hd : Dc d.2.1 pc n (.getfield idx) 3) (hf : FL d.1.cls idx ci j) (hk : (fcs ci)[j]? = some 1) (ho : ly[a]? = some (.inr ci)) (k : Rn G l d b n lv (.long (M.2.1 a j) :: st) ly M Q) : Rn G l d b pc lv (.ref a :: st) ly M Q := by
  obtain ⟨hd, rfl⟩ := hd
  obtain ⟨hci, hj, hw, hs⟩ := hf
  obtain ⟨q1, q2, q3, q4, -⟩ := clq_all ci hci
  intro p e R s m args below meth c H locs cells slots ls Z hC hH hB hl hK
  exact va_get hC.hx hC.hb hC.hts q2 hC.hown hC.hK hH.1 a (wG_get ho) q1 j hj (hC.hts _ hw) (fun x h => hs ▸ h) (v := .long (M.2.1 a j)) (by rw [List.getElem?_mapIdx, hk]; rfl) hd (k p e R s m args below meth c H locs cells slots ls Z hC hH hB hl hK)
theorem Rn.getR {idx ci j a a2 : Nat} (hd : Dc d.2.1 pc n (.getfield idx) 3) (hf : FL d.1.cls idx ci j) (hk : (fcs ci)[j]? = some 2) (ho : ly[a]? = some (.inr ci)) (hv : M.2.2 a j = some a2) (k : Rn G l d b n lv (.ref a2 :: st) ly M Q) : Rn G l d b pc lv (.ref a :: st) ly M Q := by
  obtain ⟨hd, rfl⟩ := hd
  obtain ⟨hci, hj, hw, hs⟩ := hf
  obtain ⟨q1, q2, q3, q4, -⟩ := clq_all ci hci
  intro p e R s m args below meth c H locs cells slots ls Z hC hH hB hl hK
  exact va_get hC.hx hC.hb hC.hts q2 hC.hown hC.hK hH.1 a (wG_get ho) q1 j hj (hC.hts _ hw) (fun x h => hs ▸ h) (v := .ref (G.1 + a2)) (by rw [List.getElem?_mapIdx, hk]; simp [fE, hv, rG, va_rf]) hd (k p e R s m args below meth c H locs cells slots ls Z hC hH hB hl hK)
theorem nar_ref {ty : FieldType} {a : Nat} (h : ty.toString.length ≠ 1) : narrow ty (va_rf (some a)) = va_rf (some a) := by
  cases ty <;> first | rfl | (exact absurd (by decide) h)
theorem fit_ref {ty : FieldType} {a : Nat} (h : ty.toString.length ≠ 1) : fits ty (va_rf (some a)) = true := by
  cases ty <;> first | rfl | (exact absurd (by decide) h)
theorem Rn.putI {idx ci j a : Nat} {x : Int32} (hd : Dc d.2.1 pc n (.putfield idx) 3) (hf : FL d.1.cls idx ci j) (hk : (fcs ci)[j]? = some 0) (hfin : (TXf ci j).2.2.2 = false) (hty : tyXf ci j = .int) (ho : ly[a]? = some (.inr ci)) (k : Rn G l d b n lv st ly (sI M a (upd (M.1 a) j x)) Q) : Rn G l d b pc lv (.int x :: .ref a :: st) ly M Q := by
  obtain ⟨hd, rfl⟩ := hd
  obtain ⟨hci, hj, hw, hs⟩ := hf
  obtain ⟨q1, q2, q3, q4, q5⟩ := clq_all ci hci
  intro p e R s m args below meth c H locs cells slots ls Z hC hH hB hl hK
  exact va_put hC.hx hC.hb hC.hts q2 (tyXf ci) q3 q4 hC.hown hC.hK hH.1 (wG_D G ly M) hH.2.1 a (wG_get ho) q1 j hj (hC.hts _ hw) (fun x h => hs ▸ h) hfin (v := .int x) (q3 j hj) (by rw [hty]; rfl) (by rw [hty]; rfl) (by rw [List.length_mapIdx, q5]; exact hj) hd (fun H1 locs1 hP _ hS => k p e R s m args below meth c H1 locs1 cells slots ls Z hC (hH.put ho (sI_al _ _ _) (eE_fI hk).symm hP hS) hB hl hK)
theorem Rn.putIF {idx ci j a : Nat} {x : Int32} (hd : Dc d.2.1 pc n (.putfield idx) 3) (hf : FL d.1.cls idx ci j) (hk : (fcs ci)[j]? = some 0) (hfin : (TXf ci j).2.2.2 = true) (hin : d.1.name = "<init>") (hdc : RXf ci = d.1.cls) (hty : tyXf ci j = .int) (ho : ly[a]? = some (.inr ci)) (k : Rn G l d b n lv st ly (sI M a (upd (M.1 a) j x)) Q) : Rn G l d b pc lv (.int x :: .ref a :: st) ly M Q := by
  obtain ⟨hd, rfl⟩ := hd
  obtain ⟨hci, hj, hw, hs⟩ := hf
  obtain ⟨q1, q2, q3, q4, q5⟩ := clq_all ci hci
  intro p e R s m args below meth c H locs cells slots ls Z hC hH hB hl hK
  exact va_putF hC.hx hC.hb hC.hts q2 (tyXf ci) q3 q4 hC.hown hC.hK hH.1 (wG_D G ly M) hH.2.1 a (wG_get ho) q1 j hj (hC.hts _ hw) (fun x h => hs ▸ h) hfin (hC.hnm.trans hin) (hs.trans hdc) (v := .int x) (q3 j hj) (by rw [hty]; rfl) (by rw [hty]; rfl) (by rw [List.length_mapIdx, q5]; exact hj) hd (fun H1 locs1 hP _ hS => k p e R s m args below meth c H1 locs1 cells slots ls Z hC (hH.put ho (sI_al _ _ _) (eE_fI hk).symm hP hS) hB hl hK)
theorem Rn.putZ {idx ci j a : Nat} {x : Int32} (hd : Dc d.2.1 pc n (.putfield idx) 3) (hf : FL d.1.cls idx ci j) (hk : (fcs ci)[j]? = some 0) (hfin : (TXf ci j).2.2.2 = false) (hty : tyXf ci j = .boolean) (hx01 : x = 0 ∨ x = 1) (ho : ly[a]? = some (.inr ci)) (k : Rn G l d b n lv st ly (sI M a (upd (M.1 a) j x)) Q) : Rn G l d b pc lv (.int x :: .ref a :: st) ly M Q := by
  obtain ⟨hd, rfl⟩ := hd
  obtain ⟨hci, hj, hw, hs⟩ := hf
  obtain ⟨q1, q2, q3, q4, q5⟩ := clq_all ci hci
  intro p e R s m args below meth c H locs cells slots ls Z hC hH hB hl hK
  exact va_put hC.hx hC.hb hC.hts q2 (tyXf ci) q3 q4 hC.hown hC.hK hH.1 (wG_D G ly M) hH.2.1 a (wG_get ho) q1 j hj (hC.hts _ hw) (fun x h => hs ▸ h) hfin (v := .int x) (q3 j hj) (by rw [hty]; rcases hx01 with rfl | rfl <;> rfl) (by rw [hty]; rcases hx01 with rfl | rfl <;> rfl) (by rw [List.length_mapIdx, q5]; exact hj) hd (fun H1 locs1 hP _ hS => k p e R s m args below meth c H1 locs1 cells slots ls Z hC (hH.put ho (sI_al _ _ _) (eE_fI hk).symm hP hS) hB hl hK)
theorem Rn.putR {idx ci j a : Nat} {x : Nat} (hd : Dc d.2.1 pc n (.putfield idx) 3) (hf : FL d.1.cls idx ci j) (hk : (fcs ci)[j]? = some 2) (hfin : (TXf ci j).2.2.2 = false) (hty : (tyXf ci j).toString.length ≠ 1) (ho : ly[a]? = some (.inr ci)) (k : Rn G l d b n lv st ly (sR M a (va_up (M.2.2 a) j (some x))) Q) : Rn G l d b pc lv (.ref x :: .ref a :: st) ly M Q := by
  obtain ⟨hd, rfl⟩ := hd
  obtain ⟨hci, hj, hw, hs⟩ := hf
  obtain ⟨q1, q2, q3, q4, q5⟩ := clq_all ci hci
  intro p e R s m args below meth c H locs cells slots ls Z hC hH hB hl hK
  exact va_put hC.hx hC.hb hC.hts q2 (tyXf ci) q3 q4 hC.hown hC.hK hH.1 (wG_D G ly M) hH.2.1 a (wG_get ho) q1 j hj (hC.hts _ hw) (fun x h => hs ▸ h) hfin (v := va_rf (rG G (some x))) (q3 j hj) (nar_ref hty) (fit_ref hty) (by rw [List.length_mapIdx, q5]; exact hj) hd (fun H1 locs1 hP _ hS => k p e R s m args below meth c H1 locs1 cells slots ls Z hC (hH.put ho (sR_al _ _ _) (eE_fR hk).symm hP hS) hB hl hK)
theorem Rn.putRF {idx ci j a : Nat} {x : Nat} (hd : Dc d.2.1 pc n (.putfield idx) 3) (hf : FL d.1.cls idx ci j) (hk : (fcs ci)[j]? = some 2) (hfin : (TXf ci j).2.2.2 = true) (hin : d.1.name = "<init>") (hdc : RXf ci = d.1.cls) (hty : (tyXf ci j).toString.length ≠ 1) (ho : ly[a]? = some (.inr ci)) (k : Rn G l d b n lv st ly (sR M a (va_up (M.2.2 a) j (some x))) Q) : Rn G l d b pc lv (.ref x :: .ref a :: st) ly M Q := by
  obtain ⟨hd, rfl⟩ := hd
  obtain ⟨hci, hj, hw, hs⟩ := hf
  obtain ⟨q1, q2, q3, q4, q5⟩ := clq_all ci hci
  intro p e R s m args below meth c H locs cells slots ls Z hC hH hB hl hK
  exact va_putF hC.hx hC.hb hC.hts q2 (tyXf ci) q3 q4 hC.hown hC.hK hH.1 (wG_D G ly M) hH.2.1 a (wG_get ho) q1 j hj (hC.hts _ hw) (fun x h => hs ▸ h) hfin (hC.hnm.trans hin) (hs.trans hdc) (v := va_rf (rG G (some x))) (q3 j hj) (nar_ref hty) (fit_ref hty) (by rw [List.length_mapIdx, q5]; exact hj) hd (fun H1 locs1 hP _ hS => k p e R s m args below meth c H1 locs1 cells slots ls Z hC (hH.put ho (sR_al _ _ _) (eE_fR hk).symm hP hS) hB hl hK)
theorem Rn.iald {a N : Nat} {i : Int32} (hd : Dc d.2.1 pc n (.iaload) 1) (ho : ly[a]? = some (.inl (0, N))) (hin : vp_in i N) (k : Rn G l d b n lv (.int (M.1 a i.toNatClampNeg) :: st) ly M Q) : Rn G l d b pc lv (.int i :: .ref a :: st) ly M Q := by
  obtain ⟨hd, rfl⟩ := hd
  intro p e R s m args below meth c H locs cells slots ls Z hC hH hB hl hK
  exact va_iald hC.hx hC.hb hC.hK hH.1 a 0 (wG_get ho) rfl hin hd (k p e R s m args below meth c H locs cells slots ls Z hC hH hB hl hK)
theorem Rn.bald {a N : Nat} {i : Int32} (hd : Dc d.2.1 pc n (.baload) 1) (ho : ly[a]? = some (.inl (1, N))) (hin : vp_in i N) (k : Rn G l d b n lv (.int (M.1 a i.toNatClampNeg) :: st) ly M Q) : Rn G l d b pc lv (.int i :: .ref a :: st) ly M Q := by
  obtain ⟨hd, rfl⟩ := hd
  intro p e R s m args below meth c H locs cells slots ls Z hC hH hB hl hK
  exact va_bald hC.hx hC.hb hC.hK hH.1 a 1 (wG_get ho) rfl hin hd (k p e R s m args below meth c H locs cells slots ls Z hC hH hB hl hK)
theorem Rn.zald {a N : Nat} {i : Int32} (hd : Dc d.2.1 pc n (.baload) 1) (ho : ly[a]? = some (.inl (2, N))) (hin : vp_in i N) (k : Rn G l d b n lv (.int (M.1 a i.toNatClampNeg) :: st) ly M Q) : Rn G l d b pc lv (.int i :: .ref a :: st) ly M Q := by
  obtain ⟨hd, rfl⟩ := hd
  intro p e R s m args below meth c H locs cells slots ls Z hC hH hB hl hK
  exact va_zald hC.hx hC.hb hC.hK hH.1 a 2 (wG_get ho) rfl hin hd (k p e R s m args below meth c H locs cells slots ls Z hC hH hB hl hK)
theorem Rn.lald {a N : Nat} {i : Int32} (hd : Dc d.2.1 pc n (.laload) 1) (ho : ly[a]? = some (.inl (3, N))) (hin : vp_in i N) (k : Rn G l d b n lv (.long (M.2.1 a i.toNatClampNeg) :: st) ly M Q) : Rn G l d b pc lv (.int i :: .ref a :: st) ly M Q := by
  obtain ⟨hd, rfl⟩ := hd
  intro p e R s m args below meth c H locs cells slots ls Z hC hH hB hl hK
  exact va_lald hC.hx hC.hb hC.hK hH.1 a 3 (wG_get ho) rfl hin hd (k p e R s m args below meth c H locs cells slots ls Z hC hH hB hl hK)
theorem Rn.iast {a N : Nat} {i : Int32} {x : Int32} (hd : Dc d.2.1 pc n (.iastore) 1) (ho : ly[a]? = some (.inl (0, N))) (hin : vp_in i N) (k : Rn G l d b n lv st ly (sI M a (upd (M.1 a) i.toNatClampNeg x)) Q) : Rn G l d b pc lv (.int x :: .int i :: .ref a :: st) ly M Q := by
  obtain ⟨hd, rfl⟩ := hd
  intro p e R s m args below meth c H locs cells slots ls Z hC hH hB hl hK
  exact va_iast hC.hx hC.hb hC.hK hH.1 (wG_D G ly M) hH.2.1 a 0 (wG_get ho) rfl hin hd (fun H1 locs1 hP _ hS => k p e R s m args below meth c H1 locs1 cells slots ls Z hC (hH.put ho (sI_al _ _ _) (by simp [eE, aE, sI]) hP hS) hB hl hK)
theorem Rn.bast {a N : Nat} {i : Int32} {x : Int32} (hd : Dc d.2.1 pc n (.bastore) 1) (ho : ly[a]? = some (.inl (1, N))) (hin : vp_in i N) (k : Rn G l d b n lv st ly (sI M a (upd (M.1 a) i.toNatClampNeg (vp_nar .byte x))) Q) : Rn G l d b pc lv (.int x :: .int i :: .ref a :: st) ly M Q := by
  obtain ⟨hd, rfl⟩ := hd
  intro p e R s m args below meth c H locs cells slots ls Z hC hH hB hl hK
  exact va_bast hC.hx hC.hb hC.hK hH.1 (wG_D G ly M) hH.2.1 a 1 (wG_get ho) rfl hin hd (fun H1 locs1 hP _ hS => k p e R s m args below meth c H1 locs1 cells slots ls Z hC (hH.put ho (sI_al _ _ _) (by simp [eE, aE, sI]) hP hS) hB hl hK)
theorem Rn.zast {a N : Nat} {i : Int32} {x : Int32} (hd : Dc d.2.1 pc n (.bastore) 1) (ho : ly[a]? = some (.inl (2, N))) (hin : vp_in i N) (k : Rn G l d b n lv st ly (sI M a (upd (M.1 a) i.toNatClampNeg (vp_nar .boolean x))) Q) : Rn G l d b pc lv (.int x :: .int i :: .ref a :: st) ly M Q := by
  obtain ⟨hd, rfl⟩ := hd
  intro p e R s m args below meth c H locs cells slots ls Z hC hH hB hl hK
  exact va_zast hC.hx hC.hb hC.hK hH.1 (wG_D G ly M) hH.2.1 a 2 (wG_get ho) rfl hin hd (fun H1 locs1 hP _ hS => k p e R s m args below meth c H1 locs1 cells slots ls Z hC (hH.put ho (sI_al _ _ _) (by simp [eE, aE, sI]) hP hS) hB hl hK)
theorem Rn.last {a N : Nat} {i : Int32} {x : Int64} (hd : Dc d.2.1 pc n (.lastore) 1) (ho : ly[a]? = some (.inl (3, N))) (hin : vp_in i N) (k : Rn G l d b n lv st ly (sL M a (vp_updL (M.2.1 a) i.toNatClampNeg x)) Q) : Rn G l d b pc lv (.long x :: .int i :: .ref a :: st) ly M Q := by
  obtain ⟨hd, rfl⟩ := hd
  intro p e R s m args below meth c H locs cells slots ls Z hC hH hB hl hK
  exact va_last hC.hx hC.hb hC.hK hH.1 (wG_D G ly M) hH.2.1 a 3 (wG_get ho) rfl hin hd (fun H1 locs1 hP _ hS => k p e R s m args below meth c H1 locs1 cells slots ls Z hC (hH.put ho (sL_al _ _ _) (by simp [eE, aE, sL]) hP hS) hB hl hK)
theorem Rn.alen {a tc N : Nat} (hd : Dc d.2.1 pc n (.arraylength) 1) (ho : ly[a]? = some (.inl (tc, N))) (ht : tc < 6) (k : Rn G l d b n lv (.int (nI N) :: st) ly M Q) : Rn G l d b pc lv (.ref a :: st) ly M Q := by
  obtain ⟨hd, rfl⟩ := hd
  intro p e R s m args below meth c H locs cells slots ls Z hC hH hB hl hK
  have hty : ∃ ty, (tyG G)[tc]? = some (G.2.2.1 tc, ty) := by
    rcases (show tc = 0 ∨ tc = 1 ∨ tc = 2 ∨ tc = 3 ∨ tc = 4 ∨ tc = 5 by omega) with rfl | rfl | rfl | rfl | rfl | rfl <;> exact ⟨_, rfl⟩
  obtain ⟨ty, hty⟩ := hty
  exact va_alen hC.hx hC.hb hC.hK hH.1 a tc (wG_get ho) hty rfl hd (k p e R s m args below meth c H locs cells slots ls Z hC hH hB hl hK)
end RNH
