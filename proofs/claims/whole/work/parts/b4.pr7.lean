theorem tri_g {x y z : Int32} {ch w N nw : Nat} (h1 : ch < 6) (h2 : if ch = 3 then w < nw ∧ y = nI w else y = 0) (h3 : N ≤ 64) (h4 : z = nI N) (h5 : x = nI ch ∨ x = nI (6 + ch)) : (0 ≤ x ∧ x ≤ 11) ∧ (0 ≤ z ∧ z ≤ 64) ∧ (if x = 3 ∨ x = 9 then (∃ j : Nat, j < nw ∧ y = nI j) else y = 0) := by
  refine ⟨?_, rgN (a := 0) (b := 64) (Nat.zero_le _) h3 (by decide) h4, ?_⟩
  · rcases h5 with h5 | h5
    · exact rgN (a := 0) (b := 11) (Nat.zero_le _) (by omega) (by decide) h5
    · exact rgN (a := 0) (b := 11) (Nat.zero_le _) (by omega) (by decide) h5
  · by_cases e : ch = 3
    · rw [if_pos e] at h2
      subst e
      rw [if_pos (show x = 3 ∨ x = 9 from h5)]
      exact ⟨w, h2.1, h2.2⟩
    · rw [if_neg e] at h2
      rw [if_neg (fun q => ?_)]
      · exact h2
      · rcases h5 with h5 | h5 <;> rcases q with q | q
        · exact e (nI_inj (b := 3) (by omega) (by decide) (h5.symm.trans q))
        · exact absurd (nI_inj (b := 9) (by omega) (by decide) (h5.symm.trans q)) (by omega)
        · exact absurd (nI_inj (b := 3) (by omega) (by decide) (h5.symm.trans q)) (by omega)
        · exact absurd (nI_inj (b := 9) (by omega) (by decide) (h5.symm.trans q)) (by omega)
theorem itF_c {T T2 : Sc → Sc} (h : T = T2) {s s2 : Sc} (e : s = s2) (N : Nat) : itF (fun _ => T) N s = itF (fun _ => T2) N s2 := by rw [h, e]
theorem valL_0 {m f : Nat → Int32} : valL m f 0 = erL := by
  unfold valL
  rw [show evL m f 0 = some [] from rfl]
theorem TR_TG {M : Mm} {pl n nw : Nat} {p : Pl} {het bl : Int32} {ca : Nat → Int32} : TR n nw (M.1 pl 1, M.1 pl 2, M.1 pl 5, M.1 pl 6) het bl ca (clW M.1 pl) (fun m => valL m (clL M.1 pl p 0).1 (clL M.1 pl p 0).2) (fun m => valL m (clL M.1 pl p 1).1 (clL M.1 pl p 1).2) = TG M.1 pl n nw (fun k => M.1 (pl + 7 + k)) (pl + 18) (p.lw 0).length (pl + 21) (p.lw 1).length het bl 0 ca := rfl
theorem TR_T5 {M : Mm} {pl n nw : Nat} {p : Pl} {het bl : Int32} {ca : Nat → Int32} : TR n nw (M.1 pl 1, M.1 pl 2, M.1 pl 5, M.1 pl 6) het bl ca (clW M.1 pl) (fun m => valL m (clL M.1 pl p 0).1 (clL M.1 pl p 0).2) (fun _ => erL) = TG M.1 pl n nw (fun k => M.1 (pl + 7 + k)) (pl + 18) (p.lw 0).length 144 0 het bl 0 ca := by
  have e : (fun m => valL m (M.1 (144 + 1)) 0) = (fun _ => erL) := funext (fun m => valL_0)
  unfold TG TR
  rw [e]
  rfl
theorem tri_u0 {M : Mm} {pl n nw w w2 N : Nat} {p : Pl} : (triR n nw (M.1 pl 1, M.1 pl 2, M.1 pl 5, M.1 pl 6) (M.1 75 4) (M.1 pl 3) (M.1 90) (clW M.1 pl) (fun m => valL m (clL M.1 pl p 0).1 (clL M.1 pl p 0).2) (fun m => valL m (clL M.1 pl p 1).1 (clL M.1 pl p 1).2) (vS M.1 75) w2 N 0).1 = (triS M pl n nw (p.lw 0).length (p.lw 1).length 1 w N 0).1 := by
  exact (itT_u (fun _ _ e => pas_u e) uE.rf N).1
theorem tri_d0 {M : Mm} {pl n nw w w2 N : Nat} {p : Pl} : (triR n nw (M.1 pl 1, M.1 pl 2, M.1 pl 5, M.1 pl 6) (M.1 75 4) (M.1 pl 3) (M.1 90) (clW M.1 pl) (fun m => valL m (clL M.1 pl p 0).1 (clL M.1 pl p 0).2) (fun m => valL m (clL M.1 pl p 1).1 (clL M.1 pl p 1).2) (vS M.1 75) w2 N 0).2.2.1 = (triS M pl n nw (p.lw 0).length (p.lw 1).length 0 w N 0).2.2.1 := by
  exact congrArg (fun s : Sc => s.2.2.1) (itF_c TR_TG rfl N)
theorem tri_u1 {M : Mm} {pl n nw w w2 N : Nat} {p : Pl} (hc0 : mn 100 (M.1 pl 3) = M.1 pl 3) : (triR n nw (M.1 pl 1, M.1 pl 2, M.1 pl 5, M.1 pl 6) (M.1 75 4) (M.1 pl 3) (M.1 90) (clW M.1 pl) (fun m => valL m (clL M.1 pl p 0).1 (clL M.1 pl p 0).2) (fun m => valL m (clL M.1 pl p 1).1 (clL M.1 pl p 1).2) (vS M.1 75) w2 N 1).1 = (triS M pl n nw (p.lw 0).length (p.lw 1).length 1 w N 1).1 := by
  unfold triR triS
  rw [hc0]
  exact (itT_u (fun _ _ e => pas_u e) uE.rf N).1
theorem tri_d1 {M : Mm} {pl n nw w w2 N : Nat} {p : Pl} (hc0 : mn 100 (M.1 pl 3) = M.1 pl 3) : (triR n nw (M.1 pl 1, M.1 pl 2, M.1 pl 5, M.1 pl 6) (M.1 75 4) (M.1 pl 3) (M.1 90) (clW M.1 pl) (fun m => valL m (clL M.1 pl p 0).1 (clL M.1 pl p 0).2) (fun m => valL m (clL M.1 pl p 1).1 (clL M.1 pl p 1).2) (vS M.1 75) w2 N 1).2.2.1 = (triS M pl n nw (p.lw 0).length (p.lw 1).length 0 w N 1).2.2.1 := by
  unfold triR triS
  rw [hc0]
  exact congrArg (fun s : Sc => s.2.2.1) (itF_c TR_TG rfl N)
theorem tri_u2 {M : Mm} {pl n nw w w2 N : Nat} {p : Pl} : (triR n nw (M.1 pl 1, M.1 pl 2, M.1 pl 5, M.1 pl 6) (M.1 75 4) (M.1 pl 3) (M.1 90) (clW M.1 pl) (fun m => valL m (clL M.1 pl p 0).1 (clL M.1 pl p 0).2) (fun m => valL m (clL M.1 pl p 1).1 (clL M.1 pl p 1).2) (vS M.1 75) w2 N 2).1 = (triS M pl n nw (p.lw 0).length (p.lw 1).length 1 w N 2).1 := by
  exact (itT_u (fun _ _ e => pas_u e) uE.rf N).1
theorem tri_d2 {M : Mm} {pl n nw w w2 N : Nat} {p : Pl} : (triR n nw (M.1 pl 1, M.1 pl 2, M.1 pl 5, M.1 pl 6) (M.1 75 4) (M.1 pl 3) (M.1 90) (clW M.1 pl) (fun m => valL m (clL M.1 pl p 0).1 (clL M.1 pl p 0).2) (fun m => valL m (clL M.1 pl p 1).1 (clL M.1 pl p 1).2) (vS M.1 75) w2 N 2).2.2.1 = (triS M pl n nw (p.lw 0).length (p.lw 1).length 0 w N 2).2.2.1 := by
  exact congrArg (fun s : Sc => s.2.2.1) (itF_c TR_TG rfl N)
theorem tri_u3 {M : Mm} {pl n nw w w2 N : Nat} {p : Pl} (hw : w2 = w) : (triR n nw (M.1 pl 1, M.1 pl 2, M.1 pl 5, M.1 pl 6) (M.1 75 4) (M.1 pl 3) (M.1 90) (clW M.1 pl) (fun m => valL m (clL M.1 pl p 0).1 (clL M.1 pl p 0).2) (fun m => valL m (clL M.1 pl p 1).1 (clL M.1 pl p 1).2) (vS M.1 75) w2 N 3).1 = (triS M pl n nw (p.lw 0).length (p.lw 1).length 1 w N 3).1 := by
  subst hw
  exact (itT_u (fun _ _ e => pas_u e) uE.rf N).1
theorem tri_d3 {M : Mm} {pl n nw w w2 N : Nat} {p : Pl} (hw : w2 = w) : (triR n nw (M.1 pl 1, M.1 pl 2, M.1 pl 5, M.1 pl 6) (M.1 75 4) (M.1 pl 3) (M.1 90) (clW M.1 pl) (fun m => valL m (clL M.1 pl p 0).1 (clL M.1 pl p 0).2) (fun m => valL m (clL M.1 pl p 1).1 (clL M.1 pl p 1).2) (vS M.1 75) w2 N 3).2.2.1 = (triS M pl n nw (p.lw 0).length (p.lw 1).length 0 w N 3).2.2.1 := by
  subst hw
  exact congrArg (fun s : Sc => s.2.2.1) (itF_c TR_TG rfl N)
theorem tri_u4 {M : Mm} {pl n nw w w2 N : Nat} {p : Pl} : (triR n nw (M.1 pl 1, M.1 pl 2, M.1 pl 5, M.1 pl 6) (M.1 75 4) (M.1 pl 3) (M.1 90) (clW M.1 pl) (fun m => valL m (clL M.1 pl p 0).1 (clL M.1 pl p 0).2) (fun m => valL m (clL M.1 pl p 1).1 (clL M.1 pl p 1).2) (vS M.1 75) w2 N 4).1 = (triS M pl n nw (p.lw 0).length (p.lw 1).length 1 w N 4).1 := by
  exact (itT_u (fun _ _ e => pas_u e) uE.rf N).1
theorem tri_d4 {M : Mm} {pl n nw w w2 N : Nat} {p : Pl} : (triR n nw (M.1 pl 1, M.1 pl 2, M.1 pl 5, M.1 pl 6) (M.1 75 4) (M.1 pl 3) (M.1 90) (clW M.1 pl) (fun m => valL m (clL M.1 pl p 0).1 (clL M.1 pl p 0).2) (fun m => valL m (clL M.1 pl p 1).1 (clL M.1 pl p 1).2) (vS M.1 75) w2 N 4).2.2.1 = (triS M pl n nw (p.lw 0).length (p.lw 1).length 0 w N 4).2.2.1 := by
  exact congrArg (fun s : Sc => s.2.2.1) (itF_c TR_TG rfl N)
theorem tri_u5 {M : Mm} {pl n nw w w2 N : Nat} {p : Pl} : (triR n nw (M.1 pl 1, M.1 pl 2, M.1 pl 5, M.1 pl 6) (M.1 75 4) (M.1 pl 3) (M.1 90) (clW M.1 pl) (fun m => valL m (clL M.1 pl p 0).1 (clL M.1 pl p 0).2) (fun m => valL m (clL M.1 pl p 1).1 (clL M.1 pl p 1).2) (vS M.1 75) w2 N 5).1 = (triS M pl n nw (p.lw 0).length (p.lw 1).length 1 w N 5).1 := by
  exact (itT_u (fun _ _ e => pas_u e) uE.rf N).1
theorem tri_d5 {M : Mm} {pl n nw w w2 N : Nat} {p : Pl} : (triR n nw (M.1 pl 1, M.1 pl 2, M.1 pl 5, M.1 pl 6) (M.1 75 4) (M.1 pl 3) (M.1 90) (clW M.1 pl) (fun m => valL m (clL M.1 pl p 0).1 (clL M.1 pl p 0).2) (fun m => valL m (clL M.1 pl p 1).1 (clL M.1 pl p 1).2) (vS M.1 75) w2 N 5).2.2.1 = (triS M pl n nw (p.lw 0).length (p.lw 1).length 0 w N 5).2.2.1 := by
  exact congrArg (fun s : Sc => s.2.2.1) (itF_c TR_T5 rfl N)
theorem tri_e {M : Mm} {pl n nw w w2 N : Nat} {p : Pl} (hc0 : mn 100 (M.1 pl 3) = M.1 pl 3) (ch : Nat) (hch : ch < 6) (hw : ch = 3 → w2 = w) : gr (triR n nw (M.1 pl 1, M.1 pl 2, M.1 pl 5, M.1 pl 6) (M.1 75 4) (M.1 pl 3) (M.1 90) (clW M.1 pl) (fun m => valL m (clL M.1 pl p 0).1 (clL M.1 pl p 0).2) (fun m => valL m (clL M.1 pl p 1).1 (clL M.1 pl p 1).2) (vS M.1 75) w2 N ch).1 n = gr (triS M pl n nw (p.lw 0).length (p.lw 1).length 1 w N ch).1 n ∧ gr (triR n nw (M.1 pl 1, M.1 pl 2, M.1 pl 5, M.1 pl 6) (M.1 75 4) (M.1 pl 3) (M.1 90) (clW M.1 pl) (fun m => valL m (clL M.1 pl p 0).1 (clL M.1 pl p 0).2) (fun m => valL m (clL M.1 pl p 1).1 (clL M.1 pl p 1).2) (vS M.1 75) w2 N ch).2.2.1 n = gr (triS M pl n nw (p.lw 0).length (p.lw 1).length 0 w N ch).2.2.1 n := by
  rcases (show ch = 0 ∨ ch = 1 ∨ ch = 2 ∨ ch = 3 ∨ ch = 4 ∨ ch = 5 by omega) with rfl | rfl | rfl | rfl | rfl | rfl
  · exact ⟨congrArg (fun f => gr f n) (tri_u0), congrArg (fun f => gr f n) (tri_d0)⟩
  · exact ⟨congrArg (fun f => gr f n) (tri_u1 hc0), congrArg (fun f => gr f n) (tri_d1 hc0)⟩
  · exact ⟨congrArg (fun f => gr f n) (tri_u2), congrArg (fun f => gr f n) (tri_d2)⟩
  · exact ⟨congrArg (fun f => gr f n) (tri_u3 (hw rfl)), congrArg (fun f => gr f n) (tri_d3 (hw rfl))⟩
  · exact ⟨congrArg (fun f => gr f n) (tri_u4), congrArg (fun f => gr f n) (tri_d4)⟩
  · exact ⟨congrArg (fun f => gr f n) (tri_u5), congrArg (fun f => gr f n) (tri_d5)⟩
theorem pr_tried {G : Gx} {l : Launch} {ly : Ly} {M : Mm} {x y z : Int32} (hI : INV ly M) : PrI G l ly mX11_tried mX12_tried [.int x, .int y, .int z] M := by
  obtain ⟨pl, ps, n, A, hC, hR, hP⟩ := hI
  have hX := inv_xs hC hR hP
  have hS := inv_rs hC hR hP
  have hc := inv_cas hC hP
  have hF := inv_hF hC hP
  have hw6 := hP.w6
  have hc0 : mn 100 (M.1 pl 3) = M.1 pl 3 := by
    obtain ⟨a, e, h⟩ := inv_c0 hP
    rw [show M.1 pl 3 = A.p.D 0 3 from hC.2.2.2.2.1.1.2.2.2.1, e, show (100 : Int32) = nI 100 from rfl, mn_nI (by decide) (by omega), if_pos (by omega)]
  have uw : ∀ {ch w w2 : Nat}, (if ch = 3 then w < A.p.ct 0 ∧ y = nI w else y = 0) → (if ch = 3 then w2 < A.p.ct 0 ∧ y = nI w2 else y = 0) → ch = 3 → w2 = w := fun {ch w w2} h1 h2 e => by
    rw [if_pos e] at h1 h2
    exact nI_inj (by omega) (by omega) (h2.2.symm.trans h1.2)
  refine Mt.deep (k1 := 6) (tX11_tried hC.2.2.2.2.2.2.2.2.2.2 hX hF ⟨fun g0 => ?_, fun ch w N a1 a2 a3 e1 N0 q0 => ⟨fun e2 => ?_, fun e2 => ?_⟩⟩) (by decide)
  · exact ⟨rfl, _, rfl, Mt.deep (k1 := 8) (tX12_tried hS hc hR.1 ⟨fun _ K k => ⟨rfl, rfl, INV.qq hC hR hP quX.rf k⟩, fun ch2 w2 N2 b1 b2 b3 f1 K k => ⟨fun f2 => absurd (tri_g b1 b2 b3 f1 (Or.inl f2)) g0, fun f2 => absurd (tri_g b1 b2 b3 f1 (Or.inr f2)) g0⟩⟩) (by decide)⟩
  · refine ⟨rfl, _, rfl, Mt.deep (k1 := 8) (tX12_tried (hS.qx q0) hc (hR.qx q0).1 ⟨fun g0 K k => absurd (tri_g a1 a2 a3 e1 (Or.inl e2)) g0, fun ch2 w2 N2 b1 b2 b3 f1 K k => ⟨fun f2 => ?_, fun f2 => ?_⟩⟩) (by decide)⟩
    · obtain rfl : ch2 = ch := nI_inj (by omega) (by omega) (f2.symm.trans e2)
      obtain rfl : N2 = N := nI_inj (by omega) (by omega) (f1.symm.trans e1)
      exact ⟨rfl, congrArg (fun z => some (Value.int z)) (tri_e hc0 ch2 b1 (uw a2 b2)).1, INV.qq hC hR hP q0 k⟩
    · exact absurd (nI_inj (by omega) (by omega) (f2.symm.trans e2)) (by omega)
  · refine ⟨rfl, _, rfl, Mt.deep (k1 := 8) (tX12_tried (hS.qx q0) hc (hR.qx q0).1 ⟨fun g0 K k => absurd (tri_g a1 a2 a3 e1 (Or.inr e2)) g0, fun ch2 w2 N2 b1 b2 b3 f1 K k => ⟨fun f2 => ?_, fun f2 => ?_⟩⟩) (by decide)⟩
    · exact absurd (nI_inj (by omega) (by omega) (f2.symm.trans e2)) (by omega)
    · obtain rfl : ch2 = ch := by have w : 6 + ch2 = 6 + ch := nI_inj (by omega) (by omega) (f2.symm.trans e2); omega
      obtain rfl : N2 = N := nI_inj (by omega) (by omega) (f1.symm.trans e1)
      exact ⟨rfl, congrArg (fun z => some (Value.int z)) (tri_e hc0 ch2 b1 (uw a2 b2)).2, INV.qq hC hR hP q0 k⟩
