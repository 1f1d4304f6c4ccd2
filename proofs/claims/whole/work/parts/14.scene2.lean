theorem fJ7_fill {G : Gx} {l : Launch} {ly : Ly} {M : Mm} {a N : Nat} {v : Int32} (ha : ly[a]? = some (.inl (0, N))) (hN : N < 2 ^ 31) : Mt G l mJ7_fill_53178 (1, 0, 0, false) [.ref a, .int v] ly M (fun v0 ly0 M0 => v0 = none ∧ ly0 = ly ∧ ∃ I : Nat → Nat → Int32, M0 = (I, M.2.1, M.2.2) ∧ (∀ k, k < a ∨ a < k → I k = M.1 k) ∧ I a = pre N (fun _ => v) (M.1 a)) := by
  refine Mt.post (tJ7_fill ha hN) (fun v ly' M' h => ?_)
  obtain ⟨rfl, rfl, rfl⟩ := h
  refine ⟨rfl, rfl, _, rfl, fun k hk => ?_, ?_⟩
  · exact sI_ne (by omega)
  · exact sI_at _ _ _
theorem fX10_rest {G : Gx} {l : Launch} {ly : Ly} {M : Mm} {a : Nat} (hS : iSway ly M a) : Mt G l mX10_rest (2, 0, 0, false) [.ref a] ly M (fun v0 ly0 M0 => v0 = none ∧ ly0 = ly ∧ ∃ I : Nat → Nat → Int32, M0 = (I, M.2.1, M.2.2) ∧ (∀ k, k < a + 1 ∨ a + 3 < k → I k = M.1 k) ∧ I (a + 1) = pre 12 (fun _ => 0) (M.1 (a + 1)) ∧ I (a + 2) = pre 12 (fun _ => 0) (M.1 (a + 2)) ∧ I (a + 3) = pre 12 (fun _ => 0) (M.1 (a + 3))) := by
  refine Mt.post (tX10_rest hS) (fun v ly' M' h => ?_)
  obtain ⟨rfl, rfl, rfl⟩ := h
  refine ⟨rfl, rfl, _, rfl, fun k hk => ?_, ?_, ?_, ?_⟩
  · exact (sI_ne (by omega)).trans ((sI_ne (by omega)).trans (sI_ne (by omega)))
  · exact (sI_ne (by omega)).trans ((sI_ne (by omega)).trans (sI_at _ _ _))
  · exact (sI_ne (by omega)).trans (sI_at _ _ _)
  · exact sI_at _ _ _
theorem fX10_copy {G : Gx} {l : Launch} {ly : Ly} {M : Mm} {a c : Nat} (hS : iSway ly M a) (hT : iSway ly M c) (hac : a + 3 < c ∨ c + 3 < a) : Mt G l mX10_copy (2, 0, 0, false) [.ref a, .ref c] ly M (fun v0 ly0 M0 => v0 = none ∧ ly0 = ly ∧ ∃ I : Nat → Nat → Int32, M0 = (I, M.2.1, M.2.2) ∧ (∀ k, k < a + 1 ∨ a + 3 < k → I k = M.1 k) ∧ I (a + 1) = pre 12 (M.1 (c + 1)) (M.1 (a + 1)) ∧ I (a + 2) = pre 12 (M.1 (c + 2)) (M.1 (a + 2)) ∧ I (a + 3) = pre 12 (M.1 (c + 3)) (M.1 (a + 3))) := by
  refine Mt.post (tX10_copy hS hT hac) (fun v ly' M' h => ?_)
  obtain ⟨rfl, rfl, rfl⟩ := h
  refine ⟨rfl, rfl, _, rfl, fun k hk => ?_, ?_, ?_, ?_⟩
  · exact (sI_ne (by omega)).trans ((sI_ne (by omega)).trans (sI_ne (by omega)))
  · exact (sI_ne (by omega)).trans ((sI_ne (by omega)).trans (sI_at _ _ _))
  · exact (sI_ne (by omega)).trans (sI_at _ _ _)
  · exact sI_at _ _ _
theorem fX10_move {G : Gx} {l : Launch} {ly : Ly} {M : Mm} {a q n : Nat} {s : Int32} (hS : iSway ly M a) (hq : ly[q]? = some (.inl (0, 12))) (hqa : q < a + 1 ∨ a + 3 < q) (hn : n ≤ 12) : Mt G l mX10_move (3, 0, 0, false) [.ref a, .int (nI n), .int s, .ref q] ly M (fun v0 ly0 M0 => v0 = none ∧ ly0 = ly ∧ ∃ I : Nat → Nat → Int32, M0 = (I, M.2.1, M.2.2) ∧ (∀ k, k < a + 1 ∨ a + 3 < k → I k = M.1 k) ∧ I (a + 1) = pre n (nou (M.1 (a + 1)) (M.1 (a + 2)) (M.1 (a + 3)) (M.1 q) s n) (M.1 (a + 1)) ∧ I (a + 2) = pre n (nsp (M.1 (a + 1)) (M.1 (a + 2)) (M.1 (a + 3)) (M.1 q) s n) (M.1 (a + 2)) ∧ I (a + 3) = pre n (fun _ => 0) (M.1 (a + 3))) := by
  refine Mt.post (tX10_move hS hq hqa hn) (fun v ly' M' h => ?_)
  obtain ⟨rfl, rfl, rfl⟩ := h
  refine ⟨rfl, rfl, _, rfl, fun k hk => ?_, ?_, ?_, ?_⟩
  · exact (sI_ne (by omega)).trans ((sI_ne (by omega)).trans (sI_ne (by omega)))
  · exact sI_at _ _ _
  · exact (sI_ne (by omega)).trans ((sI_ne (by omega)).trans (sI_at _ _ _))
  · exact (sI_ne (by omega)).trans (sI_at _ _ _)
theorem fX2_add {G : Gx} {l : Launch} {ly : Ly} {M : Mm} {a k : Nat} {x y : Int32} (hS : iFats ly M a) (hk : M.1 a 0 = nI k) (hk8 : k < 8) : Mt G l mX2_add (1, 0, 0, false) [.ref a, .int x, .int y] ly M (fun v0 ly0 M0 => v0 = none ∧ ly0 = ly ∧ ∃ I : Nat → Nat → Int32, M0 = (I, M.2.1, M.2.2) ∧ (∀ k, k < a ∨ a + 2 < k → I k = M.1 k) ∧ I a = upd (M.1 a) 0 (nI (k + 1)) ∧ I (a + 1) = upd (M.1 (a + 1)) k x ∧ I (a + 2) = upd (M.1 (a + 2)) k y) := by
  refine Mt.post (tX2_add hS hk hk8) (fun v ly' M' h => ?_)
  obtain ⟨rfl, rfl, rfl⟩ := h
  refine ⟨rfl, rfl, _, rfl, fun k hk => ?_, ?_, ?_, ?_⟩
  · exact (sI_ne (by omega)).trans ((sI_ne (by omega)).trans (sI_ne (by omega)))
  · exact sI_at _ _ _
  · exact (sI_ne (by omega)).trans ((sI_ne (by omega)).trans (sI_at _ _ _))
  · exact (sI_ne (by omega)).trans (sI_at _ _ _)
theorem fX2_copy {G : Gx} {l : Launch} {ly : Ly} {M : Mm} {a c : Nat} (hS : iFats ly M a) (hT : iFats ly M c) (hac : a + 2 < c ∨ c + 2 < a) : Mt G l mX2_copy (1, 0, 0, false) [.ref a, .ref c] ly M (fun v0 ly0 M0 => v0 = none ∧ ly0 = ly ∧ ∃ I : Nat → Nat → Int32, M0 = (I, M.2.1, M.2.2) ∧ (∀ k, k < a ∨ a + 2 < k → I k = M.1 k) ∧ I a = upd (M.1 a) 0 (M.1 c 0) ∧ I (a + 1) = pre 8 (M.1 (c + 1)) (M.1 (a + 1)) ∧ I (a + 2) = pre 8 (M.1 (c + 2)) (M.1 (a + 2))) := by
  refine Mt.post (tX2_copy hS hT hac) (fun v ly' M' h => ?_)
  obtain ⟨rfl, rfl, rfl⟩ := h
  refine ⟨rfl, rfl, _, rfl, fun k hk => ?_, ?_, ?_, ?_⟩
  · exact (sI_ne (by omega)).trans ((sI_ne (by omega)).trans (sI_ne (by omega)))
  · exact (sI_ne (by omega)).trans ((sI_ne (by omega)).trans (sI_at _ _ _))
  · exact (sI_ne (by omega)).trans (sI_at _ _ _)
  · exact sI_at _ _ _
theorem in_up {f : Nat → Int32} {n N : Nat} {x : Int32} (hx : vp_in x N) (h : ∀ i, i < n → vp_in (f i) N) {i : Nat} (hi : i < n + 1) : vp_in (upd f n x i) N := by
  by_cases e : i = n
  · subst e; rw [pk_us]; exact hx
  · rw [pk_un e]; exact h i (by omega)
theorem mx0_pred {n : Nat} (h : n < 2 ^ 31) : mx 0 (nI n - 1) = nI (n - 1) := by
  cases n with
  | zero => decide
  | succ n =>
    rw [nI_pred]
    unfold mx
    cases n with
    | zero => decide
    | succ n => exact if_pos (by rw [← nI_0]; exact nI_lt (by omega) (by omega))
theorem tX9_rest {G : Gx} {l : Launch} {ly : Ly} {M : Mm} {a : Nat} (hS : iScene ly M a) {Q : Qt} (hQ : ∀ I : Nat → Nat → Int32, (∀ k, k < a ∨ a + 11 < k → I k = M.1 k) → I (a + 1) = M.1 (a + 1) → I (a + 5) = M.1 (a + 5) → I a = upd (upd (M.1 a) 7 0) 14 0 → I (a + 2) = pre 12 (fun _ => 0) (M.1 (a + 2)) → I (a + 3) = pre 12 (fun _ => 0) (M.1 (a + 3)) → I (a + 4) = pre 12 (fun _ => 0) (M.1 (a + 4)) → I (a + 6) = pre 12 (fun _ => 0) (M.1 (a + 6)) → I (a + 7) = pre 12 (fun _ => 0) (M.1 (a + 7)) → I (a + 8) = pre 12 (fun _ => 0) (M.1 (a + 8)) → I (a + 9) = pre 6 (fun _ => 0) (M.1 (a + 9)) → I (a + 10) = pre 6 (fun _ => 0) (M.1 (a + 10)) → I (a + 11) = pre 6 (fun _ => 0) (M.1 (a + 11)) → Q none ly (I, M.2.1, M.2.2)) : Mt G l mX9_rest (3, 0, 0, false) [.ref a] ly M Q := by
  obtain ⟨s0, s1, s2, s3, s4, s5, s6, s7, s8, s9, s10, s11, s12, s13, s14, s15, s16, e0_5, e0_6, e0_8, e0_9, e0_10, e0_11, e0_12, e0_13, e1_0, e1_1, e1_2, e5_0, e5_1, e5_2, e12_1, e12_2⟩ := hS
  refine Mt.of (lv := [some (.ref a)]) rfl ?_
  refine Rn.aload_n dX9_rest_0 rfl ?_
  refine Rn.getR dX9_rest_1 fX9_12 rfl s0 e0_5 ?_
  refine Rn.callV0 dX9_rest_4 vX9_97 s1 (by decide) rfl (fX10_rest ⟨s1, s2, s3, s4, e1_0, e1_1, e1_2⟩) (by decide) ⟨(Nat.le_of_ble_eq_true rfl), (Nat.le_of_ble_eq_true rfl), (Nat.le_of_ble_eq_true rfl)⟩ (fun h => by cases h) (fun v1 ly1 M1 ⟨q1, q2, I1, q3, fr1, w1_0, w1_1, w1_2⟩ => ?_)
  rw [q1, q2, q3]
  show Rn G l mX9_rest (3, 0, 0, false) 7 [some (.ref a)] [] ly (I1, M.2.1, M.2.2) Q
  refine Rn.aload_n dX9_rest_7 rfl ?_
  refine Rn.getR dX9_rest_8 fX9_18 rfl s0 e0_6 ?_
  refine Rn.callV0 dX9_rest_11 vX9_97 s5 (by decide) rfl (fX10_rest ⟨s5, s6, s7, s8, e5_0, e5_1, e5_2⟩) (by decide) ⟨(Nat.le_of_ble_eq_true rfl), (Nat.le_of_ble_eq_true rfl), (Nat.le_of_ble_eq_true rfl)⟩ (fun h => by cases h) (fun v1 ly1 M1 ⟨q1, q2, I2, q3, fr2, w2_0, w2_1, w2_2⟩ => ?_)
  rw [q1, q2, q3]
  show Rn G l mX9_rest (3, 0, 0, false) 14 [some (.ref a)] [] ly (I2, M.2.1, M.2.2) Q
  refine Rn.aload_n dX9_rest_14 rfl ?_
  refine Rn.iconstv (v := 0) dX9_rest_15 ic_0 ?_
  refine Rn.putI dX9_rest_16 fX9_98 rfl rfl rfl s0 ?_
  refine Rn.meq (M2 := sI (I2, M.2.1, M.2.2) a (upd (M.1 a) 7 0)) (congrArg (fun r9 => sI (I2, M.2.1, M.2.2) a (upd r9 7 0)) ((fr2 a (by omega)).trans (fr1 a (by omega)))) ?_
  refine Rn.aload_n dX9_rest_19 rfl ?_
  refine Rn.getR dX9_rest_20 fX9_21 rfl s0 e0_8 ?_
  refine Rn.iconstv (v := 0) dX9_rest_23 ic_0 ?_
  refine Rn.callS2 dX9_rest_24 vX9_101 (fJ7_fill s9 (by decide)) (by decide) ⟨(Nat.le_of_ble_eq_true rfl), (Nat.le_of_ble_eq_true rfl), (Nat.le_of_ble_eq_true rfl)⟩ (fun h => by cases h) (fun v1 ly1 M1 ⟨q1, q2, I3, q3, fr3, w3_0⟩ => ?_)
  rw [q1, q2, q3]
  show Rn G l mX9_rest (3, 0, 0, false) 27 [some (.ref a)] [] ly (I3, M.2.1, M.2.2) Q
  refine Rn.aload_n dX9_rest_27 rfl ?_
  refine Rn.getR dX9_rest_28 fX9_25 rfl s0 e0_9 ?_
  refine Rn.iconstv (v := 0) dX9_rest_31 ic_0 ?_
  refine Rn.callS2 dX9_rest_32 vX9_101 (fJ7_fill s10 (by decide)) (by decide) ⟨(Nat.le_of_ble_eq_true rfl), (Nat.le_of_ble_eq_true rfl), (Nat.le_of_ble_eq_true rfl)⟩ (fun h => by cases h) (fun v1 ly1 M1 ⟨q1, q2, I4, q3, fr4, w4_0⟩ => ?_)
  rw [q1, q2, q3]
  show Rn G l mX9_rest (3, 0, 0, false) 35 [some (.ref a)] [] ly (I4, M.2.1, M.2.2) Q
  refine Rn.aload_n dX9_rest_35 rfl ?_
  refine Rn.getR dX9_rest_36 fX9_28 rfl s0 e0_10 ?_
  refine Rn.iconstv (v := 0) dX9_rest_39 ic_0 ?_
  refine Rn.callS2 dX9_rest_40 vX9_101 (fJ7_fill s11 (by decide)) (by decide) ⟨(Nat.le_of_ble_eq_true rfl), (Nat.le_of_ble_eq_true rfl), (Nat.le_of_ble_eq_true rfl)⟩ (fun h => by cases h) (fun v1 ly1 M1 ⟨q1, q2, I5, q3, fr5, w5_0⟩ => ?_)
  rw [q1, q2, q3]
  show Rn G l mX9_rest (3, 0, 0, false) 43 [some (.ref a)] [] ly (I5, M.2.1, M.2.2) Q
  refine Rn.aload_n dX9_rest_43 rfl ?_
  refine Rn.iconstv (v := 0) dX9_rest_44 ic_0 ?_
  refine Rn.putI dX9_rest_45 fX9_107 rfl rfl rfl s0 ?_
  refine Rn.meq (M2 := sI (I5, M.2.1, M.2.2) a (upd (upd (M.1 a) 7 0) 14 0)) (congrArg (fun r9 => sI (I5, M.2.1, M.2.2) a (upd r9 14 0)) ((fr5 a (by omega)).trans ((fr4 a (by omega)).trans ((fr3 a (by omega)).trans (sI_at _ _ _))))) ?_
  refine Rn.vret dX9_rest_48 rfl (hQ _ (fun k hk => ?_) ?_ ?_ ?_ ?_ ?_ ?_ ?_ ?_ ?_ ?_ ?_ ?_)
  · exact (sI_ne (by omega)).trans ((fr5 k (by omega)).trans ((fr4 k (by omega)).trans ((fr3 k (by omega)).trans ((sI_ne (by omega)).trans ((fr2 k (by omega)).trans (fr1 k (by omega)))))))
  · exact (sI_ne (show a + 1 ≠ a by omega)).trans ((fr5 (a + 1) (by omega)).trans ((fr4 (a + 1) (by omega)).trans ((fr3 (a + 1) (by omega)).trans ((sI_ne (show a + 1 ≠ a by omega)).trans ((fr2 (a + 1) (by omega)).trans (fr1 (a + 1) (by omega)))))))
  · exact (sI_ne (show a + 5 ≠ a by omega)).trans ((fr5 (a + 5) (by omega)).trans ((fr4 (a + 5) (by omega)).trans ((fr3 (a + 5) (by omega)).trans ((sI_ne (show a + 5 ≠ a by omega)).trans ((fr2 (a + 5) (by omega)).trans (fr1 (a + 5) (by omega)))))))
  · exact sI_at _ _ _
  · exact (sI_ne (show a + 2 ≠ a by omega)).trans ((fr5 (a + 2) (by omega)).trans ((fr4 (a + 2) (by omega)).trans ((fr3 (a + 2) (by omega)).trans ((sI_ne (show a + 2 ≠ a by omega)).trans ((fr2 (a + 2) (by omega)).trans (w1_0))))))
  · exact (sI_ne (show a + 3 ≠ a by omega)).trans ((fr5 (a + 3) (by omega)).trans ((fr4 (a + 3) (by omega)).trans ((fr3 (a + 3) (by omega)).trans ((sI_ne (show a + 3 ≠ a by omega)).trans ((fr2 (a + 3) (by omega)).trans (w1_1))))))
  · exact (sI_ne (show a + 4 ≠ a by omega)).trans ((fr5 (a + 4) (by omega)).trans ((fr4 (a + 4) (by omega)).trans ((fr3 (a + 4) (by omega)).trans ((sI_ne (show a + 4 ≠ a by omega)).trans ((fr2 (a + 4) (by omega)).trans (w1_2))))))
  · exact (sI_ne (show a + 6 ≠ a by omega)).trans ((fr5 (a + 6) (by omega)).trans ((fr4 (a + 6) (by omega)).trans ((fr3 (a + 6) (by omega)).trans ((sI_ne (show a + 6 ≠ a by omega)).trans ((w2_0).trans (congrArg (fun r9 => pre 12 (fun _ => 0) r9) (fr1 (a + 6) (by omega))))))))
  · exact (sI_ne (show a + 7 ≠ a by omega)).trans ((fr5 (a + 7) (by omega)).trans ((fr4 (a + 7) (by omega)).trans ((fr3 (a + 7) (by omega)).trans ((sI_ne (show a + 7 ≠ a by omega)).trans ((w2_1).trans (congrArg (fun r9 => pre 12 (fun _ => 0) r9) (fr1 (a + 7) (by omega))))))))
  · exact (sI_ne (show a + 8 ≠ a by omega)).trans ((fr5 (a + 8) (by omega)).trans ((fr4 (a + 8) (by omega)).trans ((fr3 (a + 8) (by omega)).trans ((sI_ne (show a + 8 ≠ a by omega)).trans ((w2_2).trans (congrArg (fun r9 => pre 12 (fun _ => 0) r9) (fr1 (a + 8) (by omega))))))))
  · exact (sI_ne (show a + 9 ≠ a by omega)).trans ((fr5 (a + 9) (by omega)).trans ((fr4 (a + 9) (by omega)).trans ((w3_0).trans (congrArg (fun r9 => pre 6 (fun _ => 0) r9) ((sI_ne (show a + 9 ≠ a by omega)).trans ((fr2 (a + 9) (by omega)).trans (fr1 (a + 9) (by omega))))))))
  · exact (sI_ne (show a + 10 ≠ a by omega)).trans ((fr5 (a + 10) (by omega)).trans ((w4_0).trans (congrArg (fun r9 => pre 6 (fun _ => 0) r9) ((fr3 (a + 10) (by omega)).trans ((sI_ne (show a + 10 ≠ a by omega)).trans ((fr2 (a + 10) (by omega)).trans (fr1 (a + 10) (by omega))))))))
  · exact (sI_ne (show a + 11 ≠ a by omega)).trans ((w5_0).trans (congrArg (fun r9 => pre 6 (fun _ => 0) r9) ((fr4 (a + 11) (by omega)).trans ((fr3 (a + 11) (by omega)).trans ((sI_ne (show a + 11 ≠ a by omega)).trans ((fr2 (a + 11) (by omega)).trans (fr1 (a + 11) (by omega))))))))
/-- the calm of all cells, of the first i who are fat -/
def rfC (c0 : Int32) (fc fk g : Nat → Int32) : Nat → Nat → Int32
  | 0 => pre 12 (fun _ => c0) g
  | i + 1 => upd (rfC c0 fc fk g i) (fc i).toNatClampNeg (mn 100 (rfC c0 fc fk g i (fc i).toNatClampNeg + fk i))
theorem tX9_refreshCalm {G : Gx} {l : Launch} {ly : Ly} {M : Mm} {a p n : Nat} (hS : iScene ly M a) (h0 : M.2.2 a 0 = some p) (hp : ly[p]? = some (.inr 7)) (hpa : p < a ∨ a + 16 < p) (hn : M.1 (a + 12) 0 = nI n) (hn8 : n ≤ 8) (hcs : ∀ i, i < n → vp_in (M.1 (a + 13) i) 12) : Mt G l mX9_refreshCalm (2, 0, 0, false) [.ref a] ly M (Is none ly (sI M (a + 15) (rfC (M.1 p 3) (M.1 (a + 13)) (M.1 (a + 14)) (M.1 (a + 15)) n))) := by
  obtain ⟨s0, s1, s2, s3, s4, s5, s6, s7, s8, s9, s10, s11, s12, s13, s14, s15, s16, e0_5, e0_6, e0_8, e0_9, e0_10, e0_11, e0_12, e0_13, e1_0, e1_1, e1_2, e5_0, e5_1, e5_2, e12_1, e12_2⟩ := hS
  refine Mt.is (fun Q hQ => ?_)
  refine Mt.of (lv := [some (.ref a), none, none]) rfl ?_
  refine Rn.aload_n dX9_refreshCalm_0 rfl ?_
  refine Rn.getR dX9_refreshCalm_1 fX9_38 rfl s0 e0_12 ?_
  refine Rn.aload_n dX9_refreshCalm_4 rfl ?_
  refine Rn.getR dX9_refreshCalm_5 fX9_48 rfl s0 h0 ?_
  refine Rn.getI dX9_refreshCalm_8 fX9_132 rfl hp ?_
  refine Rn.callS2 dX9_refreshCalm_11 vX9_101 (tJ7_fill s15 (by decide)) (by decide) ⟨(Nat.le_of_ble_eq_true rfl), (Nat.le_of_ble_eq_true rfl), (Nat.le_of_ble_eq_true rfl)⟩ (fun h => by cases h) (fun v1 ly1 M1 ⟨q1, q2, q3⟩ => ?_)
  rw [q1, q2, q3]
  show Rn G l mX9_refreshCalm (2, 0, 0, false) 14 [some (.ref a), none, none] [] ly (sI M (a + 15) (rfC (M.1 p 3) (M.1 (a + 13)) (M.1 (a + 14)) (M.1 (a + 15)) 0)) Q
  refine Rn.iconstv (v := 0) dX9_refreshCalm_14 ic_0 ?_
  refine Rn.istore_n (lv' := [some (.ref a), some (.int 0), none]) dX9_refreshCalm_15 (by decide) rfl ?_
  have loop : ∀ (k i : Nat) , i + k = n → Rn G l mX9_refreshCalm (2, 0, 0, false) 16 [some (.ref a), some (.int (nI i)), none] [] ly (sI M (a + 15) (rfC (M.1 p 3) (M.1 (a + 13)) (M.1 (a + 14)) (M.1 (a + 15)) i)) Q := by
    intro k
    induction k with
    | zero =>
      intro i  hi 
      refine Rn.iload_n dX9_refreshCalm_16 rfl ?_
      refine Rn.aload_n dX9_refreshCalm_17 rfl ?_
      refine Rn.getR dX9_refreshCalm_18 fX9_34 rfl s0 e0_11 ?_
      refine Rn.getI dX9_refreshCalm_21 fX9_123 rfl s12 ?_
      refine Rn.topI (y := M.1 (a + 12) 0) ((congrFun (sI_ne (show a + 12 ≠ a + 15 by omega)) 0)) ?_
      refine Rn.topI (y := nI n) (hn) ?_
      refine Rn.icmp_ge dX9_refreshCalm_24 (fun hc => ?_) (fun hc => ?_)
      · skip
        have hi : i = n := by omega
        subst hi
        exact Rn.vret dX9_refreshCalm_70 rfl hQ
      · exact absurd (nI_le (a := n) (b := i) (by omega) (by omega)) hc
    | succ k ih =>
      intro i  hi 
      refine Rn.iload_n dX9_refreshCalm_16 rfl ?_
      refine Rn.aload_n dX9_refreshCalm_17 rfl ?_
      refine Rn.getR dX9_refreshCalm_18 fX9_34 rfl s0 e0_11 ?_
      refine Rn.getI dX9_refreshCalm_21 fX9_123 rfl s12 ?_
      refine Rn.topI (y := M.1 (a + 12) 0) ((congrFun (sI_ne (show a + 12 ≠ a + 15 by omega)) 0)) ?_
      refine Rn.topI (y := nI n) (hn) ?_
      refine Rn.icmp_ge dX9_refreshCalm_24 (fun hc => ?_) (fun hc => ?_)
      · exact absurd hc (nI_ge (a := i) (b := n) (by omega) (by omega))
      · skip
        refine Rn.aload_n dX9_refreshCalm_27 rfl ?_
        refine Rn.getR dX9_refreshCalm_28 fX9_34 rfl s0 e0_11 ?_
        refine Rn.getR dX9_refreshCalm_31 fX9_134 rfl s12 e12_1 ?_
        refine Rn.iload_n dX9_refreshCalm_34 rfl ?_
        refine Rn.ialdN (k0 := i) dX9_refreshCalm_35 s13 (by omega) (by decide) ?_
        refine Rn.topI (y := M.1 (a + 13) i) ((congrFun (sI_ne (show a + 13 ≠ a + 15 by omega)) i)) ?_
        refine Rn.istore_n (lv' := [some (.ref a), some (.int (nI i)), some (.int (M.1 (a + 13) i))]) dX9_refreshCalm_36 (by decide) rfl ?_
        refine Rn.aload_n dX9_refreshCalm_37 rfl ?_
        refine Rn.getR dX9_refreshCalm_38 fX9_38 rfl s0 e0_12 ?_
        refine Rn.iload_n dX9_refreshCalm_41 rfl ?_
        refine Rn.bipushv (v := 100) dX9_refreshCalm_42 bp_100 ?_
        refine Rn.aload_n dX9_refreshCalm_44 rfl ?_
        refine Rn.getR dX9_refreshCalm_45 fX9_38 rfl s0 e0_12 ?_
        refine Rn.iload_n dX9_refreshCalm_48 rfl ?_
        refine Rn.iald dX9_refreshCalm_49 s15 (hcs i (by omega)) ?_
        refine Rn.topI (y := rfC (M.1 p 3) (M.1 (a + 13)) (M.1 (a + 14)) (M.1 (a + 15)) i (Int32.toNatClampNeg (M.1 (a + 13) i))) ((congrFun (sI_at _ _ _) (Int32.toNatClampNeg (M.1 (a + 13) i)))) ?_
        refine Rn.aload_n dX9_refreshCalm_50 rfl ?_
        refine Rn.getR dX9_refreshCalm_51 fX9_34 rfl s0 e0_11 ?_
        refine Rn.getR dX9_refreshCalm_54 fX9_137 rfl s12 e12_2 ?_
        refine Rn.iload_n dX9_refreshCalm_57 rfl ?_
        refine Rn.ialdN (k0 := i) dX9_refreshCalm_58 s14 (by omega) (by decide) ?_
        refine Rn.topI (y := M.1 (a + 14) i) ((congrFun (sI_ne (show a + 14 ≠ a + 15 by omega)) i)) ?_
        refine Rn.iadd dX9_refreshCalm_59 ?_
        refine Rn.mmin dX9_refreshCalm_60 jX9_138 jw_mmin ⟨(Nat.le_of_ble_eq_true rfl), (Nat.le_of_ble_eq_true rfl)⟩ ?_
        refine Rn.iast dX9_refreshCalm_63 s15 (hcs i (by omega)) ?_
        refine Rn.meq (M2 := sI M (a + 15) (upd (rfC (M.1 p 3) (M.1 (a + 13)) (M.1 (a + 14)) (M.1 (a + 15)) i) (Int32.toNatClampNeg (M.1 (a + 13) i)) (mn 100 ((rfC (M.1 p 3) (M.1 (a + 13)) (M.1 (a + 14)) (M.1 (a + 15)) i (Int32.toNatClampNeg (M.1 (a + 13) i))) + (M.1 (a + 14) i))))) ((congrArg (fun r9 => sI (sI M (a + 15) (rfC (M.1 p 3) (M.1 (a + 13)) (M.1 (a + 14)) (M.1 (a + 15)) i)) (a + 15) (upd r9 (Int32.toNatClampNeg (M.1 (a + 13) i)) (mn 100 ((rfC (M.1 p 3) (M.1 (a + 13)) (M.1 (a + 14)) (M.1 (a + 15)) i (Int32.toNatClampNeg (M.1 (a + 13) i))) + (M.1 (a + 14) i))))) (sI_at _ _ _)).trans (sI_sI _ _ _ _)) ?_
        refine Rn.meq (M2 := sI M (a + 15) (rfC (M.1 p 3) (M.1 (a + 13)) (M.1 (a + 14)) (M.1 (a + 15)) (i + 1))) (congrArg (fun r9 => sI M (a + 15) r9) (rfl)) ?_
        refine Rn.iincN (lv' := [some (.ref a), some (.int (nI (i + 1))), some (.int (M.1 (a + 13) i))]) dX9_refreshCalm_64 rfl (by decide) rfl ?_
        refine Rn.goto dX9_refreshCalm_67 ?_
        refine Rn.forget (lv' := [some (.ref a), some (.int (nI (i + 1))), none]) (⟨rfl, ⟨rfl, trivial⟩⟩) ?_
        exact ih (i + 1) (by omega)
  exact loop n 0 (by omega)
theorem tX9_addFat {G : Gx} {l : Launch} {ly : Ly} {M : Mm} {a p n : Nat} {x y : Int32} (hS : iScene ly M a) (h0 : M.2.2 a 0 = some p) (hp : ly[p]? = some (.inr 7)) (hpa : p < a ∨ a + 16 < p) (hn : M.1 (a + 12) 0 = nI n) (hn8 : n < 8) (hx : vp_in x 12) (hc : ∀ i, i < n → vp_in (M.1 (a + 13) i) 12) {Q : Qt} (hQ : ∀ I : Nat → Nat → Int32, (∀ k, k < a + 12 ∨ a + 15 < k → I k = M.1 k) → I (a + 12) = upd (M.1 (a + 12)) 0 (nI (n + 1)) → I (a + 13) = upd (M.1 (a + 13)) n x → I (a + 14) = upd (M.1 (a + 14)) n y → I (a + 15) = rfC (M.1 p 3) (upd (M.1 (a + 13)) n x) (upd (M.1 (a + 14)) n y) (M.1 (a + 15)) (n + 1) → Q none ly (I, M.2.1, M.2.2)) : Mt G l mX9_addFat (3, 0, 0, false) [.ref a, .int x, .int y] ly M Q := by
  have hS0 := hS
  obtain ⟨s0, s1, s2, s3, s4, s5, s6, s7, s8, s9, s10, s11, s12, s13, s14, s15, s16, e0_5, e0_6, e0_8, e0_9, e0_10, e0_11, e0_12, e0_13, e1_0, e1_1, e1_2, e5_0, e5_1, e5_2, e12_1, e12_2⟩ := hS
  refine Mt.of (lv := [some (.ref a), some (.int x), some (.int y)]) rfl ?_
  refine Rn.aload_n dX9_addFat_0 rfl ?_
  refine Rn.getR dX9_addFat_1 fX9_34 rfl s0 e0_11 ?_
  refine Rn.iload_n dX9_addFat_4 rfl ?_
  refine Rn.iload_n dX9_addFat_5 rfl ?_
  refine Rn.callV2 dX9_addFat_6 vX9_119 s12 (by decide) rfl (fX2_add ⟨s12, s13, s14, e12_1, e12_2⟩ hn hn8) (by decide) ⟨(Nat.le_of_ble_eq_true rfl), (Nat.le_of_ble_eq_true rfl), (Nat.le_of_ble_eq_true rfl)⟩ (fun h => by cases h) (fun v1 ly1 M1 ⟨q1, q2, I1, q3, fr1, w1_0, w1_1, w1_2⟩ => ?_)
  rw [q1, q2, q3]
  show Rn G l mX9_addFat (3, 0, 0, false) 9 [some (.ref a), some (.int x), some (.int y)] [] ly (I1, M.2.1, M.2.2) Q
  refine Rn.aload_n dX9_addFat_9 rfl ?_
  refine Rn.callV0 dX9_addFat_10 vX9_91 s0 (by decide) rfl (tX9_refreshCalm (p := p) (n := n + 1) hS0 h0 hp hpa (by show I1 (a + 12) 0 = _; rw [w1_0]; exact pk_us) (by omega) (fun i hi => by show vp_in (I1 (a + 13) i) 12; rw [w1_1]; exact in_up hx hc hi)) (by decide) ⟨(Nat.le_of_ble_eq_true rfl), (Nat.le_of_ble_eq_true rfl), (Nat.le_of_ble_eq_true rfl)⟩ (fun h => by cases h) (fun v1 ly1 M1 ⟨q1, q2, q3⟩ => ?_)
  rw [q1, q2, q3]
  show Rn G l mX9_addFat (3, 0, 0, false) 13 [some (.ref a), some (.int x), some (.int y)] [] ly (sI (I1, M.2.1, M.2.2) (a + 15) (rfC (I1 p 3) (I1 (a + 13)) (I1 (a + 14)) (I1 (a + 15)) (n + 1))) Q
  refine Rn.meq (M2 := sI (I1, M.2.1, M.2.2) (a + 15) (rfC (M.1 p 3) (upd (M.1 (a + 13)) n x) (upd (M.1 (a + 14)) n y) (M.1 (a + 15)) (n + 1))) (congrArg (fun r9 => sI (I1, M.2.1, M.2.2) (a + 15) r9) (by rw [w1_1, w1_2, fr1 p (by omega), fr1 (a + 15) (by omega)])) ?_
  refine Rn.vret dX9_addFat_13 rfl (hQ _ (fun k hk => ?_) ?_ ?_ ?_ ?_)
  · exact (sI_ne (by omega)).trans (fr1 k (by omega))
  · exact (sI_ne (show a + 12 ≠ a + 15 by omega)).trans (w1_0)
  · exact (sI_ne (show a + 13 ≠ a + 15 by omega)).trans (w1_1)
  · exact (sI_ne (show a + 14 ≠ a + 15 by omega)).trans (w1_2)
  · exact sI_at _ _ _
theorem tX9_dropLastFat {G : Gx} {l : Launch} {ly : Ly} {M : Mm} {a p n : Nat} (hS : iScene ly M a) (h0 : M.2.2 a 0 = some p) (hp : ly[p]? = some (.inr 7)) (hpa : p < a ∨ a + 16 < p) (hn : M.1 (a + 12) 0 = nI n) (hn8 : n ≤ 8) (hc : ∀ i, i < n → vp_in (M.1 (a + 13) i) 12) : Mt G l mX9_dropLastFat (3, 0, 0, false) [.ref a] ly M (Is none ly (sI (sI M (a + 12) (upd (M.1 (a + 12)) 0 (nI (n - 1)))) (a + 15) (rfC (M.1 p 3) (M.1 (a + 13)) (M.1 (a + 14)) (M.1 (a + 15)) (n - 1)))) := by
  have hS0 := hS
  obtain ⟨s0, s1, s2, s3, s4, s5, s6, s7, s8, s9, s10, s11, s12, s13, s14, s15, s16, e0_5, e0_6, e0_8, e0_9, e0_10, e0_11, e0_12, e0_13, e1_0, e1_1, e1_2, e5_0, e5_1, e5_2, e12_1, e12_2⟩ := hS
  refine Mt.is (fun Q hQ => ?_)
  refine Mt.of (lv := [some (.ref a)]) rfl ?_
  refine Rn.aload_n dX9_dropLastFat_0 rfl ?_
  refine Rn.getR dX9_dropLastFat_1 fX9_34 rfl s0 e0_11 ?_
  refine Rn.iconstv (v := 0) dX9_dropLastFat_4 ic_0 ?_
  refine Rn.aload_n dX9_dropLastFat_5 rfl ?_
  refine Rn.getR dX9_dropLastFat_6 fX9_34 rfl s0 e0_11 ?_
  refine Rn.getI dX9_dropLastFat_9 fX9_123 rfl s12 ?_
  refine Rn.topI (y := nI n) (hn) ?_
  refine Rn.iconstv (v := 1) dX9_dropLastFat_12 ic_1 ?_
  refine Rn.isub dX9_dropLastFat_13 ?_
  refine Rn.mmax dX9_dropLastFat_14 jX9_126 jw_mmax ⟨(Nat.le_of_ble_eq_true rfl), (Nat.le_of_ble_eq_true rfl)⟩ ?_
  refine Rn.topI (y := nI (n - 1)) (mx0_pred (by omega)) ?_
  refine Rn.putI dX9_dropLastFat_17 fX9_123 rfl rfl rfl s12 ?_
  refine Rn.aload_n dX9_dropLastFat_20 rfl ?_
  refine Rn.callV0 dX9_dropLastFat_21 vX9_91 s0 (by decide) rfl (tX9_refreshCalm (p := p) (n := (n - 1)) hS0 h0 hp hpa (by rw [sI_at]; exact pk_us) (by omega) (fun i hi => by rw [sI_ne (show a + 13 ≠ a + 12 by omega)]; exact hc i (by omega))) (by decide) ⟨(Nat.le_of_ble_eq_true rfl), (Nat.le_of_ble_eq_true rfl), (Nat.le_of_ble_eq_true rfl)⟩ (fun h => by cases h) (fun v1 ly1 M1 ⟨q1, q2, q3⟩ => ?_)
  rw [q1, q2, q3]
  refine Rn.meq (M2 := sI (sI M (a + 12) (upd (M.1 (a + 12)) 0 (nI (n - 1)))) (a + 15) (rfC (M.1 p 3) (M.1 (a + 13)) (M.1 (a + 14)) (M.1 (a + 15)) (n - 1))) (by rw [sI_ne (show p ≠ a + 12 by omega), sI_ne (show a + 13 ≠ a + 12 by omega), sI_ne (show a + 14 ≠ a + 12 by omega), sI_ne (show a + 15 ≠ a + 12 by omega)]) ?_
  exact Rn.vret dX9_dropLastFat_24 rfl hQ
theorem tX9_dropAllFat {G : Gx} {l : Launch} {ly : Ly} {M : Mm} {a p n : Nat} (hS : iScene ly M a) (h0 : M.2.2 a 0 = some p) (hp : ly[p]? = some (.inr 7)) (hpa : p < a ∨ a + 16 < p) (hn : M.1 (a + 12) 0 = nI n) (hn8 : n ≤ 8) (hc : ∀ i, i < n → vp_in (M.1 (a + 13) i) 12) : Mt G l mX9_dropAllFat (3, 0, 0, false) [.ref a] ly M (Is none ly (sI (sI M (a + 12) (upd (M.1 (a + 12)) 0 (nI 0))) (a + 15) (rfC (M.1 p 3) (M.1 (a + 13)) (M.1 (a + 14)) (M.1 (a + 15)) 0))) := by
  have hS0 := hS
  obtain ⟨s0, s1, s2, s3, s4, s5, s6, s7, s8, s9, s10, s11, s12, s13, s14, s15, s16, e0_5, e0_6, e0_8, e0_9, e0_10, e0_11, e0_12, e0_13, e1_0, e1_1, e1_2, e5_0, e5_1, e5_2, e12_1, e12_2⟩ := hS
  refine Mt.is (fun Q hQ => ?_)
  refine Mt.of (lv := [some (.ref a)]) rfl ?_
  refine Rn.aload_n dX9_dropAllFat_0 rfl ?_
  refine Rn.getR dX9_dropAllFat_1 fX9_34 rfl s0 e0_11 ?_
  refine Rn.iconstv (v := 0) dX9_dropAllFat_4 ic_0 ?_
  refine Rn.topI (y := nI 0) (rfl) ?_
  refine Rn.putI dX9_dropAllFat_5 fX9_123 rfl rfl rfl s12 ?_
  refine Rn.aload_n dX9_dropAllFat_8 rfl ?_
  refine Rn.callV0 dX9_dropAllFat_9 vX9_91 s0 (by decide) rfl (tX9_refreshCalm (p := p) (n := 0) hS0 h0 hp hpa (by rw [sI_at]; exact pk_us) (by omega) (fun i hi => by rw [sI_ne (show a + 13 ≠ a + 12 by omega)]; exact hc i (by omega))) (by decide) ⟨(Nat.le_of_ble_eq_true rfl), (Nat.le_of_ble_eq_true rfl), (Nat.le_of_ble_eq_true rfl)⟩ (fun h => by cases h) (fun v1 ly1 M1 ⟨q1, q2, q3⟩ => ?_)
  rw [q1, q2, q3]
  refine Rn.meq (M2 := sI (sI M (a + 12) (upd (M.1 (a + 12)) 0 (nI 0))) (a + 15) (rfC (M.1 p 3) (M.1 (a + 13)) (M.1 (a + 14)) (M.1 (a + 15)) 0)) (by rw [sI_ne (show p ≠ a + 12 by omega), sI_ne (show a + 13 ≠ a + 12 by omega), sI_ne (show a + 14 ≠ a + 12 by omega), sI_ne (show a + 15 ≠ a + 12 by omega)]) ?_
  exact Rn.vret dX9_dropAllFat_12 rfl hQ
