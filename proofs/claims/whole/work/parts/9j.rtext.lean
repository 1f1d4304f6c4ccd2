def hlI (h i : Nat) (g : Nat → Int32) : Nat → Int32 := fun j => if j < i then g (h + j) else g j
theorem hlI_0 {h : Nat} {g : Nat → Int32} : hlI h 0 g = g := funext (fun j => if_neg (by omega))
theorem hlI_s {h i : Nat} {g : Nat → Int32} (hi : i < h) : upd (hlI h i g) i (hlI h i g (h + i)) = hlI h (i + 1) g := by
  funext j
  by_cases e : j = i
  · subst e
    rw [pk_us]
    unfold hlI
    rw [if_neg (by omega), if_pos (by omega)]
  · rw [pk_un e]
    unfold hlI
    by_cases e2 : j < i
    · rw [if_pos e2, if_pos (by omega)]
    · rw [if_neg e2, if_neg (by omega)]
theorem sI_id (M : Mm) (a : Nat) : sI M a (M.1 a) = M := by
  obtain ⟨I, L, R⟩ := M
  refine Prod.ext ?_ rfl
  funext k
  by_cases e : k = a
  · subst e; exact sI_at _ _ _
  · exact sI_ne e
theorem pre_s {i : Nat} {F g : Nat → Int32} : upd (pre i F g) i (F i) = pre (i + 1) F g := by
  funext j
  by_cases e : j = i
  · subst e; rw [pk_us]; exact (if_pos (by omega)).symm
  · rw [pk_un e]; unfold pre; by_cases e2 : j < i
    · rw [if_pos e2, if_pos (by omega)]
    · rw [if_neg e2, if_neg (by omega)]
theorem hlI_l {h j : Nat} {g : Nat → Int32} (hj : j < h) : hlI h h g j = g (h + j) := if_pos hj
theorem half13 {G : Gx} {l : Launch} {ly : Ly} {M : Mm} {a : Nat} (ha : ly[a]? = some (.inl (0, 26))) : Mt G l mX12_half (0, 0, 0, false) [.ref a] ly M (Is none ly (sI M a (hlI 13 13 (M.1 a)))) := by
  refine Mt.is (fun Q hQ => ?_)
  refine Mt.of (lv := [some (.ref a), none, none]) rfl ?_
  refine Rn.aload_n dX12_half_0 rfl ?_
  refine Rn.alen dX12_half_1 ha (by decide) ?_
  refine Rn.iconstv (v := 2) dX12_half_2 ic_2 ?_
  refine Rn.idiv dX12_half_3 (by decide) ?_
  refine Rn.topI (y := 13) (by decide) ?_
  refine Rn.istore_n (lv' := [some (.ref a), some (.int 13), none]) dX12_half_4 (by decide) rfl ?_
  refine Rn.iconstv (v := 0) dX12_half_5 ic_0 ?_
  refine Rn.istore_n (lv' := [some (.ref a), some (.int 13), some (.int 0)]) dX12_half_6 (by decide) rfl ?_
  have loop : ∀ (k i : Nat), i + k = 13 → Rn G l mX12_half (0, 0, 0, false) 7 [some (.ref a), some (.int 13), some (.int (nI i))] [] ly (sI M a (hlI 13 i (M.1 a))) Q := by
    intro k
    induction k with
    | zero =>
      intro i hi
      refine Rn.iload_n dX12_half_7 rfl ?_
      refine Rn.iload_n dX12_half_8 rfl ?_
      refine Rn.icmp_ge dX12_half_9 (fun hc => ?_) (fun hc => ?_)
      · skip
        have e0 : 13 = i := by omega
        subst e0
        exact Rn.vret dX12_half_26 rfl hQ
      · skip
        exact absurd (nI_le (a := 13) (b := i) (by omega) (by omega)) hc
    | succ k ih =>
      intro i hi
      refine Rn.iload_n dX12_half_7 rfl ?_
      refine Rn.iload_n dX12_half_8 rfl ?_
      refine Rn.icmp_ge dX12_half_9 (fun hc => ?_) (fun hc => ?_)
      · skip
        exact absurd hc (nI_ge (a := i) (b := 13) (by omega) (by omega))
      · skip
        refine Rn.aload_n dX12_half_12 rfl ?_
        refine Rn.iload_n dX12_half_13 rfl ?_
        refine Rn.aload_n dX12_half_14 rfl ?_
        refine Rn.iload_n dX12_half_15 rfl ?_
        refine Rn.iload_n dX12_half_16 rfl ?_
        refine Rn.iadd dX12_half_17 ?_
        refine Rn.topI (y := nI (13 + i)) (nI_add 13 i) ?_
        refine Rn.ialdN (k0 := (13 + i)) dX12_half_18 ha (by omega) (by decide) ?_
        refine Rn.topI (y := hlI 13 i (M.1 a) (13 + i)) ((congrFun (sI_at _ _ _) (13 + i))) ?_
        refine Rn.iastN (k0 := i) dX12_half_19 ha (by omega) (by decide) ?_
        refine Rn.meq (M2 := sI M a (upd (hlI 13 i (M.1 a)) i (hlI 13 i (M.1 a) (13 + i)))) ((congrArg (fun r9 => sI (sI M a (hlI 13 i (M.1 a))) a (upd r9 i (hlI 13 i (M.1 a) (13 + i)))) (sI_at _ _ _)).trans (sI_sI _ _ _ _)) ?_
        refine Rn.meq (M2 := sI M a (hlI 13 (i + 1) (M.1 a))) (congrArg (fun r9 => sI M a r9) (hlI_s (h := 13) (i := i) (by omega))) ?_
        refine Rn.iincN (lv' := [some (.ref a), some (.int 13), some (.int (nI (i + 1)))]) dX12_half_20 rfl (by decide) rfl ?_
        refine Rn.goto dX12_half_23 ?_
        exact ih (i + 1) (by omega)
  refine Rn.meq (M2 := sI M a (hlI 13 0 (M.1 a))) (by rw [hlI_0]; exact (sI_id M a).symm) ?_
  exact loop 13 0 (by omega)
theorem half6 {G : Gx} {l : Launch} {ly : Ly} {M : Mm} {a : Nat} (ha : ly[a]? = some (.inl (0, 12))) : Mt G l mX12_half (0, 0, 0, false) [.ref a] ly M (Is none ly (sI M a (hlI 6 6 (M.1 a)))) := by
  refine Mt.is (fun Q hQ => ?_)
  refine Mt.of (lv := [some (.ref a), none, none]) rfl ?_
  refine Rn.aload_n dX12_half_0 rfl ?_
  refine Rn.alen dX12_half_1 ha (by decide) ?_
  refine Rn.iconstv (v := 2) dX12_half_2 ic_2 ?_
  refine Rn.idiv dX12_half_3 (by decide) ?_
  refine Rn.topI (y := 6) (by decide) ?_
  refine Rn.istore_n (lv' := [some (.ref a), some (.int 6), none]) dX12_half_4 (by decide) rfl ?_
  refine Rn.iconstv (v := 0) dX12_half_5 ic_0 ?_
  refine Rn.istore_n (lv' := [some (.ref a), some (.int 6), some (.int 0)]) dX12_half_6 (by decide) rfl ?_
  have loop : ∀ (k i : Nat), i + k = 6 → Rn G l mX12_half (0, 0, 0, false) 7 [some (.ref a), some (.int 6), some (.int (nI i))] [] ly (sI M a (hlI 6 i (M.1 a))) Q := by
    intro k
    induction k with
    | zero =>
      intro i hi
      refine Rn.iload_n dX12_half_7 rfl ?_
      refine Rn.iload_n dX12_half_8 rfl ?_
      refine Rn.icmp_ge dX12_half_9 (fun hc => ?_) (fun hc => ?_)
      · skip
        have e0 : 6 = i := by omega
        subst e0
        exact Rn.vret dX12_half_26 rfl hQ
      · skip
        exact absurd (nI_le (a := 6) (b := i) (by omega) (by omega)) hc
    | succ k ih =>
      intro i hi
      refine Rn.iload_n dX12_half_7 rfl ?_
      refine Rn.iload_n dX12_half_8 rfl ?_
      refine Rn.icmp_ge dX12_half_9 (fun hc => ?_) (fun hc => ?_)
      · skip
        exact absurd hc (nI_ge (a := i) (b := 6) (by omega) (by omega))
      · skip
        refine Rn.aload_n dX12_half_12 rfl ?_
        refine Rn.iload_n dX12_half_13 rfl ?_
        refine Rn.aload_n dX12_half_14 rfl ?_
        refine Rn.iload_n dX12_half_15 rfl ?_
        refine Rn.iload_n dX12_half_16 rfl ?_
        refine Rn.iadd dX12_half_17 ?_
        refine Rn.topI (y := nI (6 + i)) (nI_add 6 i) ?_
        refine Rn.ialdN (k0 := (6 + i)) dX12_half_18 ha (by omega) (by decide) ?_
        refine Rn.topI (y := hlI 6 i (M.1 a) (6 + i)) ((congrFun (sI_at _ _ _) (6 + i))) ?_
        refine Rn.iastN (k0 := i) dX12_half_19 ha (by omega) (by decide) ?_
        refine Rn.meq (M2 := sI M a (upd (hlI 6 i (M.1 a)) i (hlI 6 i (M.1 a) (6 + i)))) ((congrArg (fun r9 => sI (sI M a (hlI 6 i (M.1 a))) a (upd r9 i (hlI 6 i (M.1 a) (6 + i)))) (sI_at _ _ _)).trans (sI_sI _ _ _ _)) ?_
        refine Rn.meq (M2 := sI M a (hlI 6 (i + 1) (M.1 a))) (congrArg (fun r9 => sI M a r9) (hlI_s (h := 6) (i := i) (by omega))) ?_
        refine Rn.iincN (lv' := [some (.ref a), some (.int 6), some (.int (nI (i + 1)))]) dX12_half_20 rfl (by decide) rfl ?_
        refine Rn.goto dX12_half_23 ?_
        exact ih (i + 1) (by omega)
  refine Rn.meq (M2 := sI M a (hlI 6 0 (M.1 a))) (by rw [hlI_0]; exact (sI_id M a).symm) ?_
  exact loop 6 0 (by omega)
theorem half4 {G : Gx} {l : Launch} {ly : Ly} {M : Mm} {a : Nat} (ha : ly[a]? = some (.inl (0, 8))) : Mt G l mX12_half (0, 0, 0, false) [.ref a] ly M (Is none ly (sI M a (hlI 4 4 (M.1 a)))) := by
  refine Mt.is (fun Q hQ => ?_)
  refine Mt.of (lv := [some (.ref a), none, none]) rfl ?_
  refine Rn.aload_n dX12_half_0 rfl ?_
  refine Rn.alen dX12_half_1 ha (by decide) ?_
  refine Rn.iconstv (v := 2) dX12_half_2 ic_2 ?_
  refine Rn.idiv dX12_half_3 (by decide) ?_
  refine Rn.topI (y := 4) (by decide) ?_
  refine Rn.istore_n (lv' := [some (.ref a), some (.int 4), none]) dX12_half_4 (by decide) rfl ?_
  refine Rn.iconstv (v := 0) dX12_half_5 ic_0 ?_
  refine Rn.istore_n (lv' := [some (.ref a), some (.int 4), some (.int 0)]) dX12_half_6 (by decide) rfl ?_
  have loop : ∀ (k i : Nat), i + k = 4 → Rn G l mX12_half (0, 0, 0, false) 7 [some (.ref a), some (.int 4), some (.int (nI i))] [] ly (sI M a (hlI 4 i (M.1 a))) Q := by
    intro k
    induction k with
    | zero =>
      intro i hi
      refine Rn.iload_n dX12_half_7 rfl ?_
      refine Rn.iload_n dX12_half_8 rfl ?_
      refine Rn.icmp_ge dX12_half_9 (fun hc => ?_) (fun hc => ?_)
      · skip
        have e0 : 4 = i := by omega
        subst e0
        exact Rn.vret dX12_half_26 rfl hQ
      · skip
        exact absurd (nI_le (a := 4) (b := i) (by omega) (by omega)) hc
    | succ k ih =>
      intro i hi
      refine Rn.iload_n dX12_half_7 rfl ?_
      refine Rn.iload_n dX12_half_8 rfl ?_
      refine Rn.icmp_ge dX12_half_9 (fun hc => ?_) (fun hc => ?_)
      · skip
        exact absurd hc (nI_ge (a := i) (b := 4) (by omega) (by omega))
      · skip
        refine Rn.aload_n dX12_half_12 rfl ?_
        refine Rn.iload_n dX12_half_13 rfl ?_
        refine Rn.aload_n dX12_half_14 rfl ?_
        refine Rn.iload_n dX12_half_15 rfl ?_
        refine Rn.iload_n dX12_half_16 rfl ?_
        refine Rn.iadd dX12_half_17 ?_
        refine Rn.topI (y := nI (4 + i)) (nI_add 4 i) ?_
        refine Rn.ialdN (k0 := (4 + i)) dX12_half_18 ha (by omega) (by decide) ?_
        refine Rn.topI (y := hlI 4 i (M.1 a) (4 + i)) ((congrFun (sI_at _ _ _) (4 + i))) ?_
        refine Rn.iastN (k0 := i) dX12_half_19 ha (by omega) (by decide) ?_
        refine Rn.meq (M2 := sI M a (upd (hlI 4 i (M.1 a)) i (hlI 4 i (M.1 a) (4 + i)))) ((congrArg (fun r9 => sI (sI M a (hlI 4 i (M.1 a))) a (upd r9 i (hlI 4 i (M.1 a) (4 + i)))) (sI_at _ _ _)).trans (sI_sI _ _ _ _)) ?_
        refine Rn.meq (M2 := sI M a (hlI 4 (i + 1) (M.1 a))) (congrArg (fun r9 => sI M a r9) (hlI_s (h := 4) (i := i) (by omega))) ?_
        refine Rn.iincN (lv' := [some (.ref a), some (.int 4), some (.int (nI (i + 1)))]) dX12_half_20 rfl (by decide) rfl ?_
        refine Rn.goto dX12_half_23 ?_
        exact ih (i + 1) (by omega)
  refine Rn.meq (M2 := sI M a (hlI 4 0 (M.1 a))) (by rw [hlI_0]; exact (sI_id M a).symm) ?_
  exact loop 4 0 (by omega)
theorem half3 {G : Gx} {l : Launch} {ly : Ly} {M : Mm} {a : Nat} (ha : ly[a]? = some (.inl (0, 6))) : Mt G l mX12_half (0, 0, 0, false) [.ref a] ly M (Is none ly (sI M a (hlI 3 3 (M.1 a)))) := by
  refine Mt.is (fun Q hQ => ?_)
  refine Mt.of (lv := [some (.ref a), none, none]) rfl ?_
  refine Rn.aload_n dX12_half_0 rfl ?_
  refine Rn.alen dX12_half_1 ha (by decide) ?_
  refine Rn.iconstv (v := 2) dX12_half_2 ic_2 ?_
  refine Rn.idiv dX12_half_3 (by decide) ?_
  refine Rn.topI (y := 3) (by decide) ?_
  refine Rn.istore_n (lv' := [some (.ref a), some (.int 3), none]) dX12_half_4 (by decide) rfl ?_
  refine Rn.iconstv (v := 0) dX12_half_5 ic_0 ?_
  refine Rn.istore_n (lv' := [some (.ref a), some (.int 3), some (.int 0)]) dX12_half_6 (by decide) rfl ?_
  have loop : ∀ (k i : Nat), i + k = 3 → Rn G l mX12_half (0, 0, 0, false) 7 [some (.ref a), some (.int 3), some (.int (nI i))] [] ly (sI M a (hlI 3 i (M.1 a))) Q := by
    intro k
    induction k with
    | zero =>
      intro i hi
      refine Rn.iload_n dX12_half_7 rfl ?_
      refine Rn.iload_n dX12_half_8 rfl ?_
      refine Rn.icmp_ge dX12_half_9 (fun hc => ?_) (fun hc => ?_)
      · skip
        have e0 : 3 = i := by omega
        subst e0
        exact Rn.vret dX12_half_26 rfl hQ
      · skip
        exact absurd (nI_le (a := 3) (b := i) (by omega) (by omega)) hc
    | succ k ih =>
      intro i hi
      refine Rn.iload_n dX12_half_7 rfl ?_
      refine Rn.iload_n dX12_half_8 rfl ?_
      refine Rn.icmp_ge dX12_half_9 (fun hc => ?_) (fun hc => ?_)
      · skip
        exact absurd hc (nI_ge (a := i) (b := 3) (by omega) (by omega))
      · skip
        refine Rn.aload_n dX12_half_12 rfl ?_
        refine Rn.iload_n dX12_half_13 rfl ?_
        refine Rn.aload_n dX12_half_14 rfl ?_
        refine Rn.iload_n dX12_half_15 rfl ?_
        refine Rn.iload_n dX12_half_16 rfl ?_
        refine Rn.iadd dX12_half_17 ?_
        refine Rn.topI (y := nI (3 + i)) (nI_add 3 i) ?_
        refine Rn.ialdN (k0 := (3 + i)) dX12_half_18 ha (by omega) (by decide) ?_
        refine Rn.topI (y := hlI 3 i (M.1 a) (3 + i)) ((congrFun (sI_at _ _ _) (3 + i))) ?_
        refine Rn.iastN (k0 := i) dX12_half_19 ha (by omega) (by decide) ?_
        refine Rn.meq (M2 := sI M a (upd (hlI 3 i (M.1 a)) i (hlI 3 i (M.1 a) (3 + i)))) ((congrArg (fun r9 => sI (sI M a (hlI 3 i (M.1 a))) a (upd r9 i (hlI 3 i (M.1 a) (3 + i)))) (sI_at _ _ _)).trans (sI_sI _ _ _ _)) ?_
        refine Rn.meq (M2 := sI M a (hlI 3 (i + 1) (M.1 a))) (congrArg (fun r9 => sI M a r9) (hlI_s (h := 3) (i := i) (by omega))) ?_
        refine Rn.iincN (lv' := [some (.ref a), some (.int 3), some (.int (nI (i + 1)))]) dX12_half_20 rfl (by decide) rfl ?_
        refine Rn.goto dX12_half_23 ?_
        exact ih (i + 1) (by omega)
  refine Rn.meq (M2 := sI M a (hlI 3 0 (M.1 a))) (by rw [hlI_0]; exact (sI_id M a).symm) ?_
  exact loop 3 0 (by omega)
theorem half5 {G : Gx} {l : Launch} {ly : Ly} {M : Mm} {a : Nat} (ha : ly[a]? = some (.inl (0, 10))) : Mt G l mX12_half (0, 0, 0, false) [.ref a] ly M (Is none ly (sI M a (hlI 5 5 (M.1 a)))) := by
  refine Mt.is (fun Q hQ => ?_)
  refine Mt.of (lv := [some (.ref a), none, none]) rfl ?_
  refine Rn.aload_n dX12_half_0 rfl ?_
  refine Rn.alen dX12_half_1 ha (by decide) ?_
  refine Rn.iconstv (v := 2) dX12_half_2 ic_2 ?_
  refine Rn.idiv dX12_half_3 (by decide) ?_
  refine Rn.topI (y := 5) (by decide) ?_
  refine Rn.istore_n (lv' := [some (.ref a), some (.int 5), none]) dX12_half_4 (by decide) rfl ?_
  refine Rn.iconstv (v := 0) dX12_half_5 ic_0 ?_
  refine Rn.istore_n (lv' := [some (.ref a), some (.int 5), some (.int 0)]) dX12_half_6 (by decide) rfl ?_
  have loop : ∀ (k i : Nat), i + k = 5 → Rn G l mX12_half (0, 0, 0, false) 7 [some (.ref a), some (.int 5), some (.int (nI i))] [] ly (sI M a (hlI 5 i (M.1 a))) Q := by
    intro k
    induction k with
    | zero =>
      intro i hi
      refine Rn.iload_n dX12_half_7 rfl ?_
      refine Rn.iload_n dX12_half_8 rfl ?_
      refine Rn.icmp_ge dX12_half_9 (fun hc => ?_) (fun hc => ?_)
      · skip
        have e0 : 5 = i := by omega
        subst e0
        exact Rn.vret dX12_half_26 rfl hQ
      · skip
        exact absurd (nI_le (a := 5) (b := i) (by omega) (by omega)) hc
    | succ k ih =>
      intro i hi
      refine Rn.iload_n dX12_half_7 rfl ?_
      refine Rn.iload_n dX12_half_8 rfl ?_
      refine Rn.icmp_ge dX12_half_9 (fun hc => ?_) (fun hc => ?_)
      · skip
        exact absurd hc (nI_ge (a := i) (b := 5) (by omega) (by omega))
      · skip
        refine Rn.aload_n dX12_half_12 rfl ?_
        refine Rn.iload_n dX12_half_13 rfl ?_
        refine Rn.aload_n dX12_half_14 rfl ?_
        refine Rn.iload_n dX12_half_15 rfl ?_
        refine Rn.iload_n dX12_half_16 rfl ?_
        refine Rn.iadd dX12_half_17 ?_
        refine Rn.topI (y := nI (5 + i)) (nI_add 5 i) ?_
        refine Rn.ialdN (k0 := (5 + i)) dX12_half_18 ha (by omega) (by decide) ?_
        refine Rn.topI (y := hlI 5 i (M.1 a) (5 + i)) ((congrFun (sI_at _ _ _) (5 + i))) ?_
        refine Rn.iastN (k0 := i) dX12_half_19 ha (by omega) (by decide) ?_
        refine Rn.meq (M2 := sI M a (upd (hlI 5 i (M.1 a)) i (hlI 5 i (M.1 a) (5 + i)))) ((congrArg (fun r9 => sI (sI M a (hlI 5 i (M.1 a))) a (upd r9 i (hlI 5 i (M.1 a) (5 + i)))) (sI_at _ _ _)).trans (sI_sI _ _ _ _)) ?_
        refine Rn.meq (M2 := sI M a (hlI 5 (i + 1) (M.1 a))) (congrArg (fun r9 => sI M a r9) (hlI_s (h := 5) (i := i) (by omega))) ?_
        refine Rn.iincN (lv' := [some (.ref a), some (.int 5), some (.int (nI (i + 1)))]) dX12_half_20 rfl (by decide) rfl ?_
        refine Rn.goto dX12_half_23 ?_
        exact ih (i + 1) (by omega)
  refine Rn.meq (M2 := sI M a (hlI 5 0 (M.1 a))) (by rw [hlI_0]; exact (sI_id M a).symm) ?_
  exact loop 5 0 (by omega)
theorem half64 {G : Gx} {l : Launch} {ly : Ly} {M : Mm} {a : Nat} (ha : ly[a]? = some (.inl (0, 128))) : Mt G l mX12_half (0, 0, 0, false) [.ref a] ly M (Is none ly (sI M a (hlI 64 64 (M.1 a)))) := by
  refine Mt.is (fun Q hQ => ?_)
  refine Mt.of (lv := [some (.ref a), none, none]) rfl ?_
  refine Rn.aload_n dX12_half_0 rfl ?_
  refine Rn.alen dX12_half_1 ha (by decide) ?_
  refine Rn.iconstv (v := 2) dX12_half_2 ic_2 ?_
  refine Rn.idiv dX12_half_3 (by decide) ?_
  refine Rn.topI (y := 64) (by decide) ?_
  refine Rn.istore_n (lv' := [some (.ref a), some (.int 64), none]) dX12_half_4 (by decide) rfl ?_
  refine Rn.iconstv (v := 0) dX12_half_5 ic_0 ?_
  refine Rn.istore_n (lv' := [some (.ref a), some (.int 64), some (.int 0)]) dX12_half_6 (by decide) rfl ?_
  have loop : ∀ (k i : Nat), i + k = 64 → Rn G l mX12_half (0, 0, 0, false) 7 [some (.ref a), some (.int 64), some (.int (nI i))] [] ly (sI M a (hlI 64 i (M.1 a))) Q := by
    intro k
    induction k with
    | zero =>
      intro i hi
      refine Rn.iload_n dX12_half_7 rfl ?_
      refine Rn.iload_n dX12_half_8 rfl ?_
      refine Rn.icmp_ge dX12_half_9 (fun hc => ?_) (fun hc => ?_)
      · skip
        have e0 : 64 = i := by omega
        subst e0
        exact Rn.vret dX12_half_26 rfl hQ
      · skip
        exact absurd (nI_le (a := 64) (b := i) (by omega) (by omega)) hc
    | succ k ih =>
      intro i hi
      refine Rn.iload_n dX12_half_7 rfl ?_
      refine Rn.iload_n dX12_half_8 rfl ?_
      refine Rn.icmp_ge dX12_half_9 (fun hc => ?_) (fun hc => ?_)
      · skip
        exact absurd hc (nI_ge (a := i) (b := 64) (by omega) (by omega))
      · skip
        refine Rn.aload_n dX12_half_12 rfl ?_
        refine Rn.iload_n dX12_half_13 rfl ?_
        refine Rn.aload_n dX12_half_14 rfl ?_
        refine Rn.iload_n dX12_half_15 rfl ?_
        refine Rn.iload_n dX12_half_16 rfl ?_
        refine Rn.iadd dX12_half_17 ?_
        refine Rn.topI (y := nI (64 + i)) (nI_add 64 i) ?_
        refine Rn.ialdN (k0 := (64 + i)) dX12_half_18 ha (by omega) (by decide) ?_
        refine Rn.topI (y := hlI 64 i (M.1 a) (64 + i)) ((congrFun (sI_at _ _ _) (64 + i))) ?_
        refine Rn.iastN (k0 := i) dX12_half_19 ha (by omega) (by decide) ?_
        refine Rn.meq (M2 := sI M a (upd (hlI 64 i (M.1 a)) i (hlI 64 i (M.1 a) (64 + i)))) ((congrArg (fun r9 => sI (sI M a (hlI 64 i (M.1 a))) a (upd r9 i (hlI 64 i (M.1 a) (64 + i)))) (sI_at _ _ _)).trans (sI_sI _ _ _ _)) ?_
        refine Rn.meq (M2 := sI M a (hlI 64 (i + 1) (M.1 a))) (congrArg (fun r9 => sI M a r9) (hlI_s (h := 64) (i := i) (by omega))) ?_
        refine Rn.iincN (lv' := [some (.ref a), some (.int 64), some (.int (nI (i + 1)))]) dX12_half_20 rfl (by decide) rfl ?_
        refine Rn.goto dX12_half_23 ?_
        exact ih (i + 1) (by omega)
  refine Rn.meq (M2 := sI M a (hlI 64 0 (M.1 a))) (by rw [hlI_0]; exact (sI_id M a).symm) ?_
  exact loop 64 0 (by omega)
/-- the reference's plan, when it has been read -/
def RLo (I : Nat → Nat → Int32) (p : Pl) : Prop := (∀ k, k < 6 ∨ k = 10 ∨ k = 11 → I 151 k = p.D 0 k) ∧ (∀ k, k < 4 → I 151 (6 + k) = nI (p.ct k)) ∧ (∀ r, 1 ≤ r → r ≤ 13 → ∀ j, j < p.ct (knD r) → (r = 9 → p.D 8 j = 0) → I (rCl r) j = p.D r j) ∧ (∀ k, k < 5 → ∃ f0, I 165 k = nI f0 ∧ I 166 k = nI (f0 + (p.lw k).length) ∧ f0 + (p.lw k).length ≤ p.c ∧ ∀ kn, lsR kn (p.lw k) → ∀ i, i < (p.lw k).length → knR (kn i) (I 167 (f0 + i)) (I 168 (f0 + i))) ∧ (∀ k, k < 5 → p.lw k = [] ∨ arL (p.lw k) = some 1) ∧ I 151 12 = nI p.c
theorem knE.ls {a b kn : Nat → Int32} {k0 : Nat} : ∀ (e : List Int32), knE a b k0 e → lsR kn e → ∀ i, i < e.length → knR (kn i) (a (64 + (k0 + i))) (b (64 + (k0 + i)))
  | [], _, _, i, hi => absurd hi (by exact Nat.not_lt_zero i)
  | x :: e, h, g, i, hi => by
    by_cases ei : i = e.length
    · subst ei; rw [g.1]; exact h.1
    · exact knE.ls e h.2 g.2 i (by rw [List.length_cons] at hi; omega)
theorem RPl.low {M K : Mm} {p : Pl} (h : RPl M p) (hct : ctOk p) (h151 : K.1 151 = hlI 13 13 (M.1 151)) (h6 : ∀ a, 152 ≤ a → a ≤ 157 → K.1 a = hlI 6 6 (M.1 a)) (h4 : ∀ a, 158 ≤ a → a ≤ 163 → K.1 a = hlI 4 4 (M.1 a)) (h3 : K.1 164 = hlI 3 3 (M.1 164)) (h5 : K.1 165 = hlI 5 5 (M.1 165) ∧ K.1 166 = hlI 5 5 (M.1 166)) (h64 : K.1 167 = hlI 64 64 (M.1 167) ∧ K.1 168 = hlI 64 64 (M.1 168)) : RLo K.1 p := by
  obtain ⟨g1, g2, g3, g4, g5⟩ := h
  obtain ⟨c0, c1, c2, c3, c4, _⟩ := hct
  refine ⟨fun k hk => by rw [h151, hlI_l (by omega)]; exact g1 k hk, fun k hk => by rw [h151, hlI_l (by omega), show 13 + (6 + k) = 19 + k by omega]; exact g2 k hk, fun r r1 r2 j hj h9 => ?_, fun k hk => ?_, fun k hk => (g5 k hk).elim (fun f0 h => h.2.2.2.2), by rw [h151, hlI_l (by omega)]; exact g3⟩
  · have e := g4 r r1 r2 j hj h9
    match r, r1, r2 with
    | 1, _, _ => show K.1 152 j = _; rw [h6 152 (by decide) (by decide), hlI_l (show j < 6 from Nat.lt_of_lt_of_le hj c0)]; exact e
    | 2, _, _ => show K.1 158 j = _; rw [h4 158 (by decide) (by decide), hlI_l (show j < 4 from Nat.lt_of_lt_of_le hj c1)]; exact e
    | 3, _, _ => show K.1 161 j = _; rw [h4 161 (by decide) (by decide), hlI_l (show j < 4 from Nat.lt_of_lt_of_le hj c2)]; exact e
    | 4, _, _ => show K.1 164 j = _; rw [h3, hlI_l (show j < 3 from Nat.lt_of_lt_of_le hj c3)]; exact e
    | 5, _, _ => show K.1 153 j = _; rw [h6 153 (by decide) (by decide), hlI_l (show j < 6 from Nat.lt_of_lt_of_le hj c0)]; exact e
    | 6, _, _ => show K.1 154 j = _; rw [h6 154 (by decide) (by decide), hlI_l (show j < 6 from Nat.lt_of_lt_of_le hj c0)]; exact e
    | 7, _, _ => show K.1 155 j = _; rw [h6 155 (by decide) (by decide), hlI_l (show j < 6 from Nat.lt_of_lt_of_le hj c0)]; exact e
    | 8, _, _ => show K.1 156 j = _; rw [h6 156 (by decide) (by decide), hlI_l (show j < 6 from Nat.lt_of_lt_of_le hj c0)]; exact e
    | 9, _, _ => show K.1 157 j = _; rw [h6 157 (by decide) (by decide), hlI_l (show j < 6 from Nat.lt_of_lt_of_le hj c0)]; exact e
    | 10, _, _ => show K.1 159 j = _; rw [h4 159 (by decide) (by decide), hlI_l (show j < 4 from Nat.lt_of_lt_of_le hj c1)]; exact e
    | 11, _, _ => show K.1 160 j = _; rw [h4 160 (by decide) (by decide), hlI_l (show j < 4 from Nat.lt_of_lt_of_le hj c1)]; exact e
    | 12, _, _ => show K.1 162 j = _; rw [h4 162 (by decide) (by decide), hlI_l (show j < 4 from Nat.lt_of_lt_of_le hj c2)]; exact e
    | 13, _, _ => show K.1 163 j = _; rw [h4 163 (by decide) (by decide), hlI_l (show j < 4 from Nat.lt_of_lt_of_le hj c2)]; exact e
  · obtain ⟨f0, a1, a2, a3, a4, _⟩ := g5 k hk
    refine ⟨f0, by rw [h5.1, hlI_l hk]; exact a1, by rw [h5.2, hlI_l hk]; exact a2, a3, fun kn hkn i hi => ?_⟩
    rw [h64.1, h64.2, hlI_l (by omega), hlI_l (by omega)]
    exact knE.ls _ a4 hkn i hi
theorem lnF_lt {f : Nat → Int32} {n i j : Nat} {p p2 : Pl} (hby : byA f n) (hi : i ≤ n) (hj : j ≤ n) (h : lnF (kdF f n) (nvF f n) (nx f n) p i = .inl (p2, j)) : i < j := by
  unfold lnF at h
  cases g : lnC (kdF f n) (nvF f n) (nx f n) p i with
  | inr x => rw [g] at h; cases h
  | inl x =>
    obtain ⟨p3, j0⟩ := x
    rw [g] at h
    have h2 : (if kdF f n j0 = 37 then (.inl (p3, nx f n j0) : Rs) else .inr (1, j0)) = .inl (p2, j) := h
    by_cases e : kdF f n j0 = 37
    · rw [if_pos e] at h2
      cases h2
      have h3 := lnC_le hby hi g
      have h4 := nx_mono hby j0
      have h5 := nx_lt hby (show j0 ≤ n by omega) (fun g => by rw [e] at g; exact absurd g (by decide))
      omega
    · rw [if_neg e] at h2; cases h2
def hvS (l : List (Nat × Nat)) (M : Mm) : Mm := l.foldl (fun M q => sI M q.1 (hlI q.2 q.2 (M.1 q.1))) M
theorem hvS_app {l : List (Nat × Nat)} {q : Nat × Nat} {M : Mm} : hvS (l ++ [q]) M = sI (hvS l M) q.1 (hlI q.2 q.2 ((hvS l M).1 q.1)) := by unfold hvS; rw [List.foldl_append]; rfl
theorem hvS_cons {l : List (Nat × Nat)} {q : Nat × Nat} {M : Mm} : hvS (q :: l) M = hvS l (sI M q.1 (hlI q.2 q.2 (M.1 q.1))) := rfl
theorem hvS_ne {a : Nat} : ∀ (l : List (Nat × Nat)) (M : Mm), (∀ q ∈ l, a ≠ q.1) → (hvS l M).1 a = M.1 a
  | [], M, _ => rfl
  | q :: l, M, h => by rw [hvS_cons, hvS_ne l _ (fun r hr => h r (List.mem_cons_of_mem _ hr))]; exact sI_ne (h q (List.mem_cons_self ..))
theorem hvS_r : ∀ (l : List (Nat × Nat)) (M : Mm), (hvS l M).2.2 = M.2.2
  | [], M => rfl
  | q :: l, M => by rw [hvS_cons, hvS_r l]; rfl
theorem hvS_at {c h : Nat} {M : Mm} (l1 l2 : List (Nat × Nat)) (h1 : ∀ q ∈ l1, c ≠ q.1) (h2 : ∀ q ∈ l2, c ≠ q.1) : (hvS (l1 ++ (c, h) :: l2) M).1 c = hlI h h (M.1 c) := by
  have e : hvS (l1 ++ (c, h) :: l2) M = hvS l2 (sI (hvS l1 M) c (hlI h h ((hvS l1 M).1 c))) := by unfold hvS; rw [List.foldl_append]; rfl
  rw [e, hvS_ne l2 _ h2, sI_at, hvS_ne l1 M h1]
def l18 : List (Nat × Nat) := [(151, 13), (152, 6), (153, 6), (154, 6), (155, 6), (156, 6), (157, 6), (158, 4), (159, 4), (160, 4), (161, 4), (162, 4), (163, 4), (164, 3), (165, 5), (166, 5), (167, 64), (168, 64)]
theorem hv151 {M : Mm} : (hvS l18 M).1 151 = hlI 13 13 (M.1 151) := hvS_at [] [(152, 6), (153, 6), (154, 6), (155, 6), (156, 6), (157, 6), (158, 4), (159, 4), (160, 4), (161, 4), (162, 4), (163, 4), (164, 3), (165, 5), (166, 5), (167, 64), (168, 64)] (by decide) (by decide)
theorem hv152 {M : Mm} : (hvS l18 M).1 152 = hlI 6 6 (M.1 152) := hvS_at [(151, 13)] [(153, 6), (154, 6), (155, 6), (156, 6), (157, 6), (158, 4), (159, 4), (160, 4), (161, 4), (162, 4), (163, 4), (164, 3), (165, 5), (166, 5), (167, 64), (168, 64)] (by decide) (by decide)
theorem hv153 {M : Mm} : (hvS l18 M).1 153 = hlI 6 6 (M.1 153) := hvS_at [(151, 13), (152, 6)] [(154, 6), (155, 6), (156, 6), (157, 6), (158, 4), (159, 4), (160, 4), (161, 4), (162, 4), (163, 4), (164, 3), (165, 5), (166, 5), (167, 64), (168, 64)] (by decide) (by decide)
theorem hv154 {M : Mm} : (hvS l18 M).1 154 = hlI 6 6 (M.1 154) := hvS_at [(151, 13), (152, 6), (153, 6)] [(155, 6), (156, 6), (157, 6), (158, 4), (159, 4), (160, 4), (161, 4), (162, 4), (163, 4), (164, 3), (165, 5), (166, 5), (167, 64), (168, 64)] (by decide) (by decide)
theorem hv155 {M : Mm} : (hvS l18 M).1 155 = hlI 6 6 (M.1 155) := hvS_at [(151, 13), (152, 6), (153, 6), (154, 6)] [(156, 6), (157, 6), (158, 4), (159, 4), (160, 4), (161, 4), (162, 4), (163, 4), (164, 3), (165, 5), (166, 5), (167, 64), (168, 64)] (by decide) (by decide)
theorem hv156 {M : Mm} : (hvS l18 M).1 156 = hlI 6 6 (M.1 156) := hvS_at [(151, 13), (152, 6), (153, 6), (154, 6), (155, 6)] [(157, 6), (158, 4), (159, 4), (160, 4), (161, 4), (162, 4), (163, 4), (164, 3), (165, 5), (166, 5), (167, 64), (168, 64)] (by decide) (by decide)
theorem hv157 {M : Mm} : (hvS l18 M).1 157 = hlI 6 6 (M.1 157) := hvS_at [(151, 13), (152, 6), (153, 6), (154, 6), (155, 6), (156, 6)] [(158, 4), (159, 4), (160, 4), (161, 4), (162, 4), (163, 4), (164, 3), (165, 5), (166, 5), (167, 64), (168, 64)] (by decide) (by decide)
theorem hv158 {M : Mm} : (hvS l18 M).1 158 = hlI 4 4 (M.1 158) := hvS_at [(151, 13), (152, 6), (153, 6), (154, 6), (155, 6), (156, 6), (157, 6)] [(159, 4), (160, 4), (161, 4), (162, 4), (163, 4), (164, 3), (165, 5), (166, 5), (167, 64), (168, 64)] (by decide) (by decide)
theorem hv159 {M : Mm} : (hvS l18 M).1 159 = hlI 4 4 (M.1 159) := hvS_at [(151, 13), (152, 6), (153, 6), (154, 6), (155, 6), (156, 6), (157, 6), (158, 4)] [(160, 4), (161, 4), (162, 4), (163, 4), (164, 3), (165, 5), (166, 5), (167, 64), (168, 64)] (by decide) (by decide)
theorem hv160 {M : Mm} : (hvS l18 M).1 160 = hlI 4 4 (M.1 160) := hvS_at [(151, 13), (152, 6), (153, 6), (154, 6), (155, 6), (156, 6), (157, 6), (158, 4), (159, 4)] [(161, 4), (162, 4), (163, 4), (164, 3), (165, 5), (166, 5), (167, 64), (168, 64)] (by decide) (by decide)
theorem hv161 {M : Mm} : (hvS l18 M).1 161 = hlI 4 4 (M.1 161) := hvS_at [(151, 13), (152, 6), (153, 6), (154, 6), (155, 6), (156, 6), (157, 6), (158, 4), (159, 4), (160, 4)] [(162, 4), (163, 4), (164, 3), (165, 5), (166, 5), (167, 64), (168, 64)] (by decide) (by decide)
theorem hv162 {M : Mm} : (hvS l18 M).1 162 = hlI 4 4 (M.1 162) := hvS_at [(151, 13), (152, 6), (153, 6), (154, 6), (155, 6), (156, 6), (157, 6), (158, 4), (159, 4), (160, 4), (161, 4)] [(163, 4), (164, 3), (165, 5), (166, 5), (167, 64), (168, 64)] (by decide) (by decide)
theorem hv163 {M : Mm} : (hvS l18 M).1 163 = hlI 4 4 (M.1 163) := hvS_at [(151, 13), (152, 6), (153, 6), (154, 6), (155, 6), (156, 6), (157, 6), (158, 4), (159, 4), (160, 4), (161, 4), (162, 4)] [(164, 3), (165, 5), (166, 5), (167, 64), (168, 64)] (by decide) (by decide)
theorem hv164 {M : Mm} : (hvS l18 M).1 164 = hlI 3 3 (M.1 164) := hvS_at [(151, 13), (152, 6), (153, 6), (154, 6), (155, 6), (156, 6), (157, 6), (158, 4), (159, 4), (160, 4), (161, 4), (162, 4), (163, 4)] [(165, 5), (166, 5), (167, 64), (168, 64)] (by decide) (by decide)
theorem hv165 {M : Mm} : (hvS l18 M).1 165 = hlI 5 5 (M.1 165) := hvS_at [(151, 13), (152, 6), (153, 6), (154, 6), (155, 6), (156, 6), (157, 6), (158, 4), (159, 4), (160, 4), (161, 4), (162, 4), (163, 4), (164, 3)] [(166, 5), (167, 64), (168, 64)] (by decide) (by decide)
theorem hv166 {M : Mm} : (hvS l18 M).1 166 = hlI 5 5 (M.1 166) := hvS_at [(151, 13), (152, 6), (153, 6), (154, 6), (155, 6), (156, 6), (157, 6), (158, 4), (159, 4), (160, 4), (161, 4), (162, 4), (163, 4), (164, 3), (165, 5)] [(167, 64), (168, 64)] (by decide) (by decide)
theorem hv167 {M : Mm} : (hvS l18 M).1 167 = hlI 64 64 (M.1 167) := hvS_at [(151, 13), (152, 6), (153, 6), (154, 6), (155, 6), (156, 6), (157, 6), (158, 4), (159, 4), (160, 4), (161, 4), (162, 4), (163, 4), (164, 3), (165, 5), (166, 5)] [(168, 64)] (by decide) (by decide)
theorem hv168 {M : Mm} : (hvS l18 M).1 168 = hlI 64 64 (M.1 168) := hvS_at [(151, 13), (152, 6), (153, 6), (154, 6), (155, 6), (156, 6), (157, 6), (158, 4), (159, 4), (160, 4), (161, 4), (162, 4), (163, 4), (164, 3), (165, 5), (166, 5), (167, 64)] [] (by decide) (by decide)
theorem tHalves {G : Gx} {l : Launch} {ly : Ly} {B : Mm} {x : Int32} {Q : Qt} (hR : RW ly B.2.2) (hgo : Rn G l mX12_text (129, 0, 0, false) 327 [some (.ref 149), some (.int x), none] [] ly (hvS l18 B) Q) : Rn G l mX12_text (129, 0, 0, false) 201 [some (.ref 149), some (.int x), none] [] ly B Q := by
  obtain ⟨N0, e0⟩ : ∃ N9, N9 = hvS [] B := ⟨_, rfl⟩
  refine Rn.meq (M2 := N0) e0.symm ?_
  have hRN0 : RW ly N0.2.2 := by rw [e0, hvS_r]; exact hR
  refine Rn.aload_n dX12_text_201 rfl ?_
  refine Rn.getR dX12_text_202 fX12_15 rfl (rc149 hRN0) (show N0.2.2 149 3 = some 151 from (rpt3 hRN0)) ?_
  refine Rn.callS1 dX12_text_205 vX12_330 (half13 (M := N0) (a := 151) (rc151 hRN0)) (by decide) ⟨(Nat.le_of_ble_eq_true rfl), (Nat.le_of_ble_eq_true rfl), (Nat.le_of_ble_eq_true rfl)⟩ (fun h => by cases h) (fun v1 ly1 M1 ⟨q1, q2, q3⟩ => ?_)
  rw [q1, q2]
  obtain ⟨N1, e1⟩ : ∃ N9, N9 = hvS [(151, 13)] B := ⟨_, rfl⟩
  refine Rn.meq (M2 := N1) (by rw [q3, e1, e0]; exact (hvS_app (l := []) (q := (151, 13)) (M := B)).symm) ?_
  have hRN1 : RW ly N1.2.2 := by rw [e1, hvS_r]; exact hR
  refine Rn.aload_n dX12_text_208 rfl ?_
  refine Rn.getR dX12_text_209 fX12_18 rfl (rc149 hRN1) (show N1.2.2 149 4 = some 152 from (rpt4 hRN1)) ?_
  refine Rn.callS1 dX12_text_212 vX12_330 (half6 (M := N1) (a := 152) (rc152 hRN1)) (by decide) ⟨(Nat.le_of_ble_eq_true rfl), (Nat.le_of_ble_eq_true rfl), (Nat.le_of_ble_eq_true rfl)⟩ (fun h => by cases h) (fun v1 ly1 M1 ⟨q1, q2, q3⟩ => ?_)
  rw [q1, q2]
  obtain ⟨N2, e2⟩ : ∃ N9, N9 = hvS [(151, 13), (152, 6)] B := ⟨_, rfl⟩
  refine Rn.meq (M2 := N2) (by rw [q3, e2, e1]; exact (hvS_app (l := [(151, 13)]) (q := (152, 6)) (M := B)).symm) ?_
  have hRN2 : RW ly N2.2.2 := by rw [e2, hvS_r]; exact hR
  refine Rn.aload_n dX12_text_215 rfl ?_
  refine Rn.getR dX12_text_216 fX12_21 rfl (rc149 hRN2) (show N2.2.2 149 5 = some 153 from (rpt5 hRN2)) ?_
  refine Rn.callS1 dX12_text_219 vX12_330 (half6 (M := N2) (a := 153) (rc153 hRN2)) (by decide) ⟨(Nat.le_of_ble_eq_true rfl), (Nat.le_of_ble_eq_true rfl), (Nat.le_of_ble_eq_true rfl)⟩ (fun h => by cases h) (fun v1 ly1 M1 ⟨q1, q2, q3⟩ => ?_)
  rw [q1, q2]
  obtain ⟨N3, e3⟩ : ∃ N9, N9 = hvS [(151, 13), (152, 6), (153, 6)] B := ⟨_, rfl⟩
  refine Rn.meq (M2 := N3) (by rw [q3, e3, e2]; exact (hvS_app (l := [(151, 13), (152, 6)]) (q := (153, 6)) (M := B)).symm) ?_
  have hRN3 : RW ly N3.2.2 := by rw [e3, hvS_r]; exact hR
  refine Rn.aload_n dX12_text_222 rfl ?_
  refine Rn.getR dX12_text_223 fX12_24 rfl (rc149 hRN3) (show N3.2.2 149 6 = some 154 from (rpt6 hRN3)) ?_
  refine Rn.callS1 dX12_text_226 vX12_330 (half6 (M := N3) (a := 154) (rc154 hRN3)) (by decide) ⟨(Nat.le_of_ble_eq_true rfl), (Nat.le_of_ble_eq_true rfl), (Nat.le_of_ble_eq_true rfl)⟩ (fun h => by cases h) (fun v1 ly1 M1 ⟨q1, q2, q3⟩ => ?_)
  rw [q1, q2]
  obtain ⟨N4, e4⟩ : ∃ N9, N9 = hvS [(151, 13), (152, 6), (153, 6), (154, 6)] B := ⟨_, rfl⟩
  refine Rn.meq (M2 := N4) (by rw [q3, e4, e3]; exact (hvS_app (l := [(151, 13), (152, 6), (153, 6)]) (q := (154, 6)) (M := B)).symm) ?_
  have hRN4 : RW ly N4.2.2 := by rw [e4, hvS_r]; exact hR
  refine Rn.aload_n dX12_text_229 rfl ?_
  refine Rn.getR dX12_text_230 fX12_27 rfl (rc149 hRN4) (show N4.2.2 149 7 = some 155 from (rpt7 hRN4)) ?_
  refine Rn.callS1 dX12_text_233 vX12_330 (half6 (M := N4) (a := 155) (rc155 hRN4)) (by decide) ⟨(Nat.le_of_ble_eq_true rfl), (Nat.le_of_ble_eq_true rfl), (Nat.le_of_ble_eq_true rfl)⟩ (fun h => by cases h) (fun v1 ly1 M1 ⟨q1, q2, q3⟩ => ?_)
  rw [q1, q2]
  obtain ⟨N5, e5⟩ : ∃ N9, N9 = hvS [(151, 13), (152, 6), (153, 6), (154, 6), (155, 6)] B := ⟨_, rfl⟩
  refine Rn.meq (M2 := N5) (by rw [q3, e5, e4]; exact (hvS_app (l := [(151, 13), (152, 6), (153, 6), (154, 6)]) (q := (155, 6)) (M := B)).symm) ?_
  have hRN5 : RW ly N5.2.2 := by rw [e5, hvS_r]; exact hR
  refine Rn.aload_n dX12_text_236 rfl ?_
  refine Rn.getR dX12_text_237 fX12_30 rfl (rc149 hRN5) (show N5.2.2 149 8 = some 156 from (rpt8 hRN5)) ?_
  refine Rn.callS1 dX12_text_240 vX12_330 (half6 (M := N5) (a := 156) (rc156 hRN5)) (by decide) ⟨(Nat.le_of_ble_eq_true rfl), (Nat.le_of_ble_eq_true rfl), (Nat.le_of_ble_eq_true rfl)⟩ (fun h => by cases h) (fun v1 ly1 M1 ⟨q1, q2, q3⟩ => ?_)
  rw [q1, q2]
  obtain ⟨N6, e6⟩ : ∃ N9, N9 = hvS [(151, 13), (152, 6), (153, 6), (154, 6), (155, 6), (156, 6)] B := ⟨_, rfl⟩
  refine Rn.meq (M2 := N6) (by rw [q3, e6, e5]; exact (hvS_app (l := [(151, 13), (152, 6), (153, 6), (154, 6), (155, 6)]) (q := (156, 6)) (M := B)).symm) ?_
  have hRN6 : RW ly N6.2.2 := by rw [e6, hvS_r]; exact hR
  refine Rn.aload_n dX12_text_243 rfl ?_
  refine Rn.getR dX12_text_244 fX12_33 rfl (rc149 hRN6) (show N6.2.2 149 9 = some 157 from (rpt9 hRN6)) ?_
  refine Rn.callS1 dX12_text_247 vX12_330 (half6 (M := N6) (a := 157) (rc157 hRN6)) (by decide) ⟨(Nat.le_of_ble_eq_true rfl), (Nat.le_of_ble_eq_true rfl), (Nat.le_of_ble_eq_true rfl)⟩ (fun h => by cases h) (fun v1 ly1 M1 ⟨q1, q2, q3⟩ => ?_)
  rw [q1, q2]
  obtain ⟨N7, e7⟩ : ∃ N9, N9 = hvS [(151, 13), (152, 6), (153, 6), (154, 6), (155, 6), (156, 6), (157, 6)] B := ⟨_, rfl⟩
  refine Rn.meq (M2 := N7) (by rw [q3, e7, e6]; exact (hvS_app (l := [(151, 13), (152, 6), (153, 6), (154, 6), (155, 6), (156, 6)]) (q := (157, 6)) (M := B)).symm) ?_
  have hRN7 : RW ly N7.2.2 := by rw [e7, hvS_r]; exact hR
  refine Rn.aload_n dX12_text_250 rfl ?_
  refine Rn.getR dX12_text_251 fX12_36 rfl (rc149 hRN7) (show N7.2.2 149 10 = some 158 from (rpt10 hRN7)) ?_
  refine Rn.callS1 dX12_text_254 vX12_330 (half4 (M := N7) (a := 158) (rc158 hRN7)) (by decide) ⟨(Nat.le_of_ble_eq_true rfl), (Nat.le_of_ble_eq_true rfl), (Nat.le_of_ble_eq_true rfl)⟩ (fun h => by cases h) (fun v1 ly1 M1 ⟨q1, q2, q3⟩ => ?_)
  rw [q1, q2]
  obtain ⟨N8, e8⟩ : ∃ N9, N9 = hvS [(151, 13), (152, 6), (153, 6), (154, 6), (155, 6), (156, 6), (157, 6), (158, 4)] B := ⟨_, rfl⟩
  refine Rn.meq (M2 := N8) (by rw [q3, e8, e7]; exact (hvS_app (l := [(151, 13), (152, 6), (153, 6), (154, 6), (155, 6), (156, 6), (157, 6)]) (q := (158, 4)) (M := B)).symm) ?_
  have hRN8 : RW ly N8.2.2 := by rw [e8, hvS_r]; exact hR
  refine Rn.aload_n dX12_text_257 rfl ?_
  refine Rn.getR dX12_text_258 fX12_39 rfl (rc149 hRN8) (show N8.2.2 149 11 = some 159 from (rpt11 hRN8)) ?_
  refine Rn.callS1 dX12_text_261 vX12_330 (half4 (M := N8) (a := 159) (rc159 hRN8)) (by decide) ⟨(Nat.le_of_ble_eq_true rfl), (Nat.le_of_ble_eq_true rfl), (Nat.le_of_ble_eq_true rfl)⟩ (fun h => by cases h) (fun v1 ly1 M1 ⟨q1, q2, q3⟩ => ?_)
  rw [q1, q2]
  obtain ⟨N9, e9⟩ : ∃ N9, N9 = hvS [(151, 13), (152, 6), (153, 6), (154, 6), (155, 6), (156, 6), (157, 6), (158, 4), (159, 4)] B := ⟨_, rfl⟩
  refine Rn.meq (M2 := N9) (by rw [q3, e9, e8]; exact (hvS_app (l := [(151, 13), (152, 6), (153, 6), (154, 6), (155, 6), (156, 6), (157, 6), (158, 4)]) (q := (159, 4)) (M := B)).symm) ?_
  have hRN9 : RW ly N9.2.2 := by rw [e9, hvS_r]; exact hR
  refine Rn.aload_n dX12_text_264 rfl ?_
  refine Rn.getR dX12_text_265 fX12_42 rfl (rc149 hRN9) (show N9.2.2 149 12 = some 160 from (rpt12 hRN9)) ?_
  refine Rn.callS1 dX12_text_268 vX12_330 (half4 (M := N9) (a := 160) (rc160 hRN9)) (by decide) ⟨(Nat.le_of_ble_eq_true rfl), (Nat.le_of_ble_eq_true rfl), (Nat.le_of_ble_eq_true rfl)⟩ (fun h => by cases h) (fun v1 ly1 M1 ⟨q1, q2, q3⟩ => ?_)
  rw [q1, q2]
  obtain ⟨N10, e10⟩ : ∃ N9, N9 = hvS [(151, 13), (152, 6), (153, 6), (154, 6), (155, 6), (156, 6), (157, 6), (158, 4), (159, 4), (160, 4)] B := ⟨_, rfl⟩
  refine Rn.meq (M2 := N10) (by rw [q3, e10, e9]; exact (hvS_app (l := [(151, 13), (152, 6), (153, 6), (154, 6), (155, 6), (156, 6), (157, 6), (158, 4), (159, 4)]) (q := (160, 4)) (M := B)).symm) ?_
  have hRN10 : RW ly N10.2.2 := by rw [e10, hvS_r]; exact hR
  refine Rn.aload_n dX12_text_271 rfl ?_
  refine Rn.getR dX12_text_272 fX12_45 rfl (rc149 hRN10) (show N10.2.2 149 13 = some 161 from (rpt13 hRN10)) ?_
  refine Rn.callS1 dX12_text_275 vX12_330 (half4 (M := N10) (a := 161) (rc161 hRN10)) (by decide) ⟨(Nat.le_of_ble_eq_true rfl), (Nat.le_of_ble_eq_true rfl), (Nat.le_of_ble_eq_true rfl)⟩ (fun h => by cases h) (fun v1 ly1 M1 ⟨q1, q2, q3⟩ => ?_)
  rw [q1, q2]
  obtain ⟨N11, e11⟩ : ∃ N9, N9 = hvS [(151, 13), (152, 6), (153, 6), (154, 6), (155, 6), (156, 6), (157, 6), (158, 4), (159, 4), (160, 4), (161, 4)] B := ⟨_, rfl⟩
  refine Rn.meq (M2 := N11) (by rw [q3, e11, e10]; exact (hvS_app (l := [(151, 13), (152, 6), (153, 6), (154, 6), (155, 6), (156, 6), (157, 6), (158, 4), (159, 4), (160, 4)]) (q := (161, 4)) (M := B)).symm) ?_
  have hRN11 : RW ly N11.2.2 := by rw [e11, hvS_r]; exact hR
  refine Rn.aload_n dX12_text_278 rfl ?_
  refine Rn.getR dX12_text_279 fX12_48 rfl (rc149 hRN11) (show N11.2.2 149 14 = some 162 from (rpt14 hRN11)) ?_
  refine Rn.callS1 dX12_text_282 vX12_330 (half4 (M := N11) (a := 162) (rc162 hRN11)) (by decide) ⟨(Nat.le_of_ble_eq_true rfl), (Nat.le_of_ble_eq_true rfl), (Nat.le_of_ble_eq_true rfl)⟩ (fun h => by cases h) (fun v1 ly1 M1 ⟨q1, q2, q3⟩ => ?_)
  rw [q1, q2]
  obtain ⟨N12, e12⟩ : ∃ N9, N9 = hvS [(151, 13), (152, 6), (153, 6), (154, 6), (155, 6), (156, 6), (157, 6), (158, 4), (159, 4), (160, 4), (161, 4), (162, 4)] B := ⟨_, rfl⟩
  refine Rn.meq (M2 := N12) (by rw [q3, e12, e11]; exact (hvS_app (l := [(151, 13), (152, 6), (153, 6), (154, 6), (155, 6), (156, 6), (157, 6), (158, 4), (159, 4), (160, 4), (161, 4)]) (q := (162, 4)) (M := B)).symm) ?_
  have hRN12 : RW ly N12.2.2 := by rw [e12, hvS_r]; exact hR
  refine Rn.aload_n dX12_text_285 rfl ?_
  refine Rn.getR dX12_text_286 fX12_51 rfl (rc149 hRN12) (show N12.2.2 149 15 = some 163 from (rpt15 hRN12)) ?_
  refine Rn.callS1 dX12_text_289 vX12_330 (half4 (M := N12) (a := 163) (rc163 hRN12)) (by decide) ⟨(Nat.le_of_ble_eq_true rfl), (Nat.le_of_ble_eq_true rfl), (Nat.le_of_ble_eq_true rfl)⟩ (fun h => by cases h) (fun v1 ly1 M1 ⟨q1, q2, q3⟩ => ?_)
  rw [q1, q2]
  obtain ⟨N13, e13⟩ : ∃ N9, N9 = hvS [(151, 13), (152, 6), (153, 6), (154, 6), (155, 6), (156, 6), (157, 6), (158, 4), (159, 4), (160, 4), (161, 4), (162, 4), (163, 4)] B := ⟨_, rfl⟩
  refine Rn.meq (M2 := N13) (by rw [q3, e13, e12]; exact (hvS_app (l := [(151, 13), (152, 6), (153, 6), (154, 6), (155, 6), (156, 6), (157, 6), (158, 4), (159, 4), (160, 4), (161, 4), (162, 4)]) (q := (163, 4)) (M := B)).symm) ?_
  have hRN13 : RW ly N13.2.2 := by rw [e13, hvS_r]; exact hR
  refine Rn.aload_n dX12_text_292 rfl ?_
  refine Rn.getR dX12_text_293 fX12_54 rfl (rc149 hRN13) (show N13.2.2 149 16 = some 164 from (rpt16 hRN13)) ?_
  refine Rn.callS1 dX12_text_296 vX12_330 (half3 (M := N13) (a := 164) (rc164 hRN13)) (by decide) ⟨(Nat.le_of_ble_eq_true rfl), (Nat.le_of_ble_eq_true rfl), (Nat.le_of_ble_eq_true rfl)⟩ (fun h => by cases h) (fun v1 ly1 M1 ⟨q1, q2, q3⟩ => ?_)
  rw [q1, q2]
  obtain ⟨N14, e14⟩ : ∃ N9, N9 = hvS [(151, 13), (152, 6), (153, 6), (154, 6), (155, 6), (156, 6), (157, 6), (158, 4), (159, 4), (160, 4), (161, 4), (162, 4), (163, 4), (164, 3)] B := ⟨_, rfl⟩
  refine Rn.meq (M2 := N14) (by rw [q3, e14, e13]; exact (hvS_app (l := [(151, 13), (152, 6), (153, 6), (154, 6), (155, 6), (156, 6), (157, 6), (158, 4), (159, 4), (160, 4), (161, 4), (162, 4), (163, 4)]) (q := (164, 3)) (M := B)).symm) ?_
  have hRN14 : RW ly N14.2.2 := by rw [e14, hvS_r]; exact hR
  refine Rn.aload_n dX12_text_299 rfl ?_
  refine Rn.getR dX12_text_300 fX12_57 rfl (rc149 hRN14) (show N14.2.2 149 17 = some 165 from (rpt17 hRN14)) ?_
  refine Rn.callS1 dX12_text_303 vX12_330 (half5 (M := N14) (a := 165) (rc165 hRN14)) (by decide) ⟨(Nat.le_of_ble_eq_true rfl), (Nat.le_of_ble_eq_true rfl), (Nat.le_of_ble_eq_true rfl)⟩ (fun h => by cases h) (fun v1 ly1 M1 ⟨q1, q2, q3⟩ => ?_)
  rw [q1, q2]
  obtain ⟨N15, e15⟩ : ∃ N9, N9 = hvS [(151, 13), (152, 6), (153, 6), (154, 6), (155, 6), (156, 6), (157, 6), (158, 4), (159, 4), (160, 4), (161, 4), (162, 4), (163, 4), (164, 3), (165, 5)] B := ⟨_, rfl⟩
  refine Rn.meq (M2 := N15) (by rw [q3, e15, e14]; exact (hvS_app (l := [(151, 13), (152, 6), (153, 6), (154, 6), (155, 6), (156, 6), (157, 6), (158, 4), (159, 4), (160, 4), (161, 4), (162, 4), (163, 4), (164, 3)]) (q := (165, 5)) (M := B)).symm) ?_
  have hRN15 : RW ly N15.2.2 := by rw [e15, hvS_r]; exact hR
  refine Rn.aload_n dX12_text_306 rfl ?_
  refine Rn.getR dX12_text_307 fX12_60 rfl (rc149 hRN15) (show N15.2.2 149 18 = some 166 from (rpt18 hRN15)) ?_
  refine Rn.callS1 dX12_text_310 vX12_330 (half5 (M := N15) (a := 166) (rc166 hRN15)) (by decide) ⟨(Nat.le_of_ble_eq_true rfl), (Nat.le_of_ble_eq_true rfl), (Nat.le_of_ble_eq_true rfl)⟩ (fun h => by cases h) (fun v1 ly1 M1 ⟨q1, q2, q3⟩ => ?_)
  rw [q1, q2]
  obtain ⟨N16, e16⟩ : ∃ N9, N9 = hvS [(151, 13), (152, 6), (153, 6), (154, 6), (155, 6), (156, 6), (157, 6), (158, 4), (159, 4), (160, 4), (161, 4), (162, 4), (163, 4), (164, 3), (165, 5), (166, 5)] B := ⟨_, rfl⟩
  refine Rn.meq (M2 := N16) (by rw [q3, e16, e15]; exact (hvS_app (l := [(151, 13), (152, 6), (153, 6), (154, 6), (155, 6), (156, 6), (157, 6), (158, 4), (159, 4), (160, 4), (161, 4), (162, 4), (163, 4), (164, 3), (165, 5)]) (q := (166, 5)) (M := B)).symm) ?_
  have hRN16 : RW ly N16.2.2 := by rw [e16, hvS_r]; exact hR
  refine Rn.aload_n dX12_text_313 rfl ?_
  refine Rn.getR dX12_text_314 fX12_63 rfl (rc149 hRN16) (show N16.2.2 149 19 = some 167 from (rpt19 hRN16)) ?_
  refine Rn.callS1 dX12_text_317 vX12_330 (half64 (M := N16) (a := 167) (rc167 hRN16)) (by decide) ⟨(Nat.le_of_ble_eq_true rfl), (Nat.le_of_ble_eq_true rfl), (Nat.le_of_ble_eq_true rfl)⟩ (fun h => by cases h) (fun v1 ly1 M1 ⟨q1, q2, q3⟩ => ?_)
  rw [q1, q2]
  obtain ⟨N17, e17⟩ : ∃ N9, N9 = hvS [(151, 13), (152, 6), (153, 6), (154, 6), (155, 6), (156, 6), (157, 6), (158, 4), (159, 4), (160, 4), (161, 4), (162, 4), (163, 4), (164, 3), (165, 5), (166, 5), (167, 64)] B := ⟨_, rfl⟩
  refine Rn.meq (M2 := N17) (by rw [q3, e17, e16]; exact (hvS_app (l := [(151, 13), (152, 6), (153, 6), (154, 6), (155, 6), (156, 6), (157, 6), (158, 4), (159, 4), (160, 4), (161, 4), (162, 4), (163, 4), (164, 3), (165, 5), (166, 5)]) (q := (167, 64)) (M := B)).symm) ?_
  have hRN17 : RW ly N17.2.2 := by rw [e17, hvS_r]; exact hR
  refine Rn.aload_n dX12_text_320 rfl ?_
  refine Rn.getR dX12_text_321 fX12_66 rfl (rc149 hRN17) (show N17.2.2 149 20 = some 168 from (rpt20 hRN17)) ?_
  refine Rn.callS1 dX12_text_324 vX12_330 (half64 (M := N17) (a := 168) (rc168 hRN17)) (by decide) ⟨(Nat.le_of_ble_eq_true rfl), (Nat.le_of_ble_eq_true rfl), (Nat.le_of_ble_eq_true rfl)⟩ (fun h => by cases h) (fun v1 ly1 M1 ⟨q1, q2, q3⟩ => ?_)
  rw [q1, q2]
  obtain ⟨N18, e18⟩ : ∃ N9, N9 = hvS [(151, 13), (152, 6), (153, 6), (154, 6), (155, 6), (156, 6), (157, 6), (158, 4), (159, 4), (160, 4), (161, 4), (162, 4), (163, 4), (164, 3), (165, 5), (166, 5), (167, 64), (168, 64)] B := ⟨_, rfl⟩
  refine Rn.meq (M2 := N18) (by rw [q3, e18, e17]; exact (hvS_app (l := [(151, 13), (152, 6), (153, 6), (154, 6), (155, 6), (156, 6), (157, 6), (158, 4), (159, 4), (160, 4), (161, 4), (162, 4), (163, 4), (164, 3), (165, 5), (166, 5), (167, 64)]) (q := (168, 64)) (M := B)).symm) ?_
  rw [e18]
  exact hgo
/-- what the reference keeps over a text that has a fault -/
def rtF (M K : Mm) : Prop := K.2.2 = M.2.2 ∧ (∀ a j, a ≠ 149 → (a < 151 ∨ 168 < a ∨ j < rhN a) → K.1 a j = M.1 a j) ∧ (∀ j, ¬ (j = 0 ∨ j = 2 ∨ (21 ≤ j ∧ j ≤ 34)) → K.1 149 j = M.1 149 j)
theorem rtF.g {M N K : Mm} (h : rtF M N) (g : rlG N K) : rtF M K := ⟨g.1.trans h.1, fun a j x y => (g.2.1 a j x y).trans (h.2.1 a j x y), fun j x => (g.2.2 j (by omega)).trans (h.2.2 j x)⟩
theorem rtF.f {M N : Mm} {g : Nat → Int32} (h : rtF M N) (hg : ∀ j, ¬ (j = 0 ∨ j = 2 ∨ (21 ≤ j ∧ j ≤ 34)) → g j = N.1 149 j) : rtF M (sI N 149 g) := ⟨h.1, fun a j x y => (congrFun (sI_ne x) j).trans (h.2.1 a j x y), fun j x => (hg j x).trans (h.2.2 j x)⟩
theorem tX12_text {G : Gx} {l : Launch} {ly : Ly} {M : Mm} {x : Int32} {tp : Nat} (htp : M.1 149 2 = nI tp ∧ tp ≤ 700) (hby : byA (M.1 150) tp) (hR : RW ly M.2.2) {Q : Qt} (hQ : (x < 0 ∨ nI tp < x → Q (some (.int (-2))) ly (sI M 149 (upd (M.1 149) 0 0))) ∧ (∀ n : Nat, x = nI n → n ≤ tp → (∀ K q j, txF (kdF (M.1 150) n) (nvF (M.1 150) n) (nx (M.1 150) n) 701 p0 0 0 = .inr (q, j) → rtF M K → K.1 149 0 = 0 → K.1 149 2 = 0 → K.1 149 31 = q → K.1 149 32 = nI (tkP (M.1 150) n j) → Q (some (.int (-1))) ly K) ∧ (∀ K p2 m, txF (kdF (M.1 150) n) (nvF (M.1 150) n) (nx (M.1 150) n) 701 p0 0 0 = .inl (p2, m) → ctOk p2 → RLo K.1 p2 → K.2.2 = M.2.2 → (∀ a, (a < 149 ∨ a = 150 ∨ 182 < a) → K.1 a = M.1 a) → (∀ j, ¬ (j = 0 ∨ j = 2 ∨ (21 ≤ j ∧ j ≤ 34) ∨ j = 50 ∨ j = 51 ∨ j = 70 ∨ j = 71) → K.1 149 j = M.1 149 j) → (K.1 149 0 = 0 ∧ K.1 149 2 = 0 ∧ K.1 149 31 = 0 ∧ K.1 149 32 = -1 ∧ K.1 149 50 = 0 ∧ K.1 149 51 = 0 ∧ K.1 149 70 = 0 ∧ K.1 149 71 = -1) → K.1 169 = upd (M.1 169) 0 0 → K.1 170 = upd (M.1 170) 0 (p2.D 0 11) → K.1 171 = upd (M.1 171) 0 0 → K.1 172 = upd (M.1 172) 0 0 → K.1 173 = blk 0 12 (fun _ => 0) (M.1 173) → K.1 174 = blk 0 12 (fun _ => 0) (M.1 174) → K.1 175 = blk 0 12 (fun _ => 0) (M.1 175) → K.1 176 = blk 0 12 (fun _ => 0) (M.1 176) → K.1 177 = blk 0 6 (fun _ => -1) (M.1 177) → K.1 178 = blk 0 6 (fun _ => 0) (M.1 178) → K.1 179 = blk 0 6 (fun _ => 0) (M.1 179) → K.1 180 = upd (M.1 180) 0 (nI (p2.ct 1)) → K.1 181 = pre (p2.ct 1) (p2.D 10) (M.1 181) → K.1 182 = pre (p2.ct 1) (p2.D 11) (M.1 182) → Q (some (.int (nI m))) ly K))) : Mt G l mX12_text (129, 0, 0, false) [.ref 149, .int x] ly M Q := by
  refine Mt.of (lv := [some (.ref 149), some (.int x), none]) rfl ?_
  refine Rn.aload_n dX12_text_0 rfl ?_
  refine Rn.iconstv (v := 0) dX12_text_1 ic_0 ?_
  refine Rn.putI dX12_text_2 fX12_169 rfl rfl rfl (rc149 hR) ?_
  refine Rn.iload_n dX12_text_5 rfl ?_
  refine Rn.if_lt dX12_text_6 (fun hx0 => ?_) (fun hx0 => ?_)
  · skip
    refine Rn.bipushv (v := -2) dX12_text_17 bp_m2 ?_
    exact Rn.iret (ty := .int) dX12_text_19 rfl rfl (hQ.1 (Or.inl hx0))
  · skip
    refine Rn.iload_n dX12_text_9 rfl ?_
    refine Rn.aload_n dX12_text_10 rfl ?_
    refine Rn.getI dX12_text_11 fX12_172 rfl (rc149 hR) ?_
    refine Rn.topI (y := nI tp) (htp.1) ?_
    refine Rn.icmp_le dX12_text_14 (fun hx1 => ?_) (fun hx1 => ?_)
    · skip
      obtain ⟨n, hn31, rfl⟩ : ∃ n : Nat, n < 2 ^ 31 ∧ x = nI n := nI_of hx0
      have hnt : n ≤ tp := (nI_leI (a := n) (b := tp) hn31 (by omega)).mp hx1
      have hQ2 := hQ.2 n rfl hnt
      clear hQ
      obtain ⟨f, hf⟩ : ∃ f, f = M.1 150 := ⟨_, rfl⟩
      rw [← hf] at hQ2 hby
      have hbn : byA f n := fun j hj => hby j (by omega)
      refine Rn.aload_n dX12_text_20 rfl ?_
      refine Rn.iload_n dX12_text_21 rfl ?_
      refine Rn.putI dX12_text_22 fX12_178 rfl rfl rfl (rc149 hR) ?_
      refine Rn.meq (M2 := sI M 149 (upd (upd (M.1 149) 0 0) 24 (nI n))) (sI_sI _ _ _ _) ?_
      refine Rn.aload_n dX12_text_25 rfl ?_
      refine Rn.iconstv (v := 0) dX12_text_26 ic_0 ?_
      refine Rn.putI dX12_text_27 fX12_172 rfl rfl rfl (rc149 hR) ?_
      refine Rn.meq (M2 := sI M 149 (upd (upd (upd (M.1 149) 0 0) 24 (nI n)) 2 0)) (sI_sI _ _ _ _) ?_
      refine Rn.aload_n dX12_text_30 rfl ?_
      refine Rn.iconstv (v := 0) dX12_text_31 ic_0 ?_
      refine Rn.putI dX12_text_32 fX12_175 rfl rfl rfl (rc149 hR) ?_
      refine Rn.meq (M2 := sI M 149 (upd (upd (upd (upd (M.1 149) 0 0) 24 (nI n)) 2 0) 25 0)) (sI_sI _ _ _ _) ?_
      refine Rn.aload_n dX12_text_35 rfl ?_
      refine Rn.iconstv (v := 0) dX12_text_36 ic_0 ?_
      refine Rn.putI dX12_text_37 fX12_222 rfl rfl rfl (rc149 hR) ?_
      refine Rn.meq (M2 := sI M 149 (upd (upd (upd (upd (upd (M.1 149) 0 0) 24 (nI n)) 2 0) 25 0) 29 0)) (sI_sI _ _ _ _) ?_
      refine Rn.aload_n dX12_text_40 rfl ?_
      refine Rn.iconstv (v := -1) dX12_text_41 ic_m1 ?_
      refine Rn.putI dX12_text_42 fX12_225 rfl rfl rfl (rc149 hR) ?_
      refine Rn.meq (M2 := sI M 149 (upd (upd (upd (upd (upd (upd (M.1 149) 0 0) 24 (nI n)) 2 0) 25 0) 29 0) 30 (-1))) (sI_sI _ _ _ _) ?_
      refine Rn.iconstv (v := 0) dX12_text_45 ic_0 ?_
      refine Rn.istore_n (lv' := [some (.ref 149), some (.int (nI n)), some (.int 0)]) dX12_text_46 (by decide) rfl ?_
      refine Rn.iload_n dX12_text_47 rfl ?_
      refine Rn.bipushv (v := 13) dX12_text_48 bp_13 ?_
      show Rn G l mX12_text (129, 0, 0, false) 50 [some (.ref 149), some (.int (nI n)), some (.int 0)] [.int 13, .int 0] ly (sI M 149 (upd (upd (upd (upd (upd (upd (M.1 149) 0 0) 24 (nI n)) 2 0) 25 0) 29 0) 30 (-1))) Q
      refine Rn.icmp_ge dX12_text_50 (fun h9 => (by first | exact absurd h9 (by decide) | exact absurd (by decide) h9)) (fun h9 => ?_)
      refine Rn.aload_n dX12_text_53 rfl ?_
      refine Rn.iload_n dX12_text_54 rfl ?_
      refine Rn.iload_n dX12_text_55 rfl ?_
      show Rn G l mX12_text (129, 0, 0, false) 56 [some (.ref 149), some (.int (nI n)), some (.int 0)] [.int 0, .int 0, .ref 149] ly (sI M 149 (upd (upd (upd (upd (upd (upd (M.1 149) 0 0) 24 (nI n)) 2 0) 25 0) 29 0) 30 (-1))) Q
      refine Rn.if_ne dX12_text_56 (fun h9 => (by first | exact absurd h9 (by decide) | exact absurd (by decide) h9)) (fun h9 => ?_)
      refine Rn.bipushv (v := 8) dX12_text_59 bp_8 ?_
      refine Rn.goto dX12_text_61 ?_
      refine Rn.callV2 dX12_text_88 vX12_265 (rc149 hR) (by decide) rfl (tX12_reads (M := sI M 149 (upd (upd (upd (upd (upd (upd (M.1 149) 0 0) 24 (nI n)) 2 0) 25 0) 29 0) 30 (-1))) (k := 0) (x := 8) (by decide) hR) (by omega) ⟨(Nat.le_of_ble_eq_true rfl), (Nat.le_of_ble_eq_true rfl), (Nat.le_of_ble_eq_true rfl)⟩ (fun h => by cases h) (fun v1 ly1 M1 ⟨q1, q2, q3⟩ => ?_)
      rw [q1, q2, q3]
      show Rn G l mX12_text (129, 0, 0, false) 91 [some (.ref 149), some (.int (nI n)), some (.int 0)] [] ly (sI (sI M 149 (upd (upd (upd (upd (upd (upd (M.1 149) 0 0) 24 (nI n)) 2 0) 25 0) 29 0) 30 (-1))) 151 (upd (M.1 151) 13 8)) Q
      refine Rn.iincv (j' := 1) (lv' := [some (.ref 149), some (.int (nI n)), some (.int (0 + 1))]) dX12_text_91 rfl rfl (by decide) rfl ?_
      show Rn G l mX12_text (129, 0, 0, false) 94 [some (.ref 149), some (.int (nI n)), some (.int 1)] [] ly (sI (sI M 149 (upd (upd (upd (upd (upd (upd (M.1 149) 0 0) 24 (nI n)) 2 0) 25 0) 29 0) 30 (-1))) 151 (upd (M.1 151) 13 8)) Q
      refine Rn.goto dX12_text_94 ?_
      refine Rn.iload_n dX12_text_47 rfl ?_
      refine Rn.bipushv (v := 13) dX12_text_48 bp_13 ?_
      show Rn G l mX12_text (129, 0, 0, false) 50 [some (.ref 149), some (.int (nI n)), some (.int 1)] [.int 13, .int 1] ly (sI (sI M 149 (upd (upd (upd (upd (upd (upd (M.1 149) 0 0) 24 (nI n)) 2 0) 25 0) 29 0) 30 (-1))) 151 (upd (M.1 151) 13 8)) Q
      refine Rn.icmp_ge dX12_text_50 (fun h9 => (by first | exact absurd h9 (by decide) | exact absurd (by decide) h9)) (fun h9 => ?_)
      refine Rn.aload_n dX12_text_53 rfl ?_
      refine Rn.iload_n dX12_text_54 rfl ?_
      refine Rn.iload_n dX12_text_55 rfl ?_
      show Rn G l mX12_text (129, 0, 0, false) 56 [some (.ref 149), some (.int (nI n)), some (.int 1)] [.int 1, .int 1, .ref 149] ly (sI (sI M 149 (upd (upd (upd (upd (upd (upd (M.1 149) 0 0) 24 (nI n)) 2 0) 25 0) 29 0) 30 (-1))) 151 (upd (M.1 151) 13 8)) Q
      refine Rn.if_ne dX12_text_56 (fun h9 => ?_) (fun h9 => (by first | exact absurd h9 (by decide) | exact absurd (by decide) h9))
      refine Rn.iload_n dX12_text_64 rfl ?_
      refine Rn.iconstv (v := 1) dX12_text_65 ic_1 ?_
      show Rn G l mX12_text (129, 0, 0, false) 66 [some (.ref 149), some (.int (nI n)), some (.int 1)] [.int 1, .int 1, .int 1, .ref 149] ly (sI (sI M 149 (upd (upd (upd (upd (upd (upd (M.1 149) 0 0) 24 (nI n)) 2 0) 25 0) 29 0) 30 (-1))) 151 (upd (M.1 151) 13 8)) Q
      refine Rn.icmp_eq dX12_text_66 (fun h9 => ?_) (fun h9 => (by first | exact absurd h9 (by decide) | exact absurd (by decide) h9))
      refine Rn.iconstv (v := 4) dX12_text_74 ic_4 ?_
      refine Rn.goto dX12_text_75 ?_
      refine Rn.callV2 dX12_text_88 vX12_265 (rc149 hR) (by decide) rfl (tX12_reads (M := sI (sI M 149 (upd (upd (upd (upd (upd (upd (M.1 149) 0 0) 24 (nI n)) 2 0) 25 0) 29 0) 30 (-1))) 151 (upd (M.1 151) 13 8)) (k := 1) (x := 4) (by decide) hR) (by omega) ⟨(Nat.le_of_ble_eq_true rfl), (Nat.le_of_ble_eq_true rfl), (Nat.le_of_ble_eq_true rfl)⟩ (fun h => by cases h) (fun v1 ly1 M1 ⟨q1, q2, q3⟩ => ?_)
      rw [q1, q2, q3]
      refine Rn.meq (M2 := sI (sI M 149 (upd (upd (upd (upd (upd (upd (M.1 149) 0 0) 24 (nI n)) 2 0) 25 0) 29 0) 30 (-1))) 151 (upd (upd (M.1 151) 13 8) 14 4)) (sI_sI _ _ _ _) ?_
      show Rn G l mX12_text (129, 0, 0, false) 91 [some (.ref 149), some (.int (nI n)), some (.int 1)] [] ly (sI (sI M 149 (upd (upd (upd (upd (upd (upd (M.1 149) 0 0) 24 (nI n)) 2 0) 25 0) 29 0) 30 (-1))) 151 (upd (upd (M.1 151) 13 8) 14 4)) Q
      refine Rn.iincv (j' := 1) (lv' := [some (.ref 149), some (.int (nI n)), some (.int (1 + 1))]) dX12_text_91 rfl rfl (by decide) rfl ?_
      show Rn G l mX12_text (129, 0, 0, false) 94 [some (.ref 149), some (.int (nI n)), some (.int 2)] [] ly (sI (sI M 149 (upd (upd (upd (upd (upd (upd (M.1 149) 0 0) 24 (nI n)) 2 0) 25 0) 29 0) 30 (-1))) 151 (upd (upd (M.1 151) 13 8) 14 4)) Q
      refine Rn.goto dX12_text_94 ?_
      refine Rn.iload_n dX12_text_47 rfl ?_
      refine Rn.bipushv (v := 13) dX12_text_48 bp_13 ?_
      show Rn G l mX12_text (129, 0, 0, false) 50 [some (.ref 149), some (.int (nI n)), some (.int 2)] [.int 13, .int 2] ly (sI (sI M 149 (upd (upd (upd (upd (upd (upd (M.1 149) 0 0) 24 (nI n)) 2 0) 25 0) 29 0) 30 (-1))) 151 (upd (upd (M.1 151) 13 8) 14 4)) Q
      refine Rn.icmp_ge dX12_text_50 (fun h9 => (by first | exact absurd h9 (by decide) | exact absurd (by decide) h9)) (fun h9 => ?_)
      refine Rn.aload_n dX12_text_53 rfl ?_
      refine Rn.iload_n dX12_text_54 rfl ?_
      refine Rn.iload_n dX12_text_55 rfl ?_
      show Rn G l mX12_text (129, 0, 0, false) 56 [some (.ref 149), some (.int (nI n)), some (.int 2)] [.int 2, .int 2, .ref 149] ly (sI (sI M 149 (upd (upd (upd (upd (upd (upd (M.1 149) 0 0) 24 (nI n)) 2 0) 25 0) 29 0) 30 (-1))) 151 (upd (upd (M.1 151) 13 8) 14 4)) Q
      refine Rn.if_ne dX12_text_56 (fun h9 => ?_) (fun h9 => (by first | exact absurd h9 (by decide) | exact absurd (by decide) h9))
      refine Rn.iload_n dX12_text_64 rfl ?_
      refine Rn.iconstv (v := 1) dX12_text_65 ic_1 ?_
      show Rn G l mX12_text (129, 0, 0, false) 66 [some (.ref 149), some (.int (nI n)), some (.int 2)] [.int 1, .int 2, .int 2, .ref 149] ly (sI (sI M 149 (upd (upd (upd (upd (upd (upd (M.1 149) 0 0) 24 (nI n)) 2 0) 25 0) 29 0) 30 (-1))) 151 (upd (upd (M.1 151) 13 8) 14 4)) Q
      refine Rn.icmp_eq dX12_text_66 (fun h9 => (by first | exact absurd h9 (by decide) | exact absurd (by decide) h9)) (fun h9 => ?_)
      refine Rn.iload_n dX12_text_69 rfl ?_
      refine Rn.iconstv (v := 2) dX12_text_70 ic_2 ?_
      show Rn G l mX12_text (129, 0, 0, false) 71 [some (.ref 149), some (.int (nI n)), some (.int 2)] [.int 2, .int 2, .int 2, .ref 149] ly (sI (sI M 149 (upd (upd (upd (upd (upd (upd (M.1 149) 0 0) 24 (nI n)) 2 0) 25 0) 29 0) 30 (-1))) 151 (upd (upd (M.1 151) 13 8) 14 4)) Q
      refine Rn.icmp_ne dX12_text_71 (fun h9 => (by first | exact absurd h9 (by decide) | exact absurd (by decide) h9)) (fun h9 => ?_)
      refine Rn.iconstv (v := 4) dX12_text_74 ic_4 ?_
      refine Rn.goto dX12_text_75 ?_
      refine Rn.callV2 dX12_text_88 vX12_265 (rc149 hR) (by decide) rfl (tX12_reads (M := sI (sI M 149 (upd (upd (upd (upd (upd (upd (M.1 149) 0 0) 24 (nI n)) 2 0) 25 0) 29 0) 30 (-1))) 151 (upd (upd (M.1 151) 13 8) 14 4)) (k := 2) (x := 4) (by decide) hR) (by omega) ⟨(Nat.le_of_ble_eq_true rfl), (Nat.le_of_ble_eq_true rfl), (Nat.le_of_ble_eq_true rfl)⟩ (fun h => by cases h) (fun v1 ly1 M1 ⟨q1, q2, q3⟩ => ?_)
      rw [q1, q2, q3]
      refine Rn.meq (M2 := sI (sI M 149 (upd (upd (upd (upd (upd (upd (M.1 149) 0 0) 24 (nI n)) 2 0) 25 0) 29 0) 30 (-1))) 151 (upd (upd (upd (M.1 151) 13 8) 14 4) 15 4)) (sI_sI _ _ _ _) ?_
      show Rn G l mX12_text (129, 0, 0, false) 91 [some (.ref 149), some (.int (nI n)), some (.int 2)] [] ly (sI (sI M 149 (upd (upd (upd (upd (upd (upd (M.1 149) 0 0) 24 (nI n)) 2 0) 25 0) 29 0) 30 (-1))) 151 (upd (upd (upd (M.1 151) 13 8) 14 4) 15 4)) Q
      refine Rn.iincv (j' := 1) (lv' := [some (.ref 149), some (.int (nI n)), some (.int (2 + 1))]) dX12_text_91 rfl rfl (by decide) rfl ?_
      show Rn G l mX12_text (129, 0, 0, false) 94 [some (.ref 149), some (.int (nI n)), some (.int 3)] [] ly (sI (sI M 149 (upd (upd (upd (upd (upd (upd (M.1 149) 0 0) 24 (nI n)) 2 0) 25 0) 29 0) 30 (-1))) 151 (upd (upd (upd (M.1 151) 13 8) 14 4) 15 4)) Q
      refine Rn.goto dX12_text_94 ?_
      refine Rn.iload_n dX12_text_47 rfl ?_
      refine Rn.bipushv (v := 13) dX12_text_48 bp_13 ?_
      show Rn G l mX12_text (129, 0, 0, false) 50 [some (.ref 149), some (.int (nI n)), some (.int 3)] [.int 13, .int 3] ly (sI (sI M 149 (upd (upd (upd (upd (upd (upd (M.1 149) 0 0) 24 (nI n)) 2 0) 25 0) 29 0) 30 (-1))) 151 (upd (upd (upd (M.1 151) 13 8) 14 4) 15 4)) Q
      refine Rn.icmp_ge dX12_text_50 (fun h9 => (by first | exact absurd h9 (by decide) | exact absurd (by decide) h9)) (fun h9 => ?_)
      refine Rn.aload_n dX12_text_53 rfl ?_
      refine Rn.iload_n dX12_text_54 rfl ?_
      refine Rn.iload_n dX12_text_55 rfl ?_
      show Rn G l mX12_text (129, 0, 0, false) 56 [some (.ref 149), some (.int (nI n)), some (.int 3)] [.int 3, .int 3, .ref 149] ly (sI (sI M 149 (upd (upd (upd (upd (upd (upd (M.1 149) 0 0) 24 (nI n)) 2 0) 25 0) 29 0) 30 (-1))) 151 (upd (upd (upd (M.1 151) 13 8) 14 4) 15 4)) Q
      refine Rn.if_ne dX12_text_56 (fun h9 => ?_) (fun h9 => (by first | exact absurd h9 (by decide) | exact absurd (by decide) h9))
      refine Rn.iload_n dX12_text_64 rfl ?_
      refine Rn.iconstv (v := 1) dX12_text_65 ic_1 ?_
      show Rn G l mX12_text (129, 0, 0, false) 66 [some (.ref 149), some (.int (nI n)), some (.int 3)] [.int 1, .int 3, .int 3, .ref 149] ly (sI (sI M 149 (upd (upd (upd (upd (upd (upd (M.1 149) 0 0) 24 (nI n)) 2 0) 25 0) 29 0) 30 (-1))) 151 (upd (upd (upd (M.1 151) 13 8) 14 4) 15 4)) Q
      refine Rn.icmp_eq dX12_text_66 (fun h9 => (by first | exact absurd h9 (by decide) | exact absurd (by decide) h9)) (fun h9 => ?_)
      refine Rn.iload_n dX12_text_69 rfl ?_
      refine Rn.iconstv (v := 2) dX12_text_70 ic_2 ?_
      show Rn G l mX12_text (129, 0, 0, false) 71 [some (.ref 149), some (.int (nI n)), some (.int 3)] [.int 2, .int 3, .int 3, .ref 149] ly (sI (sI M 149 (upd (upd (upd (upd (upd (upd (M.1 149) 0 0) 24 (nI n)) 2 0) 25 0) 29 0) 30 (-1))) 151 (upd (upd (upd (M.1 151) 13 8) 14 4) 15 4)) Q
      refine Rn.icmp_ne dX12_text_71 (fun h9 => ?_) (fun h9 => (by first | exact absurd h9 (by decide) | exact absurd (by decide) h9))
      refine Rn.iload_n dX12_text_78 rfl ?_
      refine Rn.iconstv (v := 3) dX12_text_79 ic_3 ?_
      show Rn G l mX12_text (129, 0, 0, false) 80 [some (.ref 149), some (.int (nI n)), some (.int 3)] [.int 3, .int 3, .int 3, .ref 149] ly (sI (sI M 149 (upd (upd (upd (upd (upd (upd (M.1 149) 0 0) 24 (nI n)) 2 0) 25 0) 29 0) 30 (-1))) 151 (upd (upd (upd (M.1 151) 13 8) 14 4) 15 4)) Q
      refine Rn.icmp_ne dX12_text_80 (fun h9 => (by first | exact absurd h9 (by decide) | exact absurd (by decide) h9)) (fun h9 => ?_)
      refine Rn.iconstv (v := 5) dX12_text_83 ic_5 ?_
      refine Rn.goto dX12_text_84 ?_
      refine Rn.callV2 dX12_text_88 vX12_265 (rc149 hR) (by decide) rfl (tX12_reads (M := sI (sI M 149 (upd (upd (upd (upd (upd (upd (M.1 149) 0 0) 24 (nI n)) 2 0) 25 0) 29 0) 30 (-1))) 151 (upd (upd (upd (M.1 151) 13 8) 14 4) 15 4)) (k := 3) (x := 5) (by decide) hR) (by omega) ⟨(Nat.le_of_ble_eq_true rfl), (Nat.le_of_ble_eq_true rfl), (Nat.le_of_ble_eq_true rfl)⟩ (fun h => by cases h) (fun v1 ly1 M1 ⟨q1, q2, q3⟩ => ?_)
      rw [q1, q2, q3]
      refine Rn.meq (M2 := sI (sI M 149 (upd (upd (upd (upd (upd (upd (M.1 149) 0 0) 24 (nI n)) 2 0) 25 0) 29 0) 30 (-1))) 151 (upd (upd (upd (upd (M.1 151) 13 8) 14 4) 15 4) 16 5)) (sI_sI _ _ _ _) ?_
      show Rn G l mX12_text (129, 0, 0, false) 91 [some (.ref 149), some (.int (nI n)), some (.int 3)] [] ly (sI (sI M 149 (upd (upd (upd (upd (upd (upd (M.1 149) 0 0) 24 (nI n)) 2 0) 25 0) 29 0) 30 (-1))) 151 (upd (upd (upd (upd (M.1 151) 13 8) 14 4) 15 4) 16 5)) Q
      refine Rn.iincv (j' := 1) (lv' := [some (.ref 149), some (.int (nI n)), some (.int (3 + 1))]) dX12_text_91 rfl rfl (by decide) rfl ?_
      show Rn G l mX12_text (129, 0, 0, false) 94 [some (.ref 149), some (.int (nI n)), some (.int 4)] [] ly (sI (sI M 149 (upd (upd (upd (upd (upd (upd (M.1 149) 0 0) 24 (nI n)) 2 0) 25 0) 29 0) 30 (-1))) 151 (upd (upd (upd (upd (M.1 151) 13 8) 14 4) 15 4) 16 5)) Q
      refine Rn.goto dX12_text_94 ?_
      refine Rn.iload_n dX12_text_47 rfl ?_
      refine Rn.bipushv (v := 13) dX12_text_48 bp_13 ?_
      show Rn G l mX12_text (129, 0, 0, false) 50 [some (.ref 149), some (.int (nI n)), some (.int 4)] [.int 13, .int 4] ly (sI (sI M 149 (upd (upd (upd (upd (upd (upd (M.1 149) 0 0) 24 (nI n)) 2 0) 25 0) 29 0) 30 (-1))) 151 (upd (upd (upd (upd (M.1 151) 13 8) 14 4) 15 4) 16 5)) Q
      refine Rn.icmp_ge dX12_text_50 (fun h9 => (by first | exact absurd h9 (by decide) | exact absurd (by decide) h9)) (fun h9 => ?_)
      refine Rn.aload_n dX12_text_53 rfl ?_
      refine Rn.iload_n dX12_text_54 rfl ?_
      refine Rn.iload_n dX12_text_55 rfl ?_
      show Rn G l mX12_text (129, 0, 0, false) 56 [some (.ref 149), some (.int (nI n)), some (.int 4)] [.int 4, .int 4, .ref 149] ly (sI (sI M 149 (upd (upd (upd (upd (upd (upd (M.1 149) 0 0) 24 (nI n)) 2 0) 25 0) 29 0) 30 (-1))) 151 (upd (upd (upd (upd (M.1 151) 13 8) 14 4) 15 4) 16 5)) Q
      refine Rn.if_ne dX12_text_56 (fun h9 => ?_) (fun h9 => (by first | exact absurd h9 (by decide) | exact absurd (by decide) h9))
      refine Rn.iload_n dX12_text_64 rfl ?_
      refine Rn.iconstv (v := 1) dX12_text_65 ic_1 ?_
      show Rn G l mX12_text (129, 0, 0, false) 66 [some (.ref 149), some (.int (nI n)), some (.int 4)] [.int 1, .int 4, .int 4, .ref 149] ly (sI (sI M 149 (upd (upd (upd (upd (upd (upd (M.1 149) 0 0) 24 (nI n)) 2 0) 25 0) 29 0) 30 (-1))) 151 (upd (upd (upd (upd (M.1 151) 13 8) 14 4) 15 4) 16 5)) Q
      refine Rn.icmp_eq dX12_text_66 (fun h9 => (by first | exact absurd h9 (by decide) | exact absurd (by decide) h9)) (fun h9 => ?_)
      refine Rn.iload_n dX12_text_69 rfl ?_
      refine Rn.iconstv (v := 2) dX12_text_70 ic_2 ?_
      show Rn G l mX12_text (129, 0, 0, false) 71 [some (.ref 149), some (.int (nI n)), some (.int 4)] [.int 2, .int 4, .int 4, .ref 149] ly (sI (sI M 149 (upd (upd (upd (upd (upd (upd (M.1 149) 0 0) 24 (nI n)) 2 0) 25 0) 29 0) 30 (-1))) 151 (upd (upd (upd (upd (M.1 151) 13 8) 14 4) 15 4) 16 5)) Q
      refine Rn.icmp_ne dX12_text_71 (fun h9 => ?_) (fun h9 => (by first | exact absurd h9 (by decide) | exact absurd (by decide) h9))
      refine Rn.iload_n dX12_text_78 rfl ?_
      refine Rn.iconstv (v := 3) dX12_text_79 ic_3 ?_
      show Rn G l mX12_text (129, 0, 0, false) 80 [some (.ref 149), some (.int (nI n)), some (.int 4)] [.int 3, .int 4, .int 4, .ref 149] ly (sI (sI M 149 (upd (upd (upd (upd (upd (upd (M.1 149) 0 0) 24 (nI n)) 2 0) 25 0) 29 0) 30 (-1))) 151 (upd (upd (upd (upd (M.1 151) 13 8) 14 4) 15 4) 16 5)) Q
      refine Rn.icmp_ne dX12_text_80 (fun h9 => ?_) (fun h9 => (by first | exact absurd h9 (by decide) | exact absurd (by decide) h9))
      refine Rn.iconstv (v := 0) dX12_text_87 ic_0 ?_
      refine Rn.callV2 dX12_text_88 vX12_265 (rc149 hR) (by decide) rfl (tX12_reads (M := sI (sI M 149 (upd (upd (upd (upd (upd (upd (M.1 149) 0 0) 24 (nI n)) 2 0) 25 0) 29 0) 30 (-1))) 151 (upd (upd (upd (upd (M.1 151) 13 8) 14 4) 15 4) 16 5)) (k := 4) (x := 0) (by decide) hR) (by omega) ⟨(Nat.le_of_ble_eq_true rfl), (Nat.le_of_ble_eq_true rfl), (Nat.le_of_ble_eq_true rfl)⟩ (fun h => by cases h) (fun v1 ly1 M1 ⟨q1, q2, q3⟩ => ?_)
      rw [q1, q2, q3]
      refine Rn.meq (M2 := sI (sI M 149 (upd (upd (upd (upd (upd (upd (M.1 149) 0 0) 24 (nI n)) 2 0) 25 0) 29 0) 30 (-1))) 151 (upd (upd (upd (upd (upd (M.1 151) 13 8) 14 4) 15 4) 16 5) 17 0)) (sI_sI _ _ _ _) ?_
      show Rn G l mX12_text (129, 0, 0, false) 91 [some (.ref 149), some (.int (nI n)), some (.int 4)] [] ly (sI (sI M 149 (upd (upd (upd (upd (upd (upd (M.1 149) 0 0) 24 (nI n)) 2 0) 25 0) 29 0) 30 (-1))) 151 (upd (upd (upd (upd (upd (M.1 151) 13 8) 14 4) 15 4) 16 5) 17 0)) Q
      refine Rn.iincv (j' := 1) (lv' := [some (.ref 149), some (.int (nI n)), some (.int (4 + 1))]) dX12_text_91 rfl rfl (by decide) rfl ?_
      show Rn G l mX12_text (129, 0, 0, false) 94 [some (.ref 149), some (.int (nI n)), some (.int 5)] [] ly (sI (sI M 149 (upd (upd (upd (upd (upd (upd (M.1 149) 0 0) 24 (nI n)) 2 0) 25 0) 29 0) 30 (-1))) 151 (upd (upd (upd (upd (upd (M.1 151) 13 8) 14 4) 15 4) 16 5) 17 0)) Q
      refine Rn.goto dX12_text_94 ?_
      refine Rn.iload_n dX12_text_47 rfl ?_
      refine Rn.bipushv (v := 13) dX12_text_48 bp_13 ?_
      show Rn G l mX12_text (129, 0, 0, false) 50 [some (.ref 149), some (.int (nI n)), some (.int 5)] [.int 13, .int 5] ly (sI (sI M 149 (upd (upd (upd (upd (upd (upd (M.1 149) 0 0) 24 (nI n)) 2 0) 25 0) 29 0) 30 (-1))) 151 (upd (upd (upd (upd (upd (M.1 151) 13 8) 14 4) 15 4) 16 5) 17 0)) Q
      refine Rn.icmp_ge dX12_text_50 (fun h9 => (by first | exact absurd h9 (by decide) | exact absurd (by decide) h9)) (fun h9 => ?_)
      refine Rn.aload_n dX12_text_53 rfl ?_
      refine Rn.iload_n dX12_text_54 rfl ?_
      refine Rn.iload_n dX12_text_55 rfl ?_
      show Rn G l mX12_text (129, 0, 0, false) 56 [some (.ref 149), some (.int (nI n)), some (.int 5)] [.int 5, .int 5, .ref 149] ly (sI (sI M 149 (upd (upd (upd (upd (upd (upd (M.1 149) 0 0) 24 (nI n)) 2 0) 25 0) 29 0) 30 (-1))) 151 (upd (upd (upd (upd (upd (M.1 151) 13 8) 14 4) 15 4) 16 5) 17 0)) Q
      refine Rn.if_ne dX12_text_56 (fun h9 => ?_) (fun h9 => (by first | exact absurd h9 (by decide) | exact absurd (by decide) h9))
      refine Rn.iload_n dX12_text_64 rfl ?_
      refine Rn.iconstv (v := 1) dX12_text_65 ic_1 ?_
      show Rn G l mX12_text (129, 0, 0, false) 66 [some (.ref 149), some (.int (nI n)), some (.int 5)] [.int 1, .int 5, .int 5, .ref 149] ly (sI (sI M 149 (upd (upd (upd (upd (upd (upd (M.1 149) 0 0) 24 (nI n)) 2 0) 25 0) 29 0) 30 (-1))) 151 (upd (upd (upd (upd (upd (M.1 151) 13 8) 14 4) 15 4) 16 5) 17 0)) Q
      refine Rn.icmp_eq dX12_text_66 (fun h9 => (by first | exact absurd h9 (by decide) | exact absurd (by decide) h9)) (fun h9 => ?_)
      refine Rn.iload_n dX12_text_69 rfl ?_
      refine Rn.iconstv (v := 2) dX12_text_70 ic_2 ?_
      show Rn G l mX12_text (129, 0, 0, false) 71 [some (.ref 149), some (.int (nI n)), some (.int 5)] [.int 2, .int 5, .int 5, .ref 149] ly (sI (sI M 149 (upd (upd (upd (upd (upd (upd (M.1 149) 0 0) 24 (nI n)) 2 0) 25 0) 29 0) 30 (-1))) 151 (upd (upd (upd (upd (upd (M.1 151) 13 8) 14 4) 15 4) 16 5) 17 0)) Q
      refine Rn.icmp_ne dX12_text_71 (fun h9 => ?_) (fun h9 => (by first | exact absurd h9 (by decide) | exact absurd (by decide) h9))
      refine Rn.iload_n dX12_text_78 rfl ?_
      refine Rn.iconstv (v := 3) dX12_text_79 ic_3 ?_
      show Rn G l mX12_text (129, 0, 0, false) 80 [some (.ref 149), some (.int (nI n)), some (.int 5)] [.int 3, .int 5, .int 5, .ref 149] ly (sI (sI M 149 (upd (upd (upd (upd (upd (upd (M.1 149) 0 0) 24 (nI n)) 2 0) 25 0) 29 0) 30 (-1))) 151 (upd (upd (upd (upd (upd (M.1 151) 13 8) 14 4) 15 4) 16 5) 17 0)) Q
      refine Rn.icmp_ne dX12_text_80 (fun h9 => ?_) (fun h9 => (by first | exact absurd h9 (by decide) | exact absurd (by decide) h9))
      refine Rn.iconstv (v := 0) dX12_text_87 ic_0 ?_
      refine Rn.callV2 dX12_text_88 vX12_265 (rc149 hR) (by decide) rfl (tX12_reads (M := sI (sI M 149 (upd (upd (upd (upd (upd (upd (M.1 149) 0 0) 24 (nI n)) 2 0) 25 0) 29 0) 30 (-1))) 151 (upd (upd (upd (upd (upd (M.1 151) 13 8) 14 4) 15 4) 16 5) 17 0)) (k := 5) (x := 0) (by decide) hR) (by omega) ⟨(Nat.le_of_ble_eq_true rfl), (Nat.le_of_ble_eq_true rfl), (Nat.le_of_ble_eq_true rfl)⟩ (fun h => by cases h) (fun v1 ly1 M1 ⟨q1, q2, q3⟩ => ?_)
      rw [q1, q2, q3]
      refine Rn.meq (M2 := sI (sI M 149 (upd (upd (upd (upd (upd (upd (M.1 149) 0 0) 24 (nI n)) 2 0) 25 0) 29 0) 30 (-1))) 151 (upd (upd (upd (upd (upd (upd (M.1 151) 13 8) 14 4) 15 4) 16 5) 17 0) 18 0)) (sI_sI _ _ _ _) ?_
      show Rn G l mX12_text (129, 0, 0, false) 91 [some (.ref 149), some (.int (nI n)), some (.int 5)] [] ly (sI (sI M 149 (upd (upd (upd (upd (upd (upd (M.1 149) 0 0) 24 (nI n)) 2 0) 25 0) 29 0) 30 (-1))) 151 (upd (upd (upd (upd (upd (upd (M.1 151) 13 8) 14 4) 15 4) 16 5) 17 0) 18 0)) Q
      refine Rn.iincv (j' := 1) (lv' := [some (.ref 149), some (.int (nI n)), some (.int (5 + 1))]) dX12_text_91 rfl rfl (by decide) rfl ?_
      show Rn G l mX12_text (129, 0, 0, false) 94 [some (.ref 149), some (.int (nI n)), some (.int 6)] [] ly (sI (sI M 149 (upd (upd (upd (upd (upd (upd (M.1 149) 0 0) 24 (nI n)) 2 0) 25 0) 29 0) 30 (-1))) 151 (upd (upd (upd (upd (upd (upd (M.1 151) 13 8) 14 4) 15 4) 16 5) 17 0) 18 0)) Q
      refine Rn.goto dX12_text_94 ?_
      refine Rn.iload_n dX12_text_47 rfl ?_
      refine Rn.bipushv (v := 13) dX12_text_48 bp_13 ?_
      show Rn G l mX12_text (129, 0, 0, false) 50 [some (.ref 149), some (.int (nI n)), some (.int 6)] [.int 13, .int 6] ly (sI (sI M 149 (upd (upd (upd (upd (upd (upd (M.1 149) 0 0) 24 (nI n)) 2 0) 25 0) 29 0) 30 (-1))) 151 (upd (upd (upd (upd (upd (upd (M.1 151) 13 8) 14 4) 15 4) 16 5) 17 0) 18 0)) Q
      refine Rn.icmp_ge dX12_text_50 (fun h9 => (by first | exact absurd h9 (by decide) | exact absurd (by decide) h9)) (fun h9 => ?_)
      refine Rn.aload_n dX12_text_53 rfl ?_
      refine Rn.iload_n dX12_text_54 rfl ?_
      refine Rn.iload_n dX12_text_55 rfl ?_
      show Rn G l mX12_text (129, 0, 0, false) 56 [some (.ref 149), some (.int (nI n)), some (.int 6)] [.int 6, .int 6, .ref 149] ly (sI (sI M 149 (upd (upd (upd (upd (upd (upd (M.1 149) 0 0) 24 (nI n)) 2 0) 25 0) 29 0) 30 (-1))) 151 (upd (upd (upd (upd (upd (upd (M.1 151) 13 8) 14 4) 15 4) 16 5) 17 0) 18 0)) Q
      refine Rn.if_ne dX12_text_56 (fun h9 => ?_) (fun h9 => (by first | exact absurd h9 (by decide) | exact absurd (by decide) h9))
      refine Rn.iload_n dX12_text_64 rfl ?_
      refine Rn.iconstv (v := 1) dX12_text_65 ic_1 ?_
      show Rn G l mX12_text (129, 0, 0, false) 66 [some (.ref 149), some (.int (nI n)), some (.int 6)] [.int 1, .int 6, .int 6, .ref 149] ly (sI (sI M 149 (upd (upd (upd (upd (upd (upd (M.1 149) 0 0) 24 (nI n)) 2 0) 25 0) 29 0) 30 (-1))) 151 (upd (upd (upd (upd (upd (upd (M.1 151) 13 8) 14 4) 15 4) 16 5) 17 0) 18 0)) Q
      refine Rn.icmp_eq dX12_text_66 (fun h9 => (by first | exact absurd h9 (by decide) | exact absurd (by decide) h9)) (fun h9 => ?_)
      refine Rn.iload_n dX12_text_69 rfl ?_
      refine Rn.iconstv (v := 2) dX12_text_70 ic_2 ?_
      show Rn G l mX12_text (129, 0, 0, false) 71 [some (.ref 149), some (.int (nI n)), some (.int 6)] [.int 2, .int 6, .int 6, .ref 149] ly (sI (sI M 149 (upd (upd (upd (upd (upd (upd (M.1 149) 0 0) 24 (nI n)) 2 0) 25 0) 29 0) 30 (-1))) 151 (upd (upd (upd (upd (upd (upd (M.1 151) 13 8) 14 4) 15 4) 16 5) 17 0) 18 0)) Q
      refine Rn.icmp_ne dX12_text_71 (fun h9 => ?_) (fun h9 => (by first | exact absurd h9 (by decide) | exact absurd (by decide) h9))
      refine Rn.iload_n dX12_text_78 rfl ?_
      refine Rn.iconstv (v := 3) dX12_text_79 ic_3 ?_
      show Rn G l mX12_text (129, 0, 0, false) 80 [some (.ref 149), some (.int (nI n)), some (.int 6)] [.int 3, .int 6, .int 6, .ref 149] ly (sI (sI M 149 (upd (upd (upd (upd (upd (upd (M.1 149) 0 0) 24 (nI n)) 2 0) 25 0) 29 0) 30 (-1))) 151 (upd (upd (upd (upd (upd (upd (M.1 151) 13 8) 14 4) 15 4) 16 5) 17 0) 18 0)) Q
      refine Rn.icmp_ne dX12_text_80 (fun h9 => ?_) (fun h9 => (by first | exact absurd h9 (by decide) | exact absurd (by decide) h9))
      refine Rn.iconstv (v := 0) dX12_text_87 ic_0 ?_
      refine Rn.callV2 dX12_text_88 vX12_265 (rc149 hR) (by decide) rfl (tX12_reads (M := sI (sI M 149 (upd (upd (upd (upd (upd (upd (M.1 149) 0 0) 24 (nI n)) 2 0) 25 0) 29 0) 30 (-1))) 151 (upd (upd (upd (upd (upd (upd (M.1 151) 13 8) 14 4) 15 4) 16 5) 17 0) 18 0)) (k := 6) (x := 0) (by decide) hR) (by omega) ⟨(Nat.le_of_ble_eq_true rfl), (Nat.le_of_ble_eq_true rfl), (Nat.le_of_ble_eq_true rfl)⟩ (fun h => by cases h) (fun v1 ly1 M1 ⟨q1, q2, q3⟩ => ?_)
      rw [q1, q2, q3]
      refine Rn.meq (M2 := sI (sI M 149 (upd (upd (upd (upd (upd (upd (M.1 149) 0 0) 24 (nI n)) 2 0) 25 0) 29 0) 30 (-1))) 151 (upd (upd (upd (upd (upd (upd (upd (M.1 151) 13 8) 14 4) 15 4) 16 5) 17 0) 18 0) 19 0)) (sI_sI _ _ _ _) ?_
      show Rn G l mX12_text (129, 0, 0, false) 91 [some (.ref 149), some (.int (nI n)), some (.int 6)] [] ly (sI (sI M 149 (upd (upd (upd (upd (upd (upd (M.1 149) 0 0) 24 (nI n)) 2 0) 25 0) 29 0) 30 (-1))) 151 (upd (upd (upd (upd (upd (upd (upd (M.1 151) 13 8) 14 4) 15 4) 16 5) 17 0) 18 0) 19 0)) Q
      refine Rn.iincv (j' := 1) (lv' := [some (.ref 149), some (.int (nI n)), some (.int (6 + 1))]) dX12_text_91 rfl rfl (by decide) rfl ?_
      show Rn G l mX12_text (129, 0, 0, false) 94 [some (.ref 149), some (.int (nI n)), some (.int 7)] [] ly (sI (sI M 149 (upd (upd (upd (upd (upd (upd (M.1 149) 0 0) 24 (nI n)) 2 0) 25 0) 29 0) 30 (-1))) 151 (upd (upd (upd (upd (upd (upd (upd (M.1 151) 13 8) 14 4) 15 4) 16 5) 17 0) 18 0) 19 0)) Q
      refine Rn.goto dX12_text_94 ?_
      refine Rn.iload_n dX12_text_47 rfl ?_
      refine Rn.bipushv (v := 13) dX12_text_48 bp_13 ?_
      show Rn G l mX12_text (129, 0, 0, false) 50 [some (.ref 149), some (.int (nI n)), some (.int 7)] [.int 13, .int 7] ly (sI (sI M 149 (upd (upd (upd (upd (upd (upd (M.1 149) 0 0) 24 (nI n)) 2 0) 25 0) 29 0) 30 (-1))) 151 (upd (upd (upd (upd (upd (upd (upd (M.1 151) 13 8) 14 4) 15 4) 16 5) 17 0) 18 0) 19 0)) Q
      refine Rn.icmp_ge dX12_text_50 (fun h9 => (by first | exact absurd h9 (by decide) | exact absurd (by decide) h9)) (fun h9 => ?_)
      refine Rn.aload_n dX12_text_53 rfl ?_
      refine Rn.iload_n dX12_text_54 rfl ?_
      refine Rn.iload_n dX12_text_55 rfl ?_
      show Rn G l mX12_text (129, 0, 0, false) 56 [some (.ref 149), some (.int (nI n)), some (.int 7)] [.int 7, .int 7, .ref 149] ly (sI (sI M 149 (upd (upd (upd (upd (upd (upd (M.1 149) 0 0) 24 (nI n)) 2 0) 25 0) 29 0) 30 (-1))) 151 (upd (upd (upd (upd (upd (upd (upd (M.1 151) 13 8) 14 4) 15 4) 16 5) 17 0) 18 0) 19 0)) Q
      refine Rn.if_ne dX12_text_56 (fun h9 => ?_) (fun h9 => (by first | exact absurd h9 (by decide) | exact absurd (by decide) h9))
      refine Rn.iload_n dX12_text_64 rfl ?_
      refine Rn.iconstv (v := 1) dX12_text_65 ic_1 ?_
      show Rn G l mX12_text (129, 0, 0, false) 66 [some (.ref 149), some (.int (nI n)), some (.int 7)] [.int 1, .int 7, .int 7, .ref 149] ly (sI (sI M 149 (upd (upd (upd (upd (upd (upd (M.1 149) 0 0) 24 (nI n)) 2 0) 25 0) 29 0) 30 (-1))) 151 (upd (upd (upd (upd (upd (upd (upd (M.1 151) 13 8) 14 4) 15 4) 16 5) 17 0) 18 0) 19 0)) Q
      refine Rn.icmp_eq dX12_text_66 (fun h9 => (by first | exact absurd h9 (by decide) | exact absurd (by decide) h9)) (fun h9 => ?_)
      refine Rn.iload_n dX12_text_69 rfl ?_
      refine Rn.iconstv (v := 2) dX12_text_70 ic_2 ?_
      show Rn G l mX12_text (129, 0, 0, false) 71 [some (.ref 149), some (.int (nI n)), some (.int 7)] [.int 2, .int 7, .int 7, .ref 149] ly (sI (sI M 149 (upd (upd (upd (upd (upd (upd (M.1 149) 0 0) 24 (nI n)) 2 0) 25 0) 29 0) 30 (-1))) 151 (upd (upd (upd (upd (upd (upd (upd (M.1 151) 13 8) 14 4) 15 4) 16 5) 17 0) 18 0) 19 0)) Q
      refine Rn.icmp_ne dX12_text_71 (fun h9 => ?_) (fun h9 => (by first | exact absurd h9 (by decide) | exact absurd (by decide) h9))
      refine Rn.iload_n dX12_text_78 rfl ?_
      refine Rn.iconstv (v := 3) dX12_text_79 ic_3 ?_
      show Rn G l mX12_text (129, 0, 0, false) 80 [some (.ref 149), some (.int (nI n)), some (.int 7)] [.int 3, .int 7, .int 7, .ref 149] ly (sI (sI M 149 (upd (upd (upd (upd (upd (upd (M.1 149) 0 0) 24 (nI n)) 2 0) 25 0) 29 0) 30 (-1))) 151 (upd (upd (upd (upd (upd (upd (upd (M.1 151) 13 8) 14 4) 15 4) 16 5) 17 0) 18 0) 19 0)) Q
      refine Rn.icmp_ne dX12_text_80 (fun h9 => ?_) (fun h9 => (by first | exact absurd h9 (by decide) | exact absurd (by decide) h9))
      refine Rn.iconstv (v := 0) dX12_text_87 ic_0 ?_
      refine Rn.callV2 dX12_text_88 vX12_265 (rc149 hR) (by decide) rfl (tX12_reads (M := sI (sI M 149 (upd (upd (upd (upd (upd (upd (M.1 149) 0 0) 24 (nI n)) 2 0) 25 0) 29 0) 30 (-1))) 151 (upd (upd (upd (upd (upd (upd (upd (M.1 151) 13 8) 14 4) 15 4) 16 5) 17 0) 18 0) 19 0)) (k := 7) (x := 0) (by decide) hR) (by omega) ⟨(Nat.le_of_ble_eq_true rfl), (Nat.le_of_ble_eq_true rfl), (Nat.le_of_ble_eq_true rfl)⟩ (fun h => by cases h) (fun v1 ly1 M1 ⟨q1, q2, q3⟩ => ?_)
      rw [q1, q2, q3]
      refine Rn.meq (M2 := sI (sI M 149 (upd (upd (upd (upd (upd (upd (M.1 149) 0 0) 24 (nI n)) 2 0) 25 0) 29 0) 30 (-1))) 151 (upd (upd (upd (upd (upd (upd (upd (upd (M.1 151) 13 8) 14 4) 15 4) 16 5) 17 0) 18 0) 19 0) 20 0)) (sI_sI _ _ _ _) ?_
      show Rn G l mX12_text (129, 0, 0, false) 91 [some (.ref 149), some (.int (nI n)), some (.int 7)] [] ly (sI (sI M 149 (upd (upd (upd (upd (upd (upd (M.1 149) 0 0) 24 (nI n)) 2 0) 25 0) 29 0) 30 (-1))) 151 (upd (upd (upd (upd (upd (upd (upd (upd (M.1 151) 13 8) 14 4) 15 4) 16 5) 17 0) 18 0) 19 0) 20 0)) Q
      refine Rn.iincv (j' := 1) (lv' := [some (.ref 149), some (.int (nI n)), some (.int (7 + 1))]) dX12_text_91 rfl rfl (by decide) rfl ?_
      show Rn G l mX12_text (129, 0, 0, false) 94 [some (.ref 149), some (.int (nI n)), some (.int 8)] [] ly (sI (sI M 149 (upd (upd (upd (upd (upd (upd (M.1 149) 0 0) 24 (nI n)) 2 0) 25 0) 29 0) 30 (-1))) 151 (upd (upd (upd (upd (upd (upd (upd (upd (M.1 151) 13 8) 14 4) 15 4) 16 5) 17 0) 18 0) 19 0) 20 0)) Q
      refine Rn.goto dX12_text_94 ?_
      refine Rn.iload_n dX12_text_47 rfl ?_
      refine Rn.bipushv (v := 13) dX12_text_48 bp_13 ?_
      show Rn G l mX12_text (129, 0, 0, false) 50 [some (.ref 149), some (.int (nI n)), some (.int 8)] [.int 13, .int 8] ly (sI (sI M 149 (upd (upd (upd (upd (upd (upd (M.1 149) 0 0) 24 (nI n)) 2 0) 25 0) 29 0) 30 (-1))) 151 (upd (upd (upd (upd (upd (upd (upd (upd (M.1 151) 13 8) 14 4) 15 4) 16 5) 17 0) 18 0) 19 0) 20 0)) Q
      refine Rn.icmp_ge dX12_text_50 (fun h9 => (by first | exact absurd h9 (by decide) | exact absurd (by decide) h9)) (fun h9 => ?_)
      refine Rn.aload_n dX12_text_53 rfl ?_
      refine Rn.iload_n dX12_text_54 rfl ?_
      refine Rn.iload_n dX12_text_55 rfl ?_
      show Rn G l mX12_text (129, 0, 0, false) 56 [some (.ref 149), some (.int (nI n)), some (.int 8)] [.int 8, .int 8, .ref 149] ly (sI (sI M 149 (upd (upd (upd (upd (upd (upd (M.1 149) 0 0) 24 (nI n)) 2 0) 25 0) 29 0) 30 (-1))) 151 (upd (upd (upd (upd (upd (upd (upd (upd (M.1 151) 13 8) 14 4) 15 4) 16 5) 17 0) 18 0) 19 0) 20 0)) Q
      refine Rn.if_ne dX12_text_56 (fun h9 => ?_) (fun h9 => (by first | exact absurd h9 (by decide) | exact absurd (by decide) h9))
      refine Rn.iload_n dX12_text_64 rfl ?_
      refine Rn.iconstv (v := 1) dX12_text_65 ic_1 ?_
      show Rn G l mX12_text (129, 0, 0, false) 66 [some (.ref 149), some (.int (nI n)), some (.int 8)] [.int 1, .int 8, .int 8, .ref 149] ly (sI (sI M 149 (upd (upd (upd (upd (upd (upd (M.1 149) 0 0) 24 (nI n)) 2 0) 25 0) 29 0) 30 (-1))) 151 (upd (upd (upd (upd (upd (upd (upd (upd (M.1 151) 13 8) 14 4) 15 4) 16 5) 17 0) 18 0) 19 0) 20 0)) Q
      refine Rn.icmp_eq dX12_text_66 (fun h9 => (by first | exact absurd h9 (by decide) | exact absurd (by decide) h9)) (fun h9 => ?_)
      refine Rn.iload_n dX12_text_69 rfl ?_
      refine Rn.iconstv (v := 2) dX12_text_70 ic_2 ?_
      show Rn G l mX12_text (129, 0, 0, false) 71 [some (.ref 149), some (.int (nI n)), some (.int 8)] [.int 2, .int 8, .int 8, .ref 149] ly (sI (sI M 149 (upd (upd (upd (upd (upd (upd (M.1 149) 0 0) 24 (nI n)) 2 0) 25 0) 29 0) 30 (-1))) 151 (upd (upd (upd (upd (upd (upd (upd (upd (M.1 151) 13 8) 14 4) 15 4) 16 5) 17 0) 18 0) 19 0) 20 0)) Q
      refine Rn.icmp_ne dX12_text_71 (fun h9 => ?_) (fun h9 => (by first | exact absurd h9 (by decide) | exact absurd (by decide) h9))
      refine Rn.iload_n dX12_text_78 rfl ?_
      refine Rn.iconstv (v := 3) dX12_text_79 ic_3 ?_
      show Rn G l mX12_text (129, 0, 0, false) 80 [some (.ref 149), some (.int (nI n)), some (.int 8)] [.int 3, .int 8, .int 8, .ref 149] ly (sI (sI M 149 (upd (upd (upd (upd (upd (upd (M.1 149) 0 0) 24 (nI n)) 2 0) 25 0) 29 0) 30 (-1))) 151 (upd (upd (upd (upd (upd (upd (upd (upd (M.1 151) 13 8) 14 4) 15 4) 16 5) 17 0) 18 0) 19 0) 20 0)) Q
      refine Rn.icmp_ne dX12_text_80 (fun h9 => ?_) (fun h9 => (by first | exact absurd h9 (by decide) | exact absurd (by decide) h9))
      refine Rn.iconstv (v := 0) dX12_text_87 ic_0 ?_
      refine Rn.callV2 dX12_text_88 vX12_265 (rc149 hR) (by decide) rfl (tX12_reads (M := sI (sI M 149 (upd (upd (upd (upd (upd (upd (M.1 149) 0 0) 24 (nI n)) 2 0) 25 0) 29 0) 30 (-1))) 151 (upd (upd (upd (upd (upd (upd (upd (upd (M.1 151) 13 8) 14 4) 15 4) 16 5) 17 0) 18 0) 19 0) 20 0)) (k := 8) (x := 0) (by decide) hR) (by omega) ⟨(Nat.le_of_ble_eq_true rfl), (Nat.le_of_ble_eq_true rfl), (Nat.le_of_ble_eq_true rfl)⟩ (fun h => by cases h) (fun v1 ly1 M1 ⟨q1, q2, q3⟩ => ?_)
      rw [q1, q2, q3]
      refine Rn.meq (M2 := sI (sI M 149 (upd (upd (upd (upd (upd (upd (M.1 149) 0 0) 24 (nI n)) 2 0) 25 0) 29 0) 30 (-1))) 151 (upd (upd (upd (upd (upd (upd (upd (upd (upd (M.1 151) 13 8) 14 4) 15 4) 16 5) 17 0) 18 0) 19 0) 20 0) 21 0)) (sI_sI _ _ _ _) ?_
      show Rn G l mX12_text (129, 0, 0, false) 91 [some (.ref 149), some (.int (nI n)), some (.int 8)] [] ly (sI (sI M 149 (upd (upd (upd (upd (upd (upd (M.1 149) 0 0) 24 (nI n)) 2 0) 25 0) 29 0) 30 (-1))) 151 (upd (upd (upd (upd (upd (upd (upd (upd (upd (M.1 151) 13 8) 14 4) 15 4) 16 5) 17 0) 18 0) 19 0) 20 0) 21 0)) Q
      refine Rn.iincv (j' := 1) (lv' := [some (.ref 149), some (.int (nI n)), some (.int (8 + 1))]) dX12_text_91 rfl rfl (by decide) rfl ?_
      show Rn G l mX12_text (129, 0, 0, false) 94 [some (.ref 149), some (.int (nI n)), some (.int 9)] [] ly (sI (sI M 149 (upd (upd (upd (upd (upd (upd (M.1 149) 0 0) 24 (nI n)) 2 0) 25 0) 29 0) 30 (-1))) 151 (upd (upd (upd (upd (upd (upd (upd (upd (upd (M.1 151) 13 8) 14 4) 15 4) 16 5) 17 0) 18 0) 19 0) 20 0) 21 0)) Q
      refine Rn.goto dX12_text_94 ?_
      refine Rn.iload_n dX12_text_47 rfl ?_
      refine Rn.bipushv (v := 13) dX12_text_48 bp_13 ?_
      show Rn G l mX12_text (129, 0, 0, false) 50 [some (.ref 149), some (.int (nI n)), some (.int 9)] [.int 13, .int 9] ly (sI (sI M 149 (upd (upd (upd (upd (upd (upd (M.1 149) 0 0) 24 (nI n)) 2 0) 25 0) 29 0) 30 (-1))) 151 (upd (upd (upd (upd (upd (upd (upd (upd (upd (M.1 151) 13 8) 14 4) 15 4) 16 5) 17 0) 18 0) 19 0) 20 0) 21 0)) Q
      refine Rn.icmp_ge dX12_text_50 (fun h9 => (by first | exact absurd h9 (by decide) | exact absurd (by decide) h9)) (fun h9 => ?_)
      refine Rn.aload_n dX12_text_53 rfl ?_
      refine Rn.iload_n dX12_text_54 rfl ?_
      refine Rn.iload_n dX12_text_55 rfl ?_
      show Rn G l mX12_text (129, 0, 0, false) 56 [some (.ref 149), some (.int (nI n)), some (.int 9)] [.int 9, .int 9, .ref 149] ly (sI (sI M 149 (upd (upd (upd (upd (upd (upd (M.1 149) 0 0) 24 (nI n)) 2 0) 25 0) 29 0) 30 (-1))) 151 (upd (upd (upd (upd (upd (upd (upd (upd (upd (M.1 151) 13 8) 14 4) 15 4) 16 5) 17 0) 18 0) 19 0) 20 0) 21 0)) Q
      refine Rn.if_ne dX12_text_56 (fun h9 => ?_) (fun h9 => (by first | exact absurd h9 (by decide) | exact absurd (by decide) h9))
      refine Rn.iload_n dX12_text_64 rfl ?_
      refine Rn.iconstv (v := 1) dX12_text_65 ic_1 ?_
      show Rn G l mX12_text (129, 0, 0, false) 66 [some (.ref 149), some (.int (nI n)), some (.int 9)] [.int 1, .int 9, .int 9, .ref 149] ly (sI (sI M 149 (upd (upd (upd (upd (upd (upd (M.1 149) 0 0) 24 (nI n)) 2 0) 25 0) 29 0) 30 (-1))) 151 (upd (upd (upd (upd (upd (upd (upd (upd (upd (M.1 151) 13 8) 14 4) 15 4) 16 5) 17 0) 18 0) 19 0) 20 0) 21 0)) Q
      refine Rn.icmp_eq dX12_text_66 (fun h9 => (by first | exact absurd h9 (by decide) | exact absurd (by decide) h9)) (fun h9 => ?_)
      refine Rn.iload_n dX12_text_69 rfl ?_
      refine Rn.iconstv (v := 2) dX12_text_70 ic_2 ?_
      show Rn G l mX12_text (129, 0, 0, false) 71 [some (.ref 149), some (.int (nI n)), some (.int 9)] [.int 2, .int 9, .int 9, .ref 149] ly (sI (sI M 149 (upd (upd (upd (upd (upd (upd (M.1 149) 0 0) 24 (nI n)) 2 0) 25 0) 29 0) 30 (-1))) 151 (upd (upd (upd (upd (upd (upd (upd (upd (upd (M.1 151) 13 8) 14 4) 15 4) 16 5) 17 0) 18 0) 19 0) 20 0) 21 0)) Q
      refine Rn.icmp_ne dX12_text_71 (fun h9 => ?_) (fun h9 => (by first | exact absurd h9 (by decide) | exact absurd (by decide) h9))
      refine Rn.iload_n dX12_text_78 rfl ?_
      refine Rn.iconstv (v := 3) dX12_text_79 ic_3 ?_
      show Rn G l mX12_text (129, 0, 0, false) 80 [some (.ref 149), some (.int (nI n)), some (.int 9)] [.int 3, .int 9, .int 9, .ref 149] ly (sI (sI M 149 (upd (upd (upd (upd (upd (upd (M.1 149) 0 0) 24 (nI n)) 2 0) 25 0) 29 0) 30 (-1))) 151 (upd (upd (upd (upd (upd (upd (upd (upd (upd (M.1 151) 13 8) 14 4) 15 4) 16 5) 17 0) 18 0) 19 0) 20 0) 21 0)) Q
      refine Rn.icmp_ne dX12_text_80 (fun h9 => ?_) (fun h9 => (by first | exact absurd h9 (by decide) | exact absurd (by decide) h9))
      refine Rn.iconstv (v := 0) dX12_text_87 ic_0 ?_
      refine Rn.callV2 dX12_text_88 vX12_265 (rc149 hR) (by decide) rfl (tX12_reads (M := sI (sI M 149 (upd (upd (upd (upd (upd (upd (M.1 149) 0 0) 24 (nI n)) 2 0) 25 0) 29 0) 30 (-1))) 151 (upd (upd (upd (upd (upd (upd (upd (upd (upd (M.1 151) 13 8) 14 4) 15 4) 16 5) 17 0) 18 0) 19 0) 20 0) 21 0)) (k := 9) (x := 0) (by decide) hR) (by omega) ⟨(Nat.le_of_ble_eq_true rfl), (Nat.le_of_ble_eq_true rfl), (Nat.le_of_ble_eq_true rfl)⟩ (fun h => by cases h) (fun v1 ly1 M1 ⟨q1, q2, q3⟩ => ?_)
      rw [q1, q2, q3]
      refine Rn.meq (M2 := sI (sI M 149 (upd (upd (upd (upd (upd (upd (M.1 149) 0 0) 24 (nI n)) 2 0) 25 0) 29 0) 30 (-1))) 151 (upd (upd (upd (upd (upd (upd (upd (upd (upd (upd (M.1 151) 13 8) 14 4) 15 4) 16 5) 17 0) 18 0) 19 0) 20 0) 21 0) 22 0)) (sI_sI _ _ _ _) ?_
      show Rn G l mX12_text (129, 0, 0, false) 91 [some (.ref 149), some (.int (nI n)), some (.int 9)] [] ly (sI (sI M 149 (upd (upd (upd (upd (upd (upd (M.1 149) 0 0) 24 (nI n)) 2 0) 25 0) 29 0) 30 (-1))) 151 (upd (upd (upd (upd (upd (upd (upd (upd (upd (upd (M.1 151) 13 8) 14 4) 15 4) 16 5) 17 0) 18 0) 19 0) 20 0) 21 0) 22 0)) Q
      refine Rn.iincv (j' := 1) (lv' := [some (.ref 149), some (.int (nI n)), some (.int (9 + 1))]) dX12_text_91 rfl rfl (by decide) rfl ?_
      show Rn G l mX12_text (129, 0, 0, false) 94 [some (.ref 149), some (.int (nI n)), some (.int 10)] [] ly (sI (sI M 149 (upd (upd (upd (upd (upd (upd (M.1 149) 0 0) 24 (nI n)) 2 0) 25 0) 29 0) 30 (-1))) 151 (upd (upd (upd (upd (upd (upd (upd (upd (upd (upd (M.1 151) 13 8) 14 4) 15 4) 16 5) 17 0) 18 0) 19 0) 20 0) 21 0) 22 0)) Q
      refine Rn.goto dX12_text_94 ?_
      refine Rn.iload_n dX12_text_47 rfl ?_
      refine Rn.bipushv (v := 13) dX12_text_48 bp_13 ?_
      show Rn G l mX12_text (129, 0, 0, false) 50 [some (.ref 149), some (.int (nI n)), some (.int 10)] [.int 13, .int 10] ly (sI (sI M 149 (upd (upd (upd (upd (upd (upd (M.1 149) 0 0) 24 (nI n)) 2 0) 25 0) 29 0) 30 (-1))) 151 (upd (upd (upd (upd (upd (upd (upd (upd (upd (upd (M.1 151) 13 8) 14 4) 15 4) 16 5) 17 0) 18 0) 19 0) 20 0) 21 0) 22 0)) Q
      refine Rn.icmp_ge dX12_text_50 (fun h9 => (by first | exact absurd h9 (by decide) | exact absurd (by decide) h9)) (fun h9 => ?_)
      refine Rn.aload_n dX12_text_53 rfl ?_
      refine Rn.iload_n dX12_text_54 rfl ?_
      refine Rn.iload_n dX12_text_55 rfl ?_
      show Rn G l mX12_text (129, 0, 0, false) 56 [some (.ref 149), some (.int (nI n)), some (.int 10)] [.int 10, .int 10, .ref 149] ly (sI (sI M 149 (upd (upd (upd (upd (upd (upd (M.1 149) 0 0) 24 (nI n)) 2 0) 25 0) 29 0) 30 (-1))) 151 (upd (upd (upd (upd (upd (upd (upd (upd (upd (upd (M.1 151) 13 8) 14 4) 15 4) 16 5) 17 0) 18 0) 19 0) 20 0) 21 0) 22 0)) Q
      refine Rn.if_ne dX12_text_56 (fun h9 => ?_) (fun h9 => (by first | exact absurd h9 (by decide) | exact absurd (by decide) h9))
      refine Rn.iload_n dX12_text_64 rfl ?_
      refine Rn.iconstv (v := 1) dX12_text_65 ic_1 ?_
      show Rn G l mX12_text (129, 0, 0, false) 66 [some (.ref 149), some (.int (nI n)), some (.int 10)] [.int 1, .int 10, .int 10, .ref 149] ly (sI (sI M 149 (upd (upd (upd (upd (upd (upd (M.1 149) 0 0) 24 (nI n)) 2 0) 25 0) 29 0) 30 (-1))) 151 (upd (upd (upd (upd (upd (upd (upd (upd (upd (upd (M.1 151) 13 8) 14 4) 15 4) 16 5) 17 0) 18 0) 19 0) 20 0) 21 0) 22 0)) Q
      refine Rn.icmp_eq dX12_text_66 (fun h9 => (by first | exact absurd h9 (by decide) | exact absurd (by decide) h9)) (fun h9 => ?_)
      refine Rn.iload_n dX12_text_69 rfl ?_
      refine Rn.iconstv (v := 2) dX12_text_70 ic_2 ?_
      show Rn G l mX12_text (129, 0, 0, false) 71 [some (.ref 149), some (.int (nI n)), some (.int 10)] [.int 2, .int 10, .int 10, .ref 149] ly (sI (sI M 149 (upd (upd (upd (upd (upd (upd (M.1 149) 0 0) 24 (nI n)) 2 0) 25 0) 29 0) 30 (-1))) 151 (upd (upd (upd (upd (upd (upd (upd (upd (upd (upd (M.1 151) 13 8) 14 4) 15 4) 16 5) 17 0) 18 0) 19 0) 20 0) 21 0) 22 0)) Q
      refine Rn.icmp_ne dX12_text_71 (fun h9 => ?_) (fun h9 => (by first | exact absurd h9 (by decide) | exact absurd (by decide) h9))
      refine Rn.iload_n dX12_text_78 rfl ?_
      refine Rn.iconstv (v := 3) dX12_text_79 ic_3 ?_
      show Rn G l mX12_text (129, 0, 0, false) 80 [some (.ref 149), some (.int (nI n)), some (.int 10)] [.int 3, .int 10, .int 10, .ref 149] ly (sI (sI M 149 (upd (upd (upd (upd (upd (upd (M.1 149) 0 0) 24 (nI n)) 2 0) 25 0) 29 0) 30 (-1))) 151 (upd (upd (upd (upd (upd (upd (upd (upd (upd (upd (M.1 151) 13 8) 14 4) 15 4) 16 5) 17 0) 18 0) 19 0) 20 0) 21 0) 22 0)) Q
      refine Rn.icmp_ne dX12_text_80 (fun h9 => ?_) (fun h9 => (by first | exact absurd h9 (by decide) | exact absurd (by decide) h9))
      refine Rn.iconstv (v := 0) dX12_text_87 ic_0 ?_
      refine Rn.callV2 dX12_text_88 vX12_265 (rc149 hR) (by decide) rfl (tX12_reads (M := sI (sI M 149 (upd (upd (upd (upd (upd (upd (M.1 149) 0 0) 24 (nI n)) 2 0) 25 0) 29 0) 30 (-1))) 151 (upd (upd (upd (upd (upd (upd (upd (upd (upd (upd (M.1 151) 13 8) 14 4) 15 4) 16 5) 17 0) 18 0) 19 0) 20 0) 21 0) 22 0)) (k := 10) (x := 0) (by decide) hR) (by omega) ⟨(Nat.le_of_ble_eq_true rfl), (Nat.le_of_ble_eq_true rfl), (Nat.le_of_ble_eq_true rfl)⟩ (fun h => by cases h) (fun v1 ly1 M1 ⟨q1, q2, q3⟩ => ?_)
      rw [q1, q2, q3]
      refine Rn.meq (M2 := sI (sI M 149 (upd (upd (upd (upd (upd (upd (M.1 149) 0 0) 24 (nI n)) 2 0) 25 0) 29 0) 30 (-1))) 151 (upd (upd (upd (upd (upd (upd (upd (upd (upd (upd (upd (M.1 151) 13 8) 14 4) 15 4) 16 5) 17 0) 18 0) 19 0) 20 0) 21 0) 22 0) 23 0)) (sI_sI _ _ _ _) ?_
      show Rn G l mX12_text (129, 0, 0, false) 91 [some (.ref 149), some (.int (nI n)), some (.int 10)] [] ly (sI (sI M 149 (upd (upd (upd (upd (upd (upd (M.1 149) 0 0) 24 (nI n)) 2 0) 25 0) 29 0) 30 (-1))) 151 (upd (upd (upd (upd (upd (upd (upd (upd (upd (upd (upd (M.1 151) 13 8) 14 4) 15 4) 16 5) 17 0) 18 0) 19 0) 20 0) 21 0) 22 0) 23 0)) Q
      refine Rn.iincv (j' := 1) (lv' := [some (.ref 149), some (.int (nI n)), some (.int (10 + 1))]) dX12_text_91 rfl rfl (by decide) rfl ?_
      show Rn G l mX12_text (129, 0, 0, false) 94 [some (.ref 149), some (.int (nI n)), some (.int 11)] [] ly (sI (sI M 149 (upd (upd (upd (upd (upd (upd (M.1 149) 0 0) 24 (nI n)) 2 0) 25 0) 29 0) 30 (-1))) 151 (upd (upd (upd (upd (upd (upd (upd (upd (upd (upd (upd (M.1 151) 13 8) 14 4) 15 4) 16 5) 17 0) 18 0) 19 0) 20 0) 21 0) 22 0) 23 0)) Q
      refine Rn.goto dX12_text_94 ?_
      refine Rn.iload_n dX12_text_47 rfl ?_
      refine Rn.bipushv (v := 13) dX12_text_48 bp_13 ?_
      show Rn G l mX12_text (129, 0, 0, false) 50 [some (.ref 149), some (.int (nI n)), some (.int 11)] [.int 13, .int 11] ly (sI (sI M 149 (upd (upd (upd (upd (upd (upd (M.1 149) 0 0) 24 (nI n)) 2 0) 25 0) 29 0) 30 (-1))) 151 (upd (upd (upd (upd (upd (upd (upd (upd (upd (upd (upd (M.1 151) 13 8) 14 4) 15 4) 16 5) 17 0) 18 0) 19 0) 20 0) 21 0) 22 0) 23 0)) Q
      refine Rn.icmp_ge dX12_text_50 (fun h9 => (by first | exact absurd h9 (by decide) | exact absurd (by decide) h9)) (fun h9 => ?_)
      refine Rn.aload_n dX12_text_53 rfl ?_
      refine Rn.iload_n dX12_text_54 rfl ?_
      refine Rn.iload_n dX12_text_55 rfl ?_
      show Rn G l mX12_text (129, 0, 0, false) 56 [some (.ref 149), some (.int (nI n)), some (.int 11)] [.int 11, .int 11, .ref 149] ly (sI (sI M 149 (upd (upd (upd (upd (upd (upd (M.1 149) 0 0) 24 (nI n)) 2 0) 25 0) 29 0) 30 (-1))) 151 (upd (upd (upd (upd (upd (upd (upd (upd (upd (upd (upd (M.1 151) 13 8) 14 4) 15 4) 16 5) 17 0) 18 0) 19 0) 20 0) 21 0) 22 0) 23 0)) Q
      refine Rn.if_ne dX12_text_56 (fun h9 => ?_) (fun h9 => (by first | exact absurd h9 (by decide) | exact absurd (by decide) h9))
      refine Rn.iload_n dX12_text_64 rfl ?_
      refine Rn.iconstv (v := 1) dX12_text_65 ic_1 ?_
      show Rn G l mX12_text (129, 0, 0, false) 66 [some (.ref 149), some (.int (nI n)), some (.int 11)] [.int 1, .int 11, .int 11, .ref 149] ly (sI (sI M 149 (upd (upd (upd (upd (upd (upd (M.1 149) 0 0) 24 (nI n)) 2 0) 25 0) 29 0) 30 (-1))) 151 (upd (upd (upd (upd (upd (upd (upd (upd (upd (upd (upd (M.1 151) 13 8) 14 4) 15 4) 16 5) 17 0) 18 0) 19 0) 20 0) 21 0) 22 0) 23 0)) Q
      refine Rn.icmp_eq dX12_text_66 (fun h9 => (by first | exact absurd h9 (by decide) | exact absurd (by decide) h9)) (fun h9 => ?_)
      refine Rn.iload_n dX12_text_69 rfl ?_
      refine Rn.iconstv (v := 2) dX12_text_70 ic_2 ?_
      show Rn G l mX12_text (129, 0, 0, false) 71 [some (.ref 149), some (.int (nI n)), some (.int 11)] [.int 2, .int 11, .int 11, .ref 149] ly (sI (sI M 149 (upd (upd (upd (upd (upd (upd (M.1 149) 0 0) 24 (nI n)) 2 0) 25 0) 29 0) 30 (-1))) 151 (upd (upd (upd (upd (upd (upd (upd (upd (upd (upd (upd (M.1 151) 13 8) 14 4) 15 4) 16 5) 17 0) 18 0) 19 0) 20 0) 21 0) 22 0) 23 0)) Q
      refine Rn.icmp_ne dX12_text_71 (fun h9 => ?_) (fun h9 => (by first | exact absurd h9 (by decide) | exact absurd (by decide) h9))
      refine Rn.iload_n dX12_text_78 rfl ?_
      refine Rn.iconstv (v := 3) dX12_text_79 ic_3 ?_
      show Rn G l mX12_text (129, 0, 0, false) 80 [some (.ref 149), some (.int (nI n)), some (.int 11)] [.int 3, .int 11, .int 11, .ref 149] ly (sI (sI M 149 (upd (upd (upd (upd (upd (upd (M.1 149) 0 0) 24 (nI n)) 2 0) 25 0) 29 0) 30 (-1))) 151 (upd (upd (upd (upd (upd (upd (upd (upd (upd (upd (upd (M.1 151) 13 8) 14 4) 15 4) 16 5) 17 0) 18 0) 19 0) 20 0) 21 0) 22 0) 23 0)) Q
      refine Rn.icmp_ne dX12_text_80 (fun h9 => ?_) (fun h9 => (by first | exact absurd h9 (by decide) | exact absurd (by decide) h9))
      refine Rn.iconstv (v := 0) dX12_text_87 ic_0 ?_
      refine Rn.callV2 dX12_text_88 vX12_265 (rc149 hR) (by decide) rfl (tX12_reads (M := sI (sI M 149 (upd (upd (upd (upd (upd (upd (M.1 149) 0 0) 24 (nI n)) 2 0) 25 0) 29 0) 30 (-1))) 151 (upd (upd (upd (upd (upd (upd (upd (upd (upd (upd (upd (M.1 151) 13 8) 14 4) 15 4) 16 5) 17 0) 18 0) 19 0) 20 0) 21 0) 22 0) 23 0)) (k := 11) (x := 0) (by decide) hR) (by omega) ⟨(Nat.le_of_ble_eq_true rfl), (Nat.le_of_ble_eq_true rfl), (Nat.le_of_ble_eq_true rfl)⟩ (fun h => by cases h) (fun v1 ly1 M1 ⟨q1, q2, q3⟩ => ?_)
      rw [q1, q2, q3]
      refine Rn.meq (M2 := sI (sI M 149 (upd (upd (upd (upd (upd (upd (M.1 149) 0 0) 24 (nI n)) 2 0) 25 0) 29 0) 30 (-1))) 151 (upd (upd (upd (upd (upd (upd (upd (upd (upd (upd (upd (upd (M.1 151) 13 8) 14 4) 15 4) 16 5) 17 0) 18 0) 19 0) 20 0) 21 0) 22 0) 23 0) 24 0)) (sI_sI _ _ _ _) ?_
      show Rn G l mX12_text (129, 0, 0, false) 91 [some (.ref 149), some (.int (nI n)), some (.int 11)] [] ly (sI (sI M 149 (upd (upd (upd (upd (upd (upd (M.1 149) 0 0) 24 (nI n)) 2 0) 25 0) 29 0) 30 (-1))) 151 (upd (upd (upd (upd (upd (upd (upd (upd (upd (upd (upd (upd (M.1 151) 13 8) 14 4) 15 4) 16 5) 17 0) 18 0) 19 0) 20 0) 21 0) 22 0) 23 0) 24 0)) Q
      refine Rn.iincv (j' := 1) (lv' := [some (.ref 149), some (.int (nI n)), some (.int (11 + 1))]) dX12_text_91 rfl rfl (by decide) rfl ?_
      show Rn G l mX12_text (129, 0, 0, false) 94 [some (.ref 149), some (.int (nI n)), some (.int 12)] [] ly (sI (sI M 149 (upd (upd (upd (upd (upd (upd (M.1 149) 0 0) 24 (nI n)) 2 0) 25 0) 29 0) 30 (-1))) 151 (upd (upd (upd (upd (upd (upd (upd (upd (upd (upd (upd (upd (M.1 151) 13 8) 14 4) 15 4) 16 5) 17 0) 18 0) 19 0) 20 0) 21 0) 22 0) 23 0) 24 0)) Q
      refine Rn.goto dX12_text_94 ?_
      refine Rn.iload_n dX12_text_47 rfl ?_
      refine Rn.bipushv (v := 13) dX12_text_48 bp_13 ?_
      show Rn G l mX12_text (129, 0, 0, false) 50 [some (.ref 149), some (.int (nI n)), some (.int 12)] [.int 13, .int 12] ly (sI (sI M 149 (upd (upd (upd (upd (upd (upd (M.1 149) 0 0) 24 (nI n)) 2 0) 25 0) 29 0) 30 (-1))) 151 (upd (upd (upd (upd (upd (upd (upd (upd (upd (upd (upd (upd (M.1 151) 13 8) 14 4) 15 4) 16 5) 17 0) 18 0) 19 0) 20 0) 21 0) 22 0) 23 0) 24 0)) Q
      refine Rn.icmp_ge dX12_text_50 (fun h9 => (by first | exact absurd h9 (by decide) | exact absurd (by decide) h9)) (fun h9 => ?_)
      refine Rn.aload_n dX12_text_53 rfl ?_
      refine Rn.iload_n dX12_text_54 rfl ?_
      refine Rn.iload_n dX12_text_55 rfl ?_
      show Rn G l mX12_text (129, 0, 0, false) 56 [some (.ref 149), some (.int (nI n)), some (.int 12)] [.int 12, .int 12, .ref 149] ly (sI (sI M 149 (upd (upd (upd (upd (upd (upd (M.1 149) 0 0) 24 (nI n)) 2 0) 25 0) 29 0) 30 (-1))) 151 (upd (upd (upd (upd (upd (upd (upd (upd (upd (upd (upd (upd (M.1 151) 13 8) 14 4) 15 4) 16 5) 17 0) 18 0) 19 0) 20 0) 21 0) 22 0) 23 0) 24 0)) Q
      refine Rn.if_ne dX12_text_56 (fun h9 => ?_) (fun h9 => (by first | exact absurd h9 (by decide) | exact absurd (by decide) h9))
      refine Rn.iload_n dX12_text_64 rfl ?_
      refine Rn.iconstv (v := 1) dX12_text_65 ic_1 ?_
      show Rn G l mX12_text (129, 0, 0, false) 66 [some (.ref 149), some (.int (nI n)), some (.int 12)] [.int 1, .int 12, .int 12, .ref 149] ly (sI (sI M 149 (upd (upd (upd (upd (upd (upd (M.1 149) 0 0) 24 (nI n)) 2 0) 25 0) 29 0) 30 (-1))) 151 (upd (upd (upd (upd (upd (upd (upd (upd (upd (upd (upd (upd (M.1 151) 13 8) 14 4) 15 4) 16 5) 17 0) 18 0) 19 0) 20 0) 21 0) 22 0) 23 0) 24 0)) Q
      refine Rn.icmp_eq dX12_text_66 (fun h9 => (by first | exact absurd h9 (by decide) | exact absurd (by decide) h9)) (fun h9 => ?_)
      refine Rn.iload_n dX12_text_69 rfl ?_
      refine Rn.iconstv (v := 2) dX12_text_70 ic_2 ?_
      show Rn G l mX12_text (129, 0, 0, false) 71 [some (.ref 149), some (.int (nI n)), some (.int 12)] [.int 2, .int 12, .int 12, .ref 149] ly (sI (sI M 149 (upd (upd (upd (upd (upd (upd (M.1 149) 0 0) 24 (nI n)) 2 0) 25 0) 29 0) 30 (-1))) 151 (upd (upd (upd (upd (upd (upd (upd (upd (upd (upd (upd (upd (M.1 151) 13 8) 14 4) 15 4) 16 5) 17 0) 18 0) 19 0) 20 0) 21 0) 22 0) 23 0) 24 0)) Q
      refine Rn.icmp_ne dX12_text_71 (fun h9 => ?_) (fun h9 => (by first | exact absurd h9 (by decide) | exact absurd (by decide) h9))
      refine Rn.iload_n dX12_text_78 rfl ?_
      refine Rn.iconstv (v := 3) dX12_text_79 ic_3 ?_
      show Rn G l mX12_text (129, 0, 0, false) 80 [some (.ref 149), some (.int (nI n)), some (.int 12)] [.int 3, .int 12, .int 12, .ref 149] ly (sI (sI M 149 (upd (upd (upd (upd (upd (upd (M.1 149) 0 0) 24 (nI n)) 2 0) 25 0) 29 0) 30 (-1))) 151 (upd (upd (upd (upd (upd (upd (upd (upd (upd (upd (upd (upd (M.1 151) 13 8) 14 4) 15 4) 16 5) 17 0) 18 0) 19 0) 20 0) 21 0) 22 0) 23 0) 24 0)) Q
      refine Rn.icmp_ne dX12_text_80 (fun h9 => ?_) (fun h9 => (by first | exact absurd h9 (by decide) | exact absurd (by decide) h9))
      refine Rn.iconstv (v := 0) dX12_text_87 ic_0 ?_
      refine Rn.callV2 dX12_text_88 vX12_265 (rc149 hR) (by decide) rfl (tX12_reads (M := sI (sI M 149 (upd (upd (upd (upd (upd (upd (M.1 149) 0 0) 24 (nI n)) 2 0) 25 0) 29 0) 30 (-1))) 151 (upd (upd (upd (upd (upd (upd (upd (upd (upd (upd (upd (upd (M.1 151) 13 8) 14 4) 15 4) 16 5) 17 0) 18 0) 19 0) 20 0) 21 0) 22 0) 23 0) 24 0)) (k := 12) (x := 0) (by decide) hR) (by omega) ⟨(Nat.le_of_ble_eq_true rfl), (Nat.le_of_ble_eq_true rfl), (Nat.le_of_ble_eq_true rfl)⟩ (fun h => by cases h) (fun v1 ly1 M1 ⟨q1, q2, q3⟩ => ?_)
      rw [q1, q2, q3]
      refine Rn.meq (M2 := sI (sI M 149 (upd (upd (upd (upd (upd (upd (M.1 149) 0 0) 24 (nI n)) 2 0) 25 0) 29 0) 30 (-1))) 151 (upd (upd (upd (upd (upd (upd (upd (upd (upd (upd (upd (upd (upd (M.1 151) 13 8) 14 4) 15 4) 16 5) 17 0) 18 0) 19 0) 20 0) 21 0) 22 0) 23 0) 24 0) 25 0)) (sI_sI _ _ _ _) ?_
      show Rn G l mX12_text (129, 0, 0, false) 91 [some (.ref 149), some (.int (nI n)), some (.int 12)] [] ly (sI (sI M 149 (upd (upd (upd (upd (upd (upd (M.1 149) 0 0) 24 (nI n)) 2 0) 25 0) 29 0) 30 (-1))) 151 (upd (upd (upd (upd (upd (upd (upd (upd (upd (upd (upd (upd (upd (M.1 151) 13 8) 14 4) 15 4) 16 5) 17 0) 18 0) 19 0) 20 0) 21 0) 22 0) 23 0) 24 0) 25 0)) Q
      refine Rn.iincv (j' := 1) (lv' := [some (.ref 149), some (.int (nI n)), some (.int (12 + 1))]) dX12_text_91 rfl rfl (by decide) rfl ?_
      show Rn G l mX12_text (129, 0, 0, false) 94 [some (.ref 149), some (.int (nI n)), some (.int 13)] [] ly (sI (sI M 149 (upd (upd (upd (upd (upd (upd (M.1 149) 0 0) 24 (nI n)) 2 0) 25 0) 29 0) 30 (-1))) 151 (upd (upd (upd (upd (upd (upd (upd (upd (upd (upd (upd (upd (upd (M.1 151) 13 8) 14 4) 15 4) 16 5) 17 0) 18 0) 19 0) 20 0) 21 0) 22 0) 23 0) 24 0) 25 0)) Q
      refine Rn.goto dX12_text_94 ?_
      refine Rn.iload_n dX12_text_47 rfl ?_
      refine Rn.bipushv (v := 13) dX12_text_48 bp_13 ?_
      show Rn G l mX12_text (129, 0, 0, false) 50 [some (.ref 149), some (.int (nI n)), some (.int 13)] [.int 13, .int 13] ly (sI (sI M 149 (upd (upd (upd (upd (upd (upd (M.1 149) 0 0) 24 (nI n)) 2 0) 25 0) 29 0) 30 (-1))) 151 (upd (upd (upd (upd (upd (upd (upd (upd (upd (upd (upd (upd (upd (M.1 151) 13 8) 14 4) 15 4) 16 5) 17 0) 18 0) 19 0) 20 0) 21 0) 22 0) 23 0) 24 0) 25 0)) Q
      refine Rn.icmp_ge dX12_text_50 (fun h9 => ?_) (fun h9 => (by first | exact absurd h9 (by decide) | exact absurd (by decide) h9))
      refine Rn.iconstv (v := 5) dX12_text_97 ic_5 ?_
      refine Rn.istore_n (lv' := [some (.ref 149), some (.int (nI n)), some (.int 5)]) dX12_text_98 (by decide) rfl ?_
      refine Rn.iload_n dX12_text_99 rfl ?_
      refine Rn.bipushv (v := 10) dX12_text_100 bp_10 ?_
      show Rn G l mX12_text (129, 0, 0, false) 102 [some (.ref 149), some (.int (nI n)), some (.int 5)] [.int 10, .int 5] ly (sI (sI M 149 (upd (upd (upd (upd (upd (upd (M.1 149) 0 0) 24 (nI n)) 2 0) 25 0) 29 0) 30 (-1))) 151 (upd (upd (upd (upd (upd (upd (upd (upd (upd (upd (upd (upd (upd (M.1 151) 13 8) 14 4) 15 4) 16 5) 17 0) 18 0) 19 0) 20 0) 21 0) 22 0) 23 0) 24 0) 25 0)) Q
      refine Rn.icmp_ge dX12_text_102 (fun h9 => (by first | exact absurd h9 (by decide) | exact absurd (by decide) h9)) (fun h9 => ?_)
      refine Rn.aload_n dX12_text_105 rfl ?_
      refine Rn.getR dX12_text_106 fX12_57 rfl (rc149 hR) (show M.2.2 149 17 = some 165 from (rpt17 hR)) ?_
      refine Rn.iload_n dX12_text_109 rfl ?_
      refine Rn.iconstv (v := 0) dX12_text_110 ic_0 ?_
      refine Rn.iast dX12_text_111 (rc165 hR) (by unfold vp_in; decide) ?_
      refine Rn.aload_n dX12_text_112 rfl ?_
      refine Rn.getR dX12_text_113 fX12_60 rfl (rc149 hR) (show M.2.2 149 18 = some 166 from (rpt18 hR)) ?_
      refine Rn.iload_n dX12_text_116 rfl ?_
      refine Rn.iconstv (v := 0) dX12_text_117 ic_0 ?_
      refine Rn.iast dX12_text_118 (rc166 hR) (by unfold vp_in; decide) ?_
      refine Rn.iincv (j' := 1) (lv' := [some (.ref 149), some (.int (nI n)), some (.int (5 + 1))]) dX12_text_119 rfl rfl (by decide) rfl ?_
      show Rn G l mX12_text (129, 0, 0, false) 122 [some (.ref 149), some (.int (nI n)), some (.int 6)] [] ly (sI (sI (sI (sI M 149 (upd (upd (upd (upd (upd (upd (M.1 149) 0 0) 24 (nI n)) 2 0) 25 0) 29 0) 30 (-1))) 151 (upd (upd (upd (upd (upd (upd (upd (upd (upd (upd (upd (upd (upd (M.1 151) 13 8) 14 4) 15 4) 16 5) 17 0) 18 0) 19 0) 20 0) 21 0) 22 0) 23 0) 24 0) 25 0)) 165 (upd (M.1 165) 5 0)) 166 (upd (M.1 166) 5 0)) Q
      refine Rn.goto dX12_text_122 ?_
      refine Rn.iload_n dX12_text_99 rfl ?_
      refine Rn.bipushv (v := 10) dX12_text_100 bp_10 ?_
      show Rn G l mX12_text (129, 0, 0, false) 102 [some (.ref 149), some (.int (nI n)), some (.int 6)] [.int 10, .int 6] ly (sI (sI (sI (sI M 149 (upd (upd (upd (upd (upd (upd (M.1 149) 0 0) 24 (nI n)) 2 0) 25 0) 29 0) 30 (-1))) 151 (upd (upd (upd (upd (upd (upd (upd (upd (upd (upd (upd (upd (upd (M.1 151) 13 8) 14 4) 15 4) 16 5) 17 0) 18 0) 19 0) 20 0) 21 0) 22 0) 23 0) 24 0) 25 0)) 165 (upd (M.1 165) 5 0)) 166 (upd (M.1 166) 5 0)) Q
      refine Rn.icmp_ge dX12_text_102 (fun h9 => (by first | exact absurd h9 (by decide) | exact absurd (by decide) h9)) (fun h9 => ?_)
      refine Rn.aload_n dX12_text_105 rfl ?_
      refine Rn.getR dX12_text_106 fX12_57 rfl (rc149 hR) (show M.2.2 149 17 = some 165 from (rpt17 hR)) ?_
      refine Rn.iload_n dX12_text_109 rfl ?_
      refine Rn.iconstv (v := 0) dX12_text_110 ic_0 ?_
      refine Rn.iast dX12_text_111 (rc165 hR) (by unfold vp_in; decide) ?_
      refine Rn.meq (M2 := sI (sI (sI (sI M 149 (upd (upd (upd (upd (upd (upd (M.1 149) 0 0) 24 (nI n)) 2 0) 25 0) 29 0) 30 (-1))) 151 (upd (upd (upd (upd (upd (upd (upd (upd (upd (upd (upd (upd (upd (M.1 151) 13 8) 14 4) 15 4) 16 5) 17 0) 18 0) 19 0) 20 0) 21 0) 22 0) 23 0) 24 0) 25 0)) 165 (upd (upd (M.1 165) 5 0) 6 0)) 166 (upd (M.1 166) 5 0)) ((sI_comm (show 166 ≠ 165 by decide)).trans (congrArg (fun m9 => sI m9 166 (upd (M.1 166) 5 0)) (sI_sI _ _ _ _))) ?_
      refine Rn.aload_n dX12_text_112 rfl ?_
      refine Rn.getR dX12_text_113 fX12_60 rfl (rc149 hR) (show M.2.2 149 18 = some 166 from (rpt18 hR)) ?_
      refine Rn.iload_n dX12_text_116 rfl ?_
      refine Rn.iconstv (v := 0) dX12_text_117 ic_0 ?_
      refine Rn.iast dX12_text_118 (rc166 hR) (by unfold vp_in; decide) ?_
      refine Rn.meq (M2 := sI (sI (sI (sI M 149 (upd (upd (upd (upd (upd (upd (M.1 149) 0 0) 24 (nI n)) 2 0) 25 0) 29 0) 30 (-1))) 151 (upd (upd (upd (upd (upd (upd (upd (upd (upd (upd (upd (upd (upd (M.1 151) 13 8) 14 4) 15 4) 16 5) 17 0) 18 0) 19 0) 20 0) 21 0) 22 0) 23 0) 24 0) 25 0)) 165 (upd (upd (M.1 165) 5 0) 6 0)) 166 (upd (upd (M.1 166) 5 0) 6 0)) (sI_sI _ _ _ _) ?_
      refine Rn.iincv (j' := 1) (lv' := [some (.ref 149), some (.int (nI n)), some (.int (6 + 1))]) dX12_text_119 rfl rfl (by decide) rfl ?_
      show Rn G l mX12_text (129, 0, 0, false) 122 [some (.ref 149), some (.int (nI n)), some (.int 7)] [] ly (sI (sI (sI (sI M 149 (upd (upd (upd (upd (upd (upd (M.1 149) 0 0) 24 (nI n)) 2 0) 25 0) 29 0) 30 (-1))) 151 (upd (upd (upd (upd (upd (upd (upd (upd (upd (upd (upd (upd (upd (M.1 151) 13 8) 14 4) 15 4) 16 5) 17 0) 18 0) 19 0) 20 0) 21 0) 22 0) 23 0) 24 0) 25 0)) 165 (upd (upd (M.1 165) 5 0) 6 0)) 166 (upd (upd (M.1 166) 5 0) 6 0)) Q
      refine Rn.goto dX12_text_122 ?_
      refine Rn.iload_n dX12_text_99 rfl ?_
      refine Rn.bipushv (v := 10) dX12_text_100 bp_10 ?_
      show Rn G l mX12_text (129, 0, 0, false) 102 [some (.ref 149), some (.int (nI n)), some (.int 7)] [.int 10, .int 7] ly (sI (sI (sI (sI M 149 (upd (upd (upd (upd (upd (upd (M.1 149) 0 0) 24 (nI n)) 2 0) 25 0) 29 0) 30 (-1))) 151 (upd (upd (upd (upd (upd (upd (upd (upd (upd (upd (upd (upd (upd (M.1 151) 13 8) 14 4) 15 4) 16 5) 17 0) 18 0) 19 0) 20 0) 21 0) 22 0) 23 0) 24 0) 25 0)) 165 (upd (upd (M.1 165) 5 0) 6 0)) 166 (upd (upd (M.1 166) 5 0) 6 0)) Q
      refine Rn.icmp_ge dX12_text_102 (fun h9 => (by first | exact absurd h9 (by decide) | exact absurd (by decide) h9)) (fun h9 => ?_)
      refine Rn.aload_n dX12_text_105 rfl ?_
      refine Rn.getR dX12_text_106 fX12_57 rfl (rc149 hR) (show M.2.2 149 17 = some 165 from (rpt17 hR)) ?_
      refine Rn.iload_n dX12_text_109 rfl ?_
      refine Rn.iconstv (v := 0) dX12_text_110 ic_0 ?_
      refine Rn.iast dX12_text_111 (rc165 hR) (by unfold vp_in; decide) ?_
      refine Rn.meq (M2 := sI (sI (sI (sI M 149 (upd (upd (upd (upd (upd (upd (M.1 149) 0 0) 24 (nI n)) 2 0) 25 0) 29 0) 30 (-1))) 151 (upd (upd (upd (upd (upd (upd (upd (upd (upd (upd (upd (upd (upd (M.1 151) 13 8) 14 4) 15 4) 16 5) 17 0) 18 0) 19 0) 20 0) 21 0) 22 0) 23 0) 24 0) 25 0)) 165 (upd (upd (upd (M.1 165) 5 0) 6 0) 7 0)) 166 (upd (upd (M.1 166) 5 0) 6 0)) ((sI_comm (show 166 ≠ 165 by decide)).trans (congrArg (fun m9 => sI m9 166 (upd (upd (M.1 166) 5 0) 6 0)) (sI_sI _ _ _ _))) ?_
      refine Rn.aload_n dX12_text_112 rfl ?_
      refine Rn.getR dX12_text_113 fX12_60 rfl (rc149 hR) (show M.2.2 149 18 = some 166 from (rpt18 hR)) ?_
      refine Rn.iload_n dX12_text_116 rfl ?_
      refine Rn.iconstv (v := 0) dX12_text_117 ic_0 ?_
      refine Rn.iast dX12_text_118 (rc166 hR) (by unfold vp_in; decide) ?_
      refine Rn.meq (M2 := sI (sI (sI (sI M 149 (upd (upd (upd (upd (upd (upd (M.1 149) 0 0) 24 (nI n)) 2 0) 25 0) 29 0) 30 (-1))) 151 (upd (upd (upd (upd (upd (upd (upd (upd (upd (upd (upd (upd (upd (M.1 151) 13 8) 14 4) 15 4) 16 5) 17 0) 18 0) 19 0) 20 0) 21 0) 22 0) 23 0) 24 0) 25 0)) 165 (upd (upd (upd (M.1 165) 5 0) 6 0) 7 0)) 166 (upd (upd (upd (M.1 166) 5 0) 6 0) 7 0)) (sI_sI _ _ _ _) ?_
      refine Rn.iincv (j' := 1) (lv' := [some (.ref 149), some (.int (nI n)), some (.int (7 + 1))]) dX12_text_119 rfl rfl (by decide) rfl ?_
      show Rn G l mX12_text (129, 0, 0, false) 122 [some (.ref 149), some (.int (nI n)), some (.int 8)] [] ly (sI (sI (sI (sI M 149 (upd (upd (upd (upd (upd (upd (M.1 149) 0 0) 24 (nI n)) 2 0) 25 0) 29 0) 30 (-1))) 151 (upd (upd (upd (upd (upd (upd (upd (upd (upd (upd (upd (upd (upd (M.1 151) 13 8) 14 4) 15 4) 16 5) 17 0) 18 0) 19 0) 20 0) 21 0) 22 0) 23 0) 24 0) 25 0)) 165 (upd (upd (upd (M.1 165) 5 0) 6 0) 7 0)) 166 (upd (upd (upd (M.1 166) 5 0) 6 0) 7 0)) Q
      refine Rn.goto dX12_text_122 ?_
      refine Rn.iload_n dX12_text_99 rfl ?_
      refine Rn.bipushv (v := 10) dX12_text_100 bp_10 ?_
      show Rn G l mX12_text (129, 0, 0, false) 102 [some (.ref 149), some (.int (nI n)), some (.int 8)] [.int 10, .int 8] ly (sI (sI (sI (sI M 149 (upd (upd (upd (upd (upd (upd (M.1 149) 0 0) 24 (nI n)) 2 0) 25 0) 29 0) 30 (-1))) 151 (upd (upd (upd (upd (upd (upd (upd (upd (upd (upd (upd (upd (upd (M.1 151) 13 8) 14 4) 15 4) 16 5) 17 0) 18 0) 19 0) 20 0) 21 0) 22 0) 23 0) 24 0) 25 0)) 165 (upd (upd (upd (M.1 165) 5 0) 6 0) 7 0)) 166 (upd (upd (upd (M.1 166) 5 0) 6 0) 7 0)) Q
      refine Rn.icmp_ge dX12_text_102 (fun h9 => (by first | exact absurd h9 (by decide) | exact absurd (by decide) h9)) (fun h9 => ?_)
      refine Rn.aload_n dX12_text_105 rfl ?_
      refine Rn.getR dX12_text_106 fX12_57 rfl (rc149 hR) (show M.2.2 149 17 = some 165 from (rpt17 hR)) ?_
      refine Rn.iload_n dX12_text_109 rfl ?_
      refine Rn.iconstv (v := 0) dX12_text_110 ic_0 ?_
      refine Rn.iast dX12_text_111 (rc165 hR) (by unfold vp_in; decide) ?_
      refine Rn.meq (M2 := sI (sI (sI (sI M 149 (upd (upd (upd (upd (upd (upd (M.1 149) 0 0) 24 (nI n)) 2 0) 25 0) 29 0) 30 (-1))) 151 (upd (upd (upd (upd (upd (upd (upd (upd (upd (upd (upd (upd (upd (M.1 151) 13 8) 14 4) 15 4) 16 5) 17 0) 18 0) 19 0) 20 0) 21 0) 22 0) 23 0) 24 0) 25 0)) 165 (upd (upd (upd (upd (M.1 165) 5 0) 6 0) 7 0) 8 0)) 166 (upd (upd (upd (M.1 166) 5 0) 6 0) 7 0)) ((sI_comm (show 166 ≠ 165 by decide)).trans (congrArg (fun m9 => sI m9 166 (upd (upd (upd (M.1 166) 5 0) 6 0) 7 0)) (sI_sI _ _ _ _))) ?_
      refine Rn.aload_n dX12_text_112 rfl ?_
      refine Rn.getR dX12_text_113 fX12_60 rfl (rc149 hR) (show M.2.2 149 18 = some 166 from (rpt18 hR)) ?_
      refine Rn.iload_n dX12_text_116 rfl ?_
      refine Rn.iconstv (v := 0) dX12_text_117 ic_0 ?_
      refine Rn.iast dX12_text_118 (rc166 hR) (by unfold vp_in; decide) ?_
      refine Rn.meq (M2 := sI (sI (sI (sI M 149 (upd (upd (upd (upd (upd (upd (M.1 149) 0 0) 24 (nI n)) 2 0) 25 0) 29 0) 30 (-1))) 151 (upd (upd (upd (upd (upd (upd (upd (upd (upd (upd (upd (upd (upd (M.1 151) 13 8) 14 4) 15 4) 16 5) 17 0) 18 0) 19 0) 20 0) 21 0) 22 0) 23 0) 24 0) 25 0)) 165 (upd (upd (upd (upd (M.1 165) 5 0) 6 0) 7 0) 8 0)) 166 (upd (upd (upd (upd (M.1 166) 5 0) 6 0) 7 0) 8 0)) (sI_sI _ _ _ _) ?_
      refine Rn.iincv (j' := 1) (lv' := [some (.ref 149), some (.int (nI n)), some (.int (8 + 1))]) dX12_text_119 rfl rfl (by decide) rfl ?_
      show Rn G l mX12_text (129, 0, 0, false) 122 [some (.ref 149), some (.int (nI n)), some (.int 9)] [] ly (sI (sI (sI (sI M 149 (upd (upd (upd (upd (upd (upd (M.1 149) 0 0) 24 (nI n)) 2 0) 25 0) 29 0) 30 (-1))) 151 (upd (upd (upd (upd (upd (upd (upd (upd (upd (upd (upd (upd (upd (M.1 151) 13 8) 14 4) 15 4) 16 5) 17 0) 18 0) 19 0) 20 0) 21 0) 22 0) 23 0) 24 0) 25 0)) 165 (upd (upd (upd (upd (M.1 165) 5 0) 6 0) 7 0) 8 0)) 166 (upd (upd (upd (upd (M.1 166) 5 0) 6 0) 7 0) 8 0)) Q
      refine Rn.goto dX12_text_122 ?_
      refine Rn.iload_n dX12_text_99 rfl ?_
      refine Rn.bipushv (v := 10) dX12_text_100 bp_10 ?_
      show Rn G l mX12_text (129, 0, 0, false) 102 [some (.ref 149), some (.int (nI n)), some (.int 9)] [.int 10, .int 9] ly (sI (sI (sI (sI M 149 (upd (upd (upd (upd (upd (upd (M.1 149) 0 0) 24 (nI n)) 2 0) 25 0) 29 0) 30 (-1))) 151 (upd (upd (upd (upd (upd (upd (upd (upd (upd (upd (upd (upd (upd (M.1 151) 13 8) 14 4) 15 4) 16 5) 17 0) 18 0) 19 0) 20 0) 21 0) 22 0) 23 0) 24 0) 25 0)) 165 (upd (upd (upd (upd (M.1 165) 5 0) 6 0) 7 0) 8 0)) 166 (upd (upd (upd (upd (M.1 166) 5 0) 6 0) 7 0) 8 0)) Q
      refine Rn.icmp_ge dX12_text_102 (fun h9 => (by first | exact absurd h9 (by decide) | exact absurd (by decide) h9)) (fun h9 => ?_)
      refine Rn.aload_n dX12_text_105 rfl ?_
      refine Rn.getR dX12_text_106 fX12_57 rfl (rc149 hR) (show M.2.2 149 17 = some 165 from (rpt17 hR)) ?_
      refine Rn.iload_n dX12_text_109 rfl ?_
      refine Rn.iconstv (v := 0) dX12_text_110 ic_0 ?_
      refine Rn.iast dX12_text_111 (rc165 hR) (by unfold vp_in; decide) ?_
      refine Rn.meq (M2 := sI (sI (sI (sI M 149 (upd (upd (upd (upd (upd (upd (M.1 149) 0 0) 24 (nI n)) 2 0) 25 0) 29 0) 30 (-1))) 151 (upd (upd (upd (upd (upd (upd (upd (upd (upd (upd (upd (upd (upd (M.1 151) 13 8) 14 4) 15 4) 16 5) 17 0) 18 0) 19 0) 20 0) 21 0) 22 0) 23 0) 24 0) 25 0)) 165 (upd (upd (upd (upd (upd (M.1 165) 5 0) 6 0) 7 0) 8 0) 9 0)) 166 (upd (upd (upd (upd (M.1 166) 5 0) 6 0) 7 0) 8 0)) ((sI_comm (show 166 ≠ 165 by decide)).trans (congrArg (fun m9 => sI m9 166 (upd (upd (upd (upd (M.1 166) 5 0) 6 0) 7 0) 8 0)) (sI_sI _ _ _ _))) ?_
      refine Rn.aload_n dX12_text_112 rfl ?_
      refine Rn.getR dX12_text_113 fX12_60 rfl (rc149 hR) (show M.2.2 149 18 = some 166 from (rpt18 hR)) ?_
      refine Rn.iload_n dX12_text_116 rfl ?_
      refine Rn.iconstv (v := 0) dX12_text_117 ic_0 ?_
      refine Rn.iast dX12_text_118 (rc166 hR) (by unfold vp_in; decide) ?_
      refine Rn.meq (M2 := sI (sI (sI (sI M 149 (upd (upd (upd (upd (upd (upd (M.1 149) 0 0) 24 (nI n)) 2 0) 25 0) 29 0) 30 (-1))) 151 (upd (upd (upd (upd (upd (upd (upd (upd (upd (upd (upd (upd (upd (M.1 151) 13 8) 14 4) 15 4) 16 5) 17 0) 18 0) 19 0) 20 0) 21 0) 22 0) 23 0) 24 0) 25 0)) 165 (upd (upd (upd (upd (upd (M.1 165) 5 0) 6 0) 7 0) 8 0) 9 0)) 166 (upd (upd (upd (upd (upd (M.1 166) 5 0) 6 0) 7 0) 8 0) 9 0)) (sI_sI _ _ _ _) ?_
      refine Rn.iincv (j' := 1) (lv' := [some (.ref 149), some (.int (nI n)), some (.int (9 + 1))]) dX12_text_119 rfl rfl (by decide) rfl ?_
      show Rn G l mX12_text (129, 0, 0, false) 122 [some (.ref 149), some (.int (nI n)), some (.int 10)] [] ly (sI (sI (sI (sI M 149 (upd (upd (upd (upd (upd (upd (M.1 149) 0 0) 24 (nI n)) 2 0) 25 0) 29 0) 30 (-1))) 151 (upd (upd (upd (upd (upd (upd (upd (upd (upd (upd (upd (upd (upd (M.1 151) 13 8) 14 4) 15 4) 16 5) 17 0) 18 0) 19 0) 20 0) 21 0) 22 0) 23 0) 24 0) 25 0)) 165 (upd (upd (upd (upd (upd (M.1 165) 5 0) 6 0) 7 0) 8 0) 9 0)) 166 (upd (upd (upd (upd (upd (M.1 166) 5 0) 6 0) 7 0) 8 0) 9 0)) Q
      refine Rn.goto dX12_text_122 ?_
      refine Rn.iload_n dX12_text_99 rfl ?_
      refine Rn.bipushv (v := 10) dX12_text_100 bp_10 ?_
      show Rn G l mX12_text (129, 0, 0, false) 102 [some (.ref 149), some (.int (nI n)), some (.int 10)] [.int 10, .int 10] ly (sI (sI (sI (sI M 149 (upd (upd (upd (upd (upd (upd (M.1 149) 0 0) 24 (nI n)) 2 0) 25 0) 29 0) 30 (-1))) 151 (upd (upd (upd (upd (upd (upd (upd (upd (upd (upd (upd (upd (upd (M.1 151) 13 8) 14 4) 15 4) 16 5) 17 0) 18 0) 19 0) 20 0) 21 0) 22 0) 23 0) 24 0) 25 0)) 165 (upd (upd (upd (upd (upd (M.1 165) 5 0) 6 0) 7 0) 8 0) 9 0)) 166 (upd (upd (upd (upd (upd (M.1 166) 5 0) 6 0) 7 0) 8 0) 9 0)) Q
      refine Rn.icmp_ge dX12_text_102 (fun h9 => ?_) (fun h9 => (by first | exact absurd h9 (by decide) | exact absurd (by decide) h9))
      refine Rn.aload_n dX12_text_125 rfl ?_
      refine Rn.iconstv (v := 0) dX12_text_126 ic_0 ?_
      refine Rn.putI dX12_text_127 fX12_255 rfl rfl rfl (rc149 hR) ?_
      refine Rn.meq (M2 := sI (sI (sI (sI M 149 (upd (upd (upd (upd (upd (upd (upd (M.1 149) 0 0) 24 (nI n)) 2 0) 25 0) 29 0) 30 (-1)) 21 0)) 151 (upd (upd (upd (upd (upd (upd (upd (upd (upd (upd (upd (upd (upd (M.1 151) 13 8) 14 4) 15 4) 16 5) 17 0) 18 0) 19 0) 20 0) 21 0) 22 0) 23 0) 24 0) 25 0)) 165 (upd (upd (upd (upd (upd (M.1 165) 5 0) 6 0) 7 0) 8 0) 9 0)) 166 (upd (upd (upd (upd (upd (M.1 166) 5 0) 6 0) 7 0) 8 0) 9 0)) ((sI_comm (show 166 ≠ 149 by decide)).trans (congrArg (fun m9 => sI m9 166 (upd (upd (upd (upd (upd (M.1 166) 5 0) 6 0) 7 0) 8 0) 9 0)) ((sI_comm (show 165 ≠ 149 by decide)).trans (congrArg (fun m9 => sI m9 165 (upd (upd (upd (upd (upd (M.1 165) 5 0) 6 0) 7 0) 8 0) 9 0)) ((sI_comm (show 151 ≠ 149 by decide)).trans (congrArg (fun m9 => sI m9 151 (upd (upd (upd (upd (upd (upd (upd (upd (upd (upd (upd (upd (upd (M.1 151) 13 8) 14 4) 15 4) 16 5) 17 0) 18 0) 19 0) 20 0) 21 0) 22 0) 23 0) 24 0) 25 0)) (sI_sI _ _ _ _))))))) ?_
      refine Rn.aload_n dX12_text_130 rfl ?_
      refine Rn.iconstv (v := 0) dX12_text_131 ic_0 ?_
      refine Rn.putZ dX12_text_132 fX12_258 rfl rfl rfl (by decide) (rc149 hR) ?_
      refine Rn.meq (M2 := sI (sI (sI (sI M 149 (upd (upd (upd (upd (upd (upd (upd (upd (M.1 149) 0 0) 24 (nI n)) 2 0) 25 0) 29 0) 30 (-1)) 21 0) 22 0)) 151 (upd (upd (upd (upd (upd (upd (upd (upd (upd (upd (upd (upd (upd (M.1 151) 13 8) 14 4) 15 4) 16 5) 17 0) 18 0) 19 0) 20 0) 21 0) 22 0) 23 0) 24 0) 25 0)) 165 (upd (upd (upd (upd (upd (M.1 165) 5 0) 6 0) 7 0) 8 0) 9 0)) 166 (upd (upd (upd (upd (upd (M.1 166) 5 0) 6 0) 7 0) 8 0) 9 0)) ((sI_comm (show 166 ≠ 149 by decide)).trans (congrArg (fun m9 => sI m9 166 (upd (upd (upd (upd (upd (M.1 166) 5 0) 6 0) 7 0) 8 0) 9 0)) ((sI_comm (show 165 ≠ 149 by decide)).trans (congrArg (fun m9 => sI m9 165 (upd (upd (upd (upd (upd (M.1 165) 5 0) 6 0) 7 0) 8 0) 9 0)) ((sI_comm (show 151 ≠ 149 by decide)).trans (congrArg (fun m9 => sI m9 151 (upd (upd (upd (upd (upd (upd (upd (upd (upd (upd (upd (upd (upd (M.1 151) 13 8) 14 4) 15 4) 16 5) 17 0) 18 0) 19 0) 20 0) 21 0) 22 0) 23 0) 24 0) 25 0)) (sI_sI _ _ _ _))))))) ?_
      refine Rn.aload_n dX12_text_135 rfl ?_
      refine Rn.iconstv (v := 0) dX12_text_136 ic_0 ?_
      refine Rn.putI dX12_text_137 fX12_288 rfl rfl rfl (rc149 hR) ?_
      refine Rn.meq (M2 := sI (sI (sI (sI M 149 (upd (upd (upd (upd (upd (upd (upd (upd (upd (M.1 149) 0 0) 24 (nI n)) 2 0) 25 0) 29 0) 30 (-1)) 21 0) 22 0) 23 0)) 151 (upd (upd (upd (upd (upd (upd (upd (upd (upd (upd (upd (upd (upd (M.1 151) 13 8) 14 4) 15 4) 16 5) 17 0) 18 0) 19 0) 20 0) 21 0) 22 0) 23 0) 24 0) 25 0)) 165 (upd (upd (upd (upd (upd (M.1 165) 5 0) 6 0) 7 0) 8 0) 9 0)) 166 (upd (upd (upd (upd (upd (M.1 166) 5 0) 6 0) 7 0) 8 0) 9 0)) ((sI_comm (show 166 ≠ 149 by decide)).trans (congrArg (fun m9 => sI m9 166 (upd (upd (upd (upd (upd (M.1 166) 5 0) 6 0) 7 0) 8 0) 9 0)) ((sI_comm (show 165 ≠ 149 by decide)).trans (congrArg (fun m9 => sI m9 165 (upd (upd (upd (upd (upd (M.1 165) 5 0) 6 0) 7 0) 8 0) 9 0)) ((sI_comm (show 151 ≠ 149 by decide)).trans (congrArg (fun m9 => sI m9 151 (upd (upd (upd (upd (upd (upd (upd (upd (upd (upd (upd (upd (upd (M.1 151) 13 8) 14 4) 15 4) 16 5) 17 0) 18 0) 19 0) 20 0) 21 0) 22 0) 23 0) 24 0) 25 0)) (sI_sI _ _ _ _))))))) ?_
      refine Rn.aload_n dX12_text_140 rfl ?_
      refine Rn.iconstv (v := 0) dX12_text_141 ic_0 ?_
      refine Rn.putI dX12_text_142 fX12_321 rfl rfl rfl (rc149 hR) ?_
      refine Rn.meq (M2 := sI (sI (sI (sI M 149 (upd (upd (upd (upd (upd (upd (upd (upd (upd (upd (M.1 149) 0 0) 24 (nI n)) 2 0) 25 0) 29 0) 30 (-1)) 21 0) 22 0) 23 0) 33 0)) 151 (upd (upd (upd (upd (upd (upd (upd (upd (upd (upd (upd (upd (upd (M.1 151) 13 8) 14 4) 15 4) 16 5) 17 0) 18 0) 19 0) 20 0) 21 0) 22 0) 23 0) 24 0) 25 0)) 165 (upd (upd (upd (upd (upd (M.1 165) 5 0) 6 0) 7 0) 8 0) 9 0)) 166 (upd (upd (upd (upd (upd (M.1 166) 5 0) 6 0) 7 0) 8 0) 9 0)) ((sI_comm (show 166 ≠ 149 by decide)).trans (congrArg (fun m9 => sI m9 166 (upd (upd (upd (upd (upd (M.1 166) 5 0) 6 0) 7 0) 8 0) 9 0)) ((sI_comm (show 165 ≠ 149 by decide)).trans (congrArg (fun m9 => sI m9 165 (upd (upd (upd (upd (upd (M.1 165) 5 0) 6 0) 7 0) 8 0) 9 0)) ((sI_comm (show 151 ≠ 149 by decide)).trans (congrArg (fun m9 => sI m9 151 (upd (upd (upd (upd (upd (upd (upd (upd (upd (upd (upd (upd (upd (M.1 151) 13 8) 14 4) 15 4) 16 5) 17 0) 18 0) 19 0) 20 0) 21 0) 22 0) 23 0) 24 0) 25 0)) (sI_sI _ _ _ _))))))) ?_
      refine Rn.aload_n dX12_text_145 rfl ?_
      refine Rn.iconstv (v := 0) dX12_text_146 ic_0 ?_
      refine Rn.putI dX12_text_147 fX12_294 rfl rfl rfl (rc149 hR) ?_
      refine Rn.meq (M2 := sI (sI (sI (sI M 149 (upd (upd (upd (upd (upd (upd (upd (upd (upd (upd (upd (M.1 149) 0 0) 24 (nI n)) 2 0) 25 0) 29 0) 30 (-1)) 21 0) 22 0) 23 0) 33 0) 34 0)) 151 (upd (upd (upd (upd (upd (upd (upd (upd (upd (upd (upd (upd (upd (M.1 151) 13 8) 14 4) 15 4) 16 5) 17 0) 18 0) 19 0) 20 0) 21 0) 22 0) 23 0) 24 0) 25 0)) 165 (upd (upd (upd (upd (upd (M.1 165) 5 0) 6 0) 7 0) 8 0) 9 0)) 166 (upd (upd (upd (upd (upd (M.1 166) 5 0) 6 0) 7 0) 8 0) 9 0)) ((sI_comm (show 166 ≠ 149 by decide)).trans (congrArg (fun m9 => sI m9 166 (upd (upd (upd (upd (upd (M.1 166) 5 0) 6 0) 7 0) 8 0) 9 0)) ((sI_comm (show 165 ≠ 149 by decide)).trans (congrArg (fun m9 => sI m9 165 (upd (upd (upd (upd (upd (M.1 165) 5 0) 6 0) 7 0) 8 0) 9 0)) ((sI_comm (show 151 ≠ 149 by decide)).trans (congrArg (fun m9 => sI m9 151 (upd (upd (upd (upd (upd (upd (upd (upd (upd (upd (upd (upd (upd (M.1 151) 13 8) 14 4) 15 4) 16 5) 17 0) 18 0) 19 0) 20 0) 21 0) 22 0) 23 0) 24 0) 25 0)) (sI_sI _ _ _ _))))))) ?_
      refine Rn.aload_n dX12_text_150 rfl ?_
      obtain ⟨N0, e0⟩ : ∃ N9, N9 = sI (sI (sI (sI M 149 (upd (upd (upd (upd (upd (upd (upd (upd (upd (upd (upd (M.1 149) 0 0) 24 (nI n)) 2 0) 25 0) 29 0) 30 (-1)) 21 0) 22 0) 23 0) 33 0) 34 0)) 151 (upd (upd (upd (upd (upd (upd (upd (upd (upd (upd (upd (upd (upd (M.1 151) 13 8) 14 4) 15 4) 16 5) 17 0) 18 0) 19 0) 20 0) 21 0) 22 0) 23 0) 24 0) 25 0)) 165 (upd (upd (upd (upd (upd (M.1 165) 5 0) 6 0) 7 0) 8 0) 9 0)) 166 (upd (upd (upd (upd (upd (M.1 166) 5 0) 6 0) 7 0) 8 0) 9 0) := ⟨_, rfl⟩
      rw [← e0]
      have m149 : N0.1 149 0 = 0 ∧ N0.1 149 2 = 0 ∧ N0.1 149 21 = 0 ∧ N0.1 149 22 = 0 ∧ N0.1 149 23 = 0 ∧ N0.1 149 24 = nI n ∧ N0.1 149 25 = 0 ∧ N0.1 149 29 = 0 ∧ N0.1 149 30 = -1 ∧ N0.1 149 33 = 0 ∧ N0.1 149 34 = 0 := by rw [e0]; exact ⟨rfl, rfl, rfl, rfl, rfl, rfl, rfl, rfl, rfl, rfl, rfl⟩
      have m150 : N0.1 150 = f := by rw [e0, hf]; rfl
      have h0 : rtF M N0 := by
        rw [e0]
        refine ⟨rfl, fun a j ha hj => ?_, fun j hj => ?_⟩
        · by_cases a1 : a = 151
          · subst a1
            have hj2 : j < 13 := hj.elim (fun g => absurd g (by decide)) (fun g => g.elim (fun g => absurd g (by decide)) id)
            show upd (upd (upd (upd (upd (upd (upd (upd (upd (upd (upd (upd (upd (M.1 151) 13 8) 14 4) 15 4) 16 5) 17 0) 18 0) 19 0) 20 0) 21 0) 22 0) 23 0) 24 0) 25 0 j = M.1 151 j
            rw [pk_un (show j ≠ 25 by omega), pk_un (show j ≠ 24 by omega), pk_un (show j ≠ 23 by omega), pk_un (show j ≠ 22 by omega), pk_un (show j ≠ 21 by omega), pk_un (show j ≠ 20 by omega), pk_un (show j ≠ 19 by omega), pk_un (show j ≠ 18 by omega), pk_un (show j ≠ 17 by omega), pk_un (show j ≠ 16 by omega), pk_un (show j ≠ 15 by omega), pk_un (show j ≠ 14 by omega), pk_un (show j ≠ 13 by omega)]
          · by_cases a2 : a = 165
            · subst a2
              have hj2 : j < 5 := hj.elim (fun g => absurd g (by decide)) (fun g => g.elim (fun g => absurd g (by decide)) id)
              show upd (upd (upd (upd (upd (M.1 165) 5 0) 6 0) 7 0) 8 0) 9 0 j = M.1 165 j
              rw [pk_un (show j ≠ 9 by omega), pk_un (show j ≠ 8 by omega), pk_un (show j ≠ 7 by omega), pk_un (show j ≠ 6 by omega), pk_un (show j ≠ 5 by omega)]
            · by_cases a3 : a = 166
              · subst a3
                have hj2 : j < 5 := hj.elim (fun g => absurd g (by decide)) (fun g => g.elim (fun g => absurd g (by decide)) id)
                show upd (upd (upd (upd (upd (M.1 166) 5 0) 6 0) 7 0) 8 0) 9 0 j = M.1 166 j
                rw [pk_un (show j ≠ 9 by omega), pk_un (show j ≠ 8 by omega), pk_un (show j ≠ 7 by omega), pk_un (show j ≠ 6 by omega), pk_un (show j ≠ 5 by omega)]
              · rw [sI_ne a3, sI_ne a2, sI_ne a1, sI_ne ha]
        · show upd (upd (upd (upd (upd (upd (upd (upd (upd (upd (upd (M.1 149) 0 0) 24 (nI n)) 2 0) 25 0) 29 0) 30 (-1)) 21 0) 22 0) 23 0) 33 0) 34 0 j = M.1 149 j
          rw [pk_un (show j ≠ 34 by omega), pk_un (show j ≠ 33 by omega), pk_un (show j ≠ 23 by omega), pk_un (show j ≠ 22 by omega), pk_un (show j ≠ 21 by omega), pk_un (show j ≠ 30 by omega), pk_un (show j ≠ 29 by omega), pk_un (show j ≠ 25 by omega), pk_un (show j ≠ 2 by omega), pk_un (show j ≠ 24 by omega), pk_un (show j ≠ 0 by omega)]
      have hP0 : RPl N0 p0 := by
        rw [e0]
        refine ⟨fun k hk => ?_, fun k hk => ?_, rfl, fun r _ _ j hj => absurd hj (Nat.not_lt_zero j), fun k hk => ⟨0, ?_, ?_, Nat.zero_le _, trivial, Or.inl rfl⟩⟩
        · rcases (show k = 0 ∨ k = 1 ∨ k = 2 ∨ k = 3 ∨ k = 4 ∨ k = 5 ∨ k = 10 ∨ k = 11 by omega) with rfl | rfl | rfl | rfl | rfl | rfl | rfl | rfl <;> rfl
        · match k, hk with
          | 0, _ => rfl
          | 1, _ => rfl
          | 2, _ => rfl
          | 3, _ => rfl
        · match k, hk with
          | 0, _ => rfl
          | 1, _ => rfl
          | 2, _ => rfl
          | 3, _ => rfl
          | 4, _ => rfl
        · match k, hk with
          | 0, _ => rfl
          | 1, _ => rfl
          | 2, _ => rfl
          | 3, _ => rfl
          | 4, _ => rfl
      clear e0
      have hRN0 : RW ly N0.2.2 := by rw [h0.1]; exact hR
      refine Rn.callV0 dX12_text_151 vX12_228 (rc149 hRN0) (by decide) rfl (tX12_token (M := N0) (n := n) (i := 0) (Q := fun v0 ly0 K => v0 = none ∧ ly0 = ly ∧ tkF N0 K ∧ RD K n 0) ⟨m149.2.2.2.2.2.1, by omega⟩ ⟨m149.2.2.2.2.2.2.1, Nat.zero_le n⟩ (by rw [m150]; exact hbn) hRN0 (fun K t1 t2 t3 t4 t5 => ⟨rfl, rfl, t1, ⟨(t1.2.2 24 (by omega)).trans m149.2.2.2.2.2.1, by omega⟩, Nat.zero_le n, by rw [t1.2.1 150 (by decide), m150]; exact hbn, by rw [t1.2.1 150 (by decide)]; exact t2, by rw [t1.2.1 150 (by decide), t3]; exact congrArg nI tkT_1, _, by rw [t1.2.1 150 (by decide)]; exact t4, by rw [t1.2.1 150 (by decide)]; exact t5⟩)) (by decide) ⟨(Nat.le_of_ble_eq_true rfl), (Nat.le_of_ble_eq_true rfl), (Nat.le_of_ble_eq_true rfl)⟩ (fun h => by cases h) (fun v1 ly1 N1 ⟨q1, q2, t1, hrd⟩ => ?_)
      rw [q1, q2]
      have h1 : rtF M N1 := h0.g (rlF.tok t1).g
      have hS1 : RPs N1 f n p0 0 := ⟨hrd, (t1.2.1 150 (by decide)).trans m150, (t1.2.2 29 (by omega)).trans m149.2.2.2.2.2.2.2.1, ⟨(t1.2.2 33 (by omega)).trans m149.2.2.2.2.2.2.2.2.2.1, (t1.2.2 30 (by omega)).trans m149.2.2.2.2.2.2.2.2.1⟩, (t1.2.2 34 (by omega)).trans m149.2.2.2.2.2.2.2.2.2.2, by rw [t1.2.2 21 (by omega), m149.2.2.1]; exact ⟨fun j _ => BitVec.getLsbD_zero, BitVec.getLsbD_zero, BitVec.getLsbD_zero⟩, (t1.2.2 22 (by omega)).trans m149.2.2.2.1, hP0.of (fun a ha _ => t1.2.1 a (by omega)), by decide, by decide, by decide, by decide, by decide, 8, rfl, by decide, by decide⟩
      have k1 : N1.1 149 0 = 0 ∧ N1.1 149 2 = 0 ∧ N1.1 149 23 = nI 0 ∧ N1.1 149 30 = -1 := ⟨(t1.2.2 0 (by omega)).trans m149.1, (t1.2.2 2 (by omega)).trans m149.2.1, (t1.2.2 23 (by omega)).trans m149.2.2.2.2.1, (t1.2.2 30 (by omega)).trans m149.2.2.2.2.2.2.2.2.1⟩
      clear t1
      refine Rn.forget (lv' := [some (.ref 149), some (.int (nI n)), none]) (⟨rfl, ⟨rfl, trivial⟩⟩) ?_
      have bad : ∀ (KK : Mm) (q : Int32) (j : Nat), txF (kdF f n) (nvF f n) (nx f n) 701 p0 0 0 = .inr (q, j) → rtF M KK → faR f n KK q j → KK.1 149 0 = 0 → KK.1 149 2 = 0 → Rn G l mX12_text (129, 0, 0, false) 176 [some (.ref 149), some (.int (nI n)), none] [] ly KK Q := by
        intro KK q j htx hF hfa c0 c2
        have hRKK : RW ly KK.2.2 := by rw [hF.1]; exact hR
        refine Rn.aload_n dX12_text_176 rfl ?_
        refine Rn.aload_n dX12_text_177 rfl ?_
        refine Rn.getI dX12_text_178 fX12_222 rfl (rc149 hRKK) ?_
        refine Rn.putI dX12_text_181 fX12_327 rfl rfl rfl (rc149 hRKK) ?_
        refine Rn.aload_n dX12_text_184 rfl ?_
        refine Rn.aload_n dX12_text_185 rfl ?_
        refine Rn.getI dX12_text_186 fX12_225 rfl (rc149 hRKK) ?_
        refine Rn.putI dX12_text_189 fX12_69 rfl rfl rfl (rc149 hRKK) ?_
        refine Rn.meq (M2 := sI KK 149 (upd (upd (KK.1 149) 31 (KK.1 149 29)) 32 (KK.1 149 30))) (sI_sI _ _ _ _) ?_
        refine Rn.aload_n dX12_text_192 rfl ?_
        refine Rn.getI dX12_text_193 fX12_222 rfl (rc149 hRKK) ?_
        show Rn G l mX12_text (129, 0, 0, false) 196 [some (.ref 149), some (.int (nI n)), none] [.int (KK.1 149 29)] ly (sI KK 149 (upd (upd (KK.1 149) 31 (KK.1 149 29)) 32 (KK.1 149 30))) Q
        refine Rn.if_eq dX12_text_196 (fun h9 => absurd (hfa.1.symm.trans h9) hfa.2.1) (fun h9 => ?_)
        refine Rn.iconstv (v := -1) dX12_text_199 ic_m1 ?_
        exact Rn.iret (ty := .int) dX12_text_200 rfl rfl (hQ2.1 _ q j htx (hF.f (fun j hj => (pk_un (by omega)).trans (pk_un (by omega)))) c0 c2 hfa.1 hfa.2.2)
      have good : ∀ (KK : Mm) (p2 : Pl) (i m : Nat), txF (kdF f n) (nvF f n) (nx f n) 701 p0 0 0 = .inl (p2, m) → rtF M KK → RPs KK f n p2 i → KK.1 149 0 = 0 → KK.1 149 2 = 0 → KK.1 149 30 = -1 → KK.1 149 23 = nI m → Rn G l mX12_text (129, 0, 0, false) 176 [some (.ref 149), some (.int (nI n)), none] [] ly KK Q := by
        intro KK p2 i m htx hF hS c0 c2 c30 c23
        have hRKK : RW ly KK.2.2 := by rw [hF.1]; exact hR
        obtain ⟨hrd2, h150, h29, h33, h34, hbw, h22, hP, hct⟩ := hS
        refine Rn.aload_n dX12_text_176 rfl ?_
        refine Rn.aload_n dX12_text_177 rfl ?_
        refine Rn.getI dX12_text_178 fX12_222 rfl (rc149 hRKK) ?_
        refine Rn.topI (y := 0) (h29) ?_
        refine Rn.putI dX12_text_181 fX12_327 rfl rfl rfl (rc149 hRKK) ?_
        refine Rn.aload_n dX12_text_184 rfl ?_
        refine Rn.aload_n dX12_text_185 rfl ?_
        refine Rn.getI dX12_text_186 fX12_225 rfl (rc149 hRKK) ?_
        refine Rn.topI (y := (-1)) (c30) ?_
        refine Rn.putI dX12_text_189 fX12_69 rfl rfl rfl (rc149 hRKK) ?_
        refine Rn.meq (M2 := sI KK 149 (upd (upd (KK.1 149) 31 0) 32 (-1))) (sI_sI _ _ _ _) ?_
        refine Rn.aload_n dX12_text_192 rfl ?_
        refine Rn.getI dX12_text_193 fX12_222 rfl (rc149 hRKK) ?_
        refine Rn.topI (y := 0) (h29) ?_
        show Rn G l mX12_text (129, 0, 0, false) 196 [some (.ref 149), some (.int (nI n)), none] [.int 0] ly (sI KK 149 (upd (upd (KK.1 149) 31 0) 32 (-1))) Q
        show Rn G l mX12_text (129, 0, 0, false) 196 [some (.ref 149), some (.int (nI n)), none] [.int 0] ly (sI KK 149 (upd (upd (KK.1 149) 31 0) 32 (-1))) Q
        refine Rn.if_eq dX12_text_196 (fun h9 => ?_) (fun h9 => (by first | exact absurd h9 (by decide) | exact absurd (by decide) h9))
        obtain ⟨B, eB⟩ : ∃ N9, N9 = sI KK 149 (upd (upd (KK.1 149) 31 0) 32 (-1)) := ⟨_, rfl⟩
        show Rn G l mX12_text (129, 0, 0, false) 201 [some (.ref 149), some (.int (nI n)), none] [] ly (sI KK 149 (upd (upd (KK.1 149) 31 0) 32 (-1))) Q
        rw [← eB]
        have hBr : B.2.2 = KK.2.2 := by rw [eB]; rfl
        have hBo : ∀ a, a ≠ 149 → B.1 a = KK.1 a := fun a ha => by rw [eB]; exact sI_ne ha
        have hB9 : B.1 149 = upd (upd (KK.1 149) 31 0) 32 (-1) := by rw [eB]; rfl
        clear eB
        refine tHalves (by rw [hBr]; exact hRKK) ?_
        obtain ⟨H, eH⟩ : ∃ N9, N9 = hvS l18 B := ⟨_, rfl⟩
        rw [← eH]
        have n151 : H.1 151 = hlI 13 13 (KK.1 151) := by rw [eH, hv151, hBo 151 (by decide)]
        have n152 : H.1 152 = hlI 6 6 (KK.1 152) := by rw [eH, hv152, hBo 152 (by decide)]
        have n153 : H.1 153 = hlI 6 6 (KK.1 153) := by rw [eH, hv153, hBo 153 (by decide)]
        have n154 : H.1 154 = hlI 6 6 (KK.1 154) := by rw [eH, hv154, hBo 154 (by decide)]
        have n155 : H.1 155 = hlI 6 6 (KK.1 155) := by rw [eH, hv155, hBo 155 (by decide)]
        have n156 : H.1 156 = hlI 6 6 (KK.1 156) := by rw [eH, hv156, hBo 156 (by decide)]
        have n157 : H.1 157 = hlI 6 6 (KK.1 157) := by rw [eH, hv157, hBo 157 (by decide)]
        have n158 : H.1 158 = hlI 4 4 (KK.1 158) := by rw [eH, hv158, hBo 158 (by decide)]
        have n159 : H.1 159 = hlI 4 4 (KK.1 159) := by rw [eH, hv159, hBo 159 (by decide)]
        have n160 : H.1 160 = hlI 4 4 (KK.1 160) := by rw [eH, hv160, hBo 160 (by decide)]
        have n161 : H.1 161 = hlI 4 4 (KK.1 161) := by rw [eH, hv161, hBo 161 (by decide)]
        have n162 : H.1 162 = hlI 4 4 (KK.1 162) := by rw [eH, hv162, hBo 162 (by decide)]
        have n163 : H.1 163 = hlI 4 4 (KK.1 163) := by rw [eH, hv163, hBo 163 (by decide)]
        have n164 : H.1 164 = hlI 3 3 (KK.1 164) := by rw [eH, hv164, hBo 164 (by decide)]
        have n165 : H.1 165 = hlI 5 5 (KK.1 165) := by rw [eH, hv165, hBo 165 (by decide)]
        have n166 : H.1 166 = hlI 5 5 (KK.1 166) := by rw [eH, hv166, hBo 166 (by decide)]
        have n167 : H.1 167 = hlI 64 64 (KK.1 167) := by rw [eH, hv167, hBo 167 (by decide)]
        have n168 : H.1 168 = hlI 64 64 (KK.1 168) := by rw [eH, hv168, hBo 168 (by decide)]
        have hHo : ∀ a, (a < 150 ∨ a = 150 ∨ 168 < a) → H.1 a = B.1 a := fun a ha => by rw [eH]; exact hvS_ne l18 B (fun q hq => by have := (show ∀ q ∈ l18, 151 ≤ q.1 ∧ q.1 ≤ 168 by decide) q hq; omega)
        have hHr : H.2.2 = KK.2.2 := by rw [eH, hvS_r]; exact hBr
        clear eH
        have hRH : RW ly H.2.2 := by rw [hHr]; exact hRKK
        have l11_ : H.1 151 11 = p2.D 0 11 := by rw [n151]; exact (hlI_l (by decide)).trans (hP.1 11 (by decide))
        have l7_ : H.1 151 7 = nI (p2.ct 1) := by rw [n151]; exact (hlI_l (by decide)).trans (hP.2.1 1 (by decide))
        refine Rn.aload_n dX12_text_327 rfl ?_
        refine Rn.iconstv (v := 0) dX12_text_328 ic_0 ?_
        refine Rn.putI dX12_text_329 fX12_334 rfl rfl rfl (rc149 hRH) ?_
        refine Rn.aload_n dX12_text_332 rfl ?_
        refine Rn.iconstv (v := -1) dX12_text_333 ic_m1 ?_
        refine Rn.putI dX12_text_334 fX12_144 rfl rfl rfl (rc149 hRH) ?_
        refine Rn.meq (M2 := sI H 149 (upd (upd (H.1 149) 70 0) 71 (-1))) (sI_sI _ _ _ _) ?_
        refine Rn.aload_n dX12_text_337 rfl ?_
        refine Rn.iconstv (v := 0) dX12_text_338 ic_0 ?_
        refine Rn.putZ dX12_text_339 fX12_337 rfl rfl rfl (by decide) (rc149 hRH) ?_
        refine Rn.meq (M2 := sI H 149 (upd (upd (upd (H.1 149) 70 0) 71 (-1)) 50 0)) (sI_sI _ _ _ _) ?_
        refine Rn.aload_n dX12_text_342 rfl ?_
        refine Rn.iconstv (v := 0) dX12_text_343 ic_0 ?_
        refine Rn.putI dX12_text_344 fX12_340 rfl rfl rfl (rc149 hRH) ?_
        refine Rn.meq (M2 := sI H 149 (upd (upd (upd (upd (H.1 149) 70 0) 71 (-1)) 50 0) 51 0)) (sI_sI _ _ _ _) ?_
        refine Rn.aload_n dX12_text_347 rfl ?_
        refine Rn.getR dX12_text_348 fX12_79 rfl (rc149 hRH) (show H.2.2 149 37 = some 171 from (rpt37 hRH)) ?_
        refine Rn.iconstv (v := 0) dX12_text_351 ic_0 ?_
        refine Rn.iconstv (v := 0) dX12_text_352 ic_0 ?_
        refine Rn.zast dX12_text_353 (rc171 hRH) (by unfold vp_in; decide) ?_
        refine Rn.aload_n dX12_text_354 rfl ?_
        refine Rn.getR dX12_text_355 fX12_76 rfl (rc149 hRH) (show H.2.2 149 36 = some 170 from (rpt36 hRH)) ?_
        refine Rn.iconstv (v := 0) dX12_text_358 ic_0 ?_
        refine Rn.aload_n dX12_text_359 rfl ?_
        refine Rn.getR dX12_text_360 fX12_15 rfl (rc149 hRH) (show H.2.2 149 3 = some 151 from (rpt3 hRH)) ?_
        refine Rn.bipushv (v := 11) dX12_text_363 bp_11 ?_
        refine Rn.iald dX12_text_365 (rc151 hRH) (by unfold vp_in; decide) ?_
        refine Rn.topI (y := H.1 151 11) (rfl) ?_
        refine Rn.topI (y := p2.D 0 11) (l11_) ?_
        refine Rn.iast dX12_text_366 (rc170 hRH) (by unfold vp_in; decide) ?_
        refine Rn.aload_n dX12_text_367 rfl ?_
        refine Rn.getR dX12_text_368 fX12_107 rfl (rc149 hRH) (show H.2.2 149 46 = some 180 from (rpt46 hRH)) ?_
        refine Rn.iconstv (v := 0) dX12_text_371 ic_0 ?_
        refine Rn.aload_n dX12_text_372 rfl ?_
        refine Rn.getR dX12_text_373 fX12_15 rfl (rc149 hRH) (show H.2.2 149 3 = some 151 from (rpt3 hRH)) ?_
        refine Rn.bipushv (v := 7) dX12_text_376 bp_7 ?_
        refine Rn.iald dX12_text_378 (rc151 hRH) (by unfold vp_in; decide) ?_
        refine Rn.topI (y := H.1 151 7) (rfl) ?_
        refine Rn.topI (y := nI (p2.ct 1)) (l7_) ?_
        refine Rn.iast dX12_text_379 (rc180 hRH) (by unfold vp_in; decide) ?_
        refine Rn.iconstv (v := 0) dX12_text_380 ic_0 ?_
        refine Rn.istore_n (lv' := [some (.ref 149), some (.int (nI n)), some (.int 0)]) dX12_text_381 (by decide) rfl ?_
        obtain ⟨N2, e2⟩ : ∃ N9, N9 = sI (sI (sI (sI H 149 (upd (upd (upd (upd (H.1 149) 70 0) 71 (-1)) 50 0) 51 0)) 171 (upd (H.1 171) 0 (vp_nar .boolean 0))) 170 (upd (H.1 170) 0 (p2.D 0 11))) 180 (upd (H.1 180) 0 (nI (p2.ct 1))) := ⟨_, rfl⟩
        show Rn G l mX12_text (129, 0, 0, false) 382 [some (.ref 149), some (.int (nI n)), some (.int 0)] [] ly (sI (sI (sI (sI H 149 (upd (upd (upd (upd (H.1 149) 70 0) 71 (-1)) 50 0) 51 0)) 171 (upd (H.1 171) 0 (vp_nar .boolean 0))) 170 (upd (H.1 170) 0 (p2.D 0 11))) 180 (upd (H.1 180) 0 (nI (p2.ct 1)))) Q
        rw [← e2]
        have n2r : N2.2.2 = KK.2.2 := by rw [e2]; exact hHr
        replace n151 : N2.1 151 = hlI 13 13 (KK.1 151) := by rw [e2]; exact n151
        replace n152 : N2.1 152 = hlI 6 6 (KK.1 152) := by rw [e2]; exact n152
        replace n153 : N2.1 153 = hlI 6 6 (KK.1 153) := by rw [e2]; exact n153
        replace n154 : N2.1 154 = hlI 6 6 (KK.1 154) := by rw [e2]; exact n154
        replace n155 : N2.1 155 = hlI 6 6 (KK.1 155) := by rw [e2]; exact n155
        replace n156 : N2.1 156 = hlI 6 6 (KK.1 156) := by rw [e2]; exact n156
        replace n157 : N2.1 157 = hlI 6 6 (KK.1 157) := by rw [e2]; exact n157
        replace n158 : N2.1 158 = hlI 4 4 (KK.1 158) := by rw [e2]; exact n158
        replace n159 : N2.1 159 = hlI 4 4 (KK.1 159) := by rw [e2]; exact n159
        replace n160 : N2.1 160 = hlI 4 4 (KK.1 160) := by rw [e2]; exact n160
        replace n161 : N2.1 161 = hlI 4 4 (KK.1 161) := by rw [e2]; exact n161
        replace n162 : N2.1 162 = hlI 4 4 (KK.1 162) := by rw [e2]; exact n162
        replace n163 : N2.1 163 = hlI 4 4 (KK.1 163) := by rw [e2]; exact n163
        replace n164 : N2.1 164 = hlI 3 3 (KK.1 164) := by rw [e2]; exact n164
        replace n165 : N2.1 165 = hlI 5 5 (KK.1 165) := by rw [e2]; exact n165
        replace n166 : N2.1 166 = hlI 5 5 (KK.1 166) := by rw [e2]; exact n166
        replace n167 : N2.1 167 = hlI 64 64 (KK.1 167) := by rw [e2]; exact n167
        replace n168 : N2.1 168 = hlI 64 64 (KK.1 168) := by rw [e2]; exact n168
        have n149h : N2.1 149 = upd (upd (upd (upd (H.1 149) 70 0) 71 (-1)) 50 0) 51 0 := by rw [e2]; rfl
        have n149 : N2.1 149 = upd (upd (upd (upd (upd (upd (KK.1 149) 31 0) 32 (-1)) 70 0) 71 (-1)) 50 0) 51 0 := by rw [n149h, hHo 149 (by decide), hB9]
        have n171 : N2.1 171 = upd (KK.1 171) 0 (vp_nar .boolean 0) := by rw [e2]; show upd (H.1 171) 0 (vp_nar .boolean 0) = _; rw [hHo 171 (by decide), hBo 171 (by decide)]
        have n170 : N2.1 170 = upd (KK.1 170) 0 (p2.D 0 11) := by rw [e2]; show upd (H.1 170) 0 (p2.D 0 11) = _; rw [hHo 170 (by decide), hBo 170 (by decide)]
        have n180 : N2.1 180 = upd (KK.1 180) 0 (nI (p2.ct 1)) := by rw [e2]; show upd (H.1 180) 0 (nI (p2.ct 1)) = _; rw [hHo 180 (by decide), hBo 180 (by decide)]
        have n2o : ∀ a, (a < 149 ∨ a = 150 ∨ (168 < a ∧ a ≠ 170 ∧ a ≠ 171 ∧ a ≠ 180)) → N2.1 a = KK.1 a := fun a ha => by rw [e2, sI_ne (show a ≠ 180 by omega), sI_ne (show a ≠ 170 by omega), sI_ne (show a ≠ 171 by omega), sI_ne (show a ≠ 149 by omega), hHo a (by omega), hBo a (by omega)]
        clear e2
        have hRN2 : RW ly N2.2.2 := by rw [n2r]; exact hRKK
        have l7 : N2.1 151 7 = nI (p2.ct 1) := by rw [n151]; exact (hlI_l (by decide)).trans (hP.2.1 1 (by decide))
        have hc1 : p2.ct 1 ≤ 4 := hct.2.1
        have l10 : ∀ j, j < p2.ct 1 → N2.1 159 j = p2.D 10 j := fun j hj => by rw [n159, hlI_l (show j < 4 by omega)]; exact hP.2.2.2.1 10 (by decide) (by decide) j hj (fun g => absurd g (by decide))
        have l11 : ∀ j, j < p2.ct 1 → N2.1 160 j = p2.D 11 j := fun j hj => by rw [n160, hlI_l (show j < 4 by omega)]; exact hP.2.2.2.1 11 (by decide) (by decide) j hj (fun g => absurd g (by decide))
        have n181 : N2.1 181 = M.1 181 := (n2o 181 (by decide)).trans (funext (fun j => hF.2.1 181 j (by decide) (Or.inr (Or.inl (by decide)))))
        have n182 : N2.1 182 = M.1 182 := (n2o 182 (by decide)).trans (funext (fun j => hF.2.1 182 j (by decide) (Or.inr (Or.inl (by decide)))))
        have loop2 : ∀ (k i2 : Nat), i2 + k = p2.ct 1 → Rn G l mX12_text (129, 0, 0, false) 382 [some (.ref 149), some (.int (nI n)), some (.int (nI i2))] [] ly (sI (sI N2 181 (pre i2 (p2.D 10) (M.1 181))) 182 (pre i2 (p2.D 11) (M.1 182))) Q := by
          intro k
          induction k with
          | zero =>
            intro i2 hi
            refine Rn.iload_n dX12_text_382 rfl ?_
            refine Rn.aload_n dX12_text_383 rfl ?_
            refine Rn.getR dX12_text_384 fX12_15 rfl (rc149 hRN2) (show N2.2.2 149 3 = some 151 from (rpt3 hRN2)) ?_
            refine Rn.bipushv (v := 7) dX12_text_387 bp_7 ?_
            refine Rn.iald dX12_text_389 (rc151 hRN2) (by unfold vp_in; decide) ?_
            refine Rn.topI (y := N2.1 151 7) (rfl) ?_
            refine Rn.topI (y := nI (p2.ct 1)) (l7) ?_
            refine Rn.icmp_ge dX12_text_390 (fun hc => ?_) (fun hc => ?_)
            · skip
              have e0 : p2.ct 1 = i2 := by omega
              refine Rn.aload_n dX12_text_423 rfl ?_
              refine Rn.iconstv (v := 0) dX12_text_424 ic_0 ?_
              refine Rn.callV1 dX12_text_425 vX12_165 (rc149 hRN2) (by decide) rfl (tX12_rests (M := sI (sI N2 181 (pre i2 (p2.D 10) (M.1 181))) 182 (pre i2 (p2.D 11) (M.1 182))) (b := 0) (by decide) hRN2) (by decide) ⟨(Nat.le_of_ble_eq_true rfl), (Nat.le_of_ble_eq_true rfl), (Nat.le_of_ble_eq_true rfl)⟩ (fun h => by cases h) (fun v1 ly1 M1 ⟨q1, q2, q3⟩ => ?_)
              rw [q1, q2]
              have u149 : M1.1 149 = N2.1 149 := by rw [q3]; rfl
              have u23 : M1.1 149 23 = nI m := by rw [u149, n149]; exact c23
              have hRM1 : RW ly M1.2.2 := by rw [q3]; exact hRN2
              refine Rn.aload_n dX12_text_428 rfl ?_
              refine Rn.getI dX12_text_429 fX12_288 rfl (rc149 hRM1) ?_
              refine Rn.topI (y := nI m) (u23) ?_
              refine Rn.iret (ty := .int) dX12_text_432 rfl rfl (hQ2.2 M1 p2 m htx hct ?_ (by rw [q3]; exact n2r.trans hF.1) ?_ ?_ ?_ ?_ ?_ ?_ ?_ ?_ ?_ ?_ ?_ ?_ ?_ ?_ ?_ ?_ ?_)
              · refine hP.low hct (by rw [q3]; exact n151) (fun a h1 h2 => ?_) (fun a h1 h2 => ?_) (by rw [q3]; exact n164) (by rw [q3]; exact ⟨n165, n166⟩) (by rw [q3]; exact ⟨n167, n168⟩)
                · rcases (show a = 152 ∨ a = 153 ∨ a = 154 ∨ a = 155 ∨ a = 156 ∨ a = 157 by omega) with rfl | rfl | rfl | rfl | rfl | rfl
                  · rw [q3]; exact n152
                  · rw [q3]; exact n153
                  · rw [q3]; exact n154
                  · rw [q3]; exact n155
                  · rw [q3]; exact n156
                  · rw [q3]; exact n157
                · rcases (show a = 158 ∨ a = 159 ∨ a = 160 ∨ a = 161 ∨ a = 162 ∨ a = 163 by omega) with rfl | rfl | rfl | rfl | rfl | rfl
                  · rw [q3]; exact n158
                  · rw [q3]; exact n159
                  · rw [q3]; exact n160
                  · rw [q3]; exact n161
                  · rw [q3]; exact n162
                  · rw [q3]; exact n163
              · intro a ha
                rw [q3, sI_ne (show a ≠ 179 by omega), sI_ne (show a ≠ 178 by omega), sI_ne (show a ≠ 177 by omega), sI_ne (show a ≠ 176 by omega), sI_ne (show a ≠ 175 by omega), sI_ne (show a ≠ 174 by omega), sI_ne (show a ≠ 173 by omega), sI_ne (show a ≠ 172 by omega), sI_ne (show a ≠ 169 by omega), sI_ne (show a ≠ 182 by omega), sI_ne (show a ≠ 181 by omega), n2o a (by omega)]
                exact funext (fun j => hF.2.1 a j (by omega) (by omega))
              · intro j hj
                rw [u149, n149]
                show upd (upd (upd (upd (upd (upd (KK.1 149) 31 0) 32 (-1)) 70 0) 71 (-1)) 50 0) 51 0 j = M.1 149 j
                rw [pk_un (by omega), pk_un (by omega), pk_un (by omega), pk_un (by omega), pk_un (by omega), pk_un (by omega)]
                exact hF.2.2 j (by omega)
              · rw [u149, n149]; exact ⟨c0, c2, rfl, rfl, rfl, rfl, rfl, rfl⟩
              · rw [q3]; exact congrArg (fun r9 => upd r9 0 0) ((n2o 169 (by decide)).trans (funext (fun j => hF.2.1 169 j (by decide) (Or.inr (Or.inl (by decide))))))
              · rw [q3]; exact n170.trans (congrArg (fun r9 => upd r9 0 (p2.D 0 11)) (funext (fun j => hF.2.1 170 j (by decide) (Or.inr (Or.inl (by decide))))))
              · rw [q3]; exact n171.trans (congrArg (fun r9 => upd r9 0 0) (funext (fun j => hF.2.1 171 j (by decide) (Or.inr (Or.inl (by decide))))))
              · rw [q3]; exact congrArg (fun r9 => upd r9 0 0) ((n2o 172 (by decide)).trans (funext (fun j => hF.2.1 172 j (by decide) (Or.inr (Or.inl (by decide))))))
              · rw [q3]; exact congrArg (fun r9 => blk 0 12 (fun _ => 0) r9) ((n2o 173 (by decide)).trans (funext (fun j => hF.2.1 173 j (by decide) (Or.inr (Or.inl (by decide))))))
              · rw [q3]; exact congrArg (fun r9 => blk 0 12 (fun _ => 0) r9) ((n2o 174 (by decide)).trans (funext (fun j => hF.2.1 174 j (by decide) (Or.inr (Or.inl (by decide))))))
              · rw [q3]; exact congrArg (fun r9 => blk 0 12 (fun _ => 0) r9) ((n2o 175 (by decide)).trans (funext (fun j => hF.2.1 175 j (by decide) (Or.inr (Or.inl (by decide))))))
              · rw [q3]; exact congrArg (fun r9 => blk 0 12 (fun _ => 0) r9) ((n2o 176 (by decide)).trans (funext (fun j => hF.2.1 176 j (by decide) (Or.inr (Or.inl (by decide))))))
              · rw [q3]; exact congrArg (fun r9 => blk 0 6 (fun _ => -1) r9) ((n2o 177 (by decide)).trans (funext (fun j => hF.2.1 177 j (by decide) (Or.inr (Or.inl (by decide))))))
              · rw [q3]; exact congrArg (fun r9 => blk 0 6 (fun _ => 0) r9) ((n2o 178 (by decide)).trans (funext (fun j => hF.2.1 178 j (by decide) (Or.inr (Or.inl (by decide))))))
              · rw [q3]; exact congrArg (fun r9 => blk 0 6 (fun _ => 0) r9) ((n2o 179 (by decide)).trans (funext (fun j => hF.2.1 179 j (by decide) (Or.inr (Or.inl (by decide))))))
              · rw [q3]; exact n180.trans (congrArg (fun r9 => upd r9 0 (nI (p2.ct 1))) (funext (fun j => hF.2.1 180 j (by decide) (Or.inr (Or.inl (by decide))))))
              · rw [q3, e0]; rfl
              · rw [q3, e0]; rfl
            · skip
              exact absurd (nI_le (a := p2.ct 1) (b := i2) (by omega) (by omega)) hc
          | succ k ih =>
            intro i2 hi
            refine Rn.iload_n dX12_text_382 rfl ?_
            refine Rn.aload_n dX12_text_383 rfl ?_
            refine Rn.getR dX12_text_384 fX12_15 rfl (rc149 hRN2) (show N2.2.2 149 3 = some 151 from (rpt3 hRN2)) ?_
            refine Rn.bipushv (v := 7) dX12_text_387 bp_7 ?_
            refine Rn.iald dX12_text_389 (rc151 hRN2) (by unfold vp_in; decide) ?_
            refine Rn.topI (y := N2.1 151 7) (rfl) ?_
            refine Rn.topI (y := nI (p2.ct 1)) (l7) ?_
            refine Rn.icmp_ge dX12_text_390 (fun hc => ?_) (fun hc => ?_)
            · skip
              exact absurd hc (nI_ge (a := i2) (b := p2.ct 1) (by omega) (by omega))
            · skip
              refine Rn.aload_n dX12_text_393 rfl ?_
              refine Rn.getR dX12_text_394 fX12_110 rfl (rc149 hRN2) (show N2.2.2 149 47 = some 181 from (rpt47 hRN2)) ?_
              refine Rn.iload_n dX12_text_397 rfl ?_
              refine Rn.aload_n dX12_text_398 rfl ?_
              refine Rn.getR dX12_text_399 fX12_39 rfl (rc149 hRN2) (show N2.2.2 149 11 = some 159 from (rpt11 hRN2)) ?_
              refine Rn.iload_n dX12_text_402 rfl ?_
              refine Rn.ialdN (k0 := i2) dX12_text_403 (rc159 hRN2) (by omega) (by decide) ?_
              refine Rn.topI (y := p2.D 10 i2) (l10 i2 (by omega)) ?_
              refine Rn.iastN (k0 := i2) dX12_text_404 (rc181 hRN2) (by omega) (by decide) ?_
              refine Rn.meq (M2 := sI (sI N2 181 (upd (pre i2 (p2.D 10) (M.1 181)) i2 (p2.D 10 i2))) 182 (pre i2 (p2.D 11) (M.1 182))) ((sI_comm (show 182 ≠ 181 by decide)).trans (congrArg (fun m9 => sI m9 182 (pre i2 (p2.D 11) (M.1 182))) (sI_sI _ _ _ _))) ?_
              refine Rn.aload_n dX12_text_405 rfl ?_
              refine Rn.getR dX12_text_406 fX12_113 rfl (rc149 hRN2) (show N2.2.2 149 48 = some 182 from (rpt48 hRN2)) ?_
              refine Rn.iload_n dX12_text_409 rfl ?_
              refine Rn.aload_n dX12_text_410 rfl ?_
              refine Rn.getR dX12_text_411 fX12_42 rfl (rc149 hRN2) (show N2.2.2 149 12 = some 160 from (rpt12 hRN2)) ?_
              refine Rn.iload_n dX12_text_414 rfl ?_
              refine Rn.ialdN (k0 := i2) dX12_text_415 (rc160 hRN2) (by omega) (by decide) ?_
              refine Rn.topI (y := p2.D 11 i2) (l11 i2 (by omega)) ?_
              refine Rn.iastN (k0 := i2) dX12_text_416 (rc182 hRN2) (by omega) (by decide) ?_
              refine Rn.meq (M2 := sI (sI N2 181 (upd (pre i2 (p2.D 10) (M.1 181)) i2 (p2.D 10 i2))) 182 (upd (pre i2 (p2.D 11) (M.1 182)) i2 (p2.D 11 i2))) (sI_sI _ _ _ _) ?_
              refine Rn.meq (M2 := sI (sI N2 181 (pre (i2 + 1) (p2.D 10) (M.1 181))) 182 (upd (pre i2 (p2.D 11) (M.1 182)) i2 (p2.D 11 i2))) (congrArg (fun m9 => sI m9 182 (upd (pre i2 (p2.D 11) (M.1 182)) i2 (p2.D 11 i2))) (congrArg (fun r9 => sI N2 181 r9) (pre_s))) ?_
              refine Rn.meq (M2 := sI (sI N2 181 (pre (i2 + 1) (p2.D 10) (M.1 181))) 182 (pre (i2 + 1) (p2.D 11) (M.1 182))) (congrArg (fun r9 => sI (sI N2 181 (pre (i2 + 1) (p2.D 10) (M.1 181))) 182 r9) (pre_s)) ?_
              refine Rn.iincN (lv' := [some (.ref 149), some (.int (nI n)), some (.int (nI (i2 + 1)))]) dX12_text_417 rfl (by decide) rfl ?_
              refine Rn.goto dX12_text_420 ?_
              exact ih (i2 + 1) (by omega)
        refine Rn.meq (M2 := sI (sI N2 181 (pre 0 (p2.D 10) (M.1 181))) 182 (pre 0 (p2.D 11) (M.1 182))) (by rw [pre_0, pre_0, ← n181, ← n182, sI_id]; exact (sI_id N2 182).symm) ?_
        exact loop2 (p2.ct 1) 0 (by omega)
      have loop : ∀ (k : Nat) (KK : Mm) (p : Pl) (i m : Nat), m + k = 700 → m ≤ i → RPs KK f n p i → rtF M KK → KK.1 149 0 = 0 → KK.1 149 2 = 0 → KK.1 149 30 = -1 → KK.1 149 23 = nI m → txF (kdF f n) (nvF f n) (nx f n) 701 p0 0 0 = txF (kdF f n) (nvF f n) (nx f n) (k + 1) p i m → Rn G l mX12_text (129, 0, 0, false) 154 [some (.ref 149), some (.int (nI n)), none] [] ly KK Q := by
        intro k
        induction k with
        | zero =>
          intro KK p i m hk hmi hS hF c0 c2 c30 c23 ht
          have hRKK : RW ly KK.2.2 := by rw [hF.1]; exact hR
          have hz := hS.z
          have hin : i ≤ n := hS.1.2.1
          have h4 := hz.tc.1.n.2.2.1
          rw [hz.tc.2.1] at h4
          refine Rn.aload_n dX12_text_154 rfl ?_
          refine Rn.getI dX12_text_155 fX12_222 rfl (rc149 hRKK) ?_
          refine Rn.if_ne dX12_text_158 (fun h9 => absurd hz.2.2 h9) (fun h9 => ?_)
          refine Rn.aload_n dX12_text_161 rfl ?_
          refine Rn.getI dX12_text_162 fX12_188 rfl (rc149 hRKK) ?_
          refine Rn.iconstv (v := 4) dX12_text_165 ic_4 ?_
          refine Rn.icmp_eq dX12_text_166 (fun h40 => ?_) (fun h40 => ?_)
          · skip
            exact good KK p i m (by rw [ht]; exact if_pos (h4.mp h40)) hF hS c0 c2 c30 c23
          · skip
            have hk40 : ¬ kdF f n i = 40 := fun g => h40 (h4.mpr g)
            have hP9 := tkP_le (f := f) hin
            exact absurd (kd_k (by unfold tkT; rw [if_pos (by omega)])) hk40
        | succ k ih =>
          intro KK p i m hk hmi hS hF c0 c2 c30 c23 ht
          have hRKK : RW ly KK.2.2 := by rw [hF.1]; exact hR
          have hz := hS.z
          have hin : i ≤ n := hS.1.2.1
          have h4 := hz.tc.1.n.2.2.1
          rw [hz.tc.2.1] at h4
          refine Rn.aload_n dX12_text_154 rfl ?_
          refine Rn.getI dX12_text_155 fX12_222 rfl (rc149 hRKK) ?_
          refine Rn.if_ne dX12_text_158 (fun h9 => absurd hz.2.2 h9) (fun h9 => ?_)
          refine Rn.aload_n dX12_text_161 rfl ?_
          refine Rn.getI dX12_text_162 fX12_188 rfl (rc149 hRKK) ?_
          refine Rn.iconstv (v := 4) dX12_text_165 ic_4 ?_
          refine Rn.icmp_eq dX12_text_166 (fun h40 => ?_) (fun h40 => ?_)
          · skip
            exact good KK p i m (by rw [ht]; exact if_pos (h4.mp h40)) hF hS c0 c2 c30 c23
          · skip
            have hk40 : ¬ kdF f n i = 40 := fun g => h40 (h4.mpr g)
            refine Rn.aload_n dX12_text_169 rfl ?_
            refine Rn.callV0 dX12_text_170 vX12_324 (rc149 hRKK) (by decide) rfl (rline (M := KK) (m := m) hS c23 hRKK) (by decide) ⟨(Nat.le_of_ble_eq_true rfl), (Nat.le_of_ble_eq_true rfl), (Nat.le_of_ble_eq_true rfl)⟩ (fun h => by cases h) (fun v1 ly1 N3 ⟨q1, q2, r3, hh⟩ => ?_)
            rw [q1, q2]
            have hF3 := hF.g r3
            have htx : txF (kdF f n) (nvF f n) (nx f n) (k + 1 + 1) p i m = Sum.elim (fun x => txF (kdF f n) (nvF f n) (nx f n) (k + 1) x.1 x.2 (m + 1)) .inr (lnF (kdF f n) (nvF f n) (nx f n) p i) := if_neg hk40
            rcases hh with ⟨p2, j, e9, hS3, d23⟩ | ⟨q, j, e9, hfa⟩
            · skip
              have hRN3 : RW ly N3.2.2 := by rw [hF3.1]; exact hR
              have hlt := lnF_lt hbn hin hS3.1.2.1 e9
              refine Rn.goto dX12_text_173 ?_
              exact ih N3 p2 j (m + 1) (by omega) (by omega) hS3 hF3 ((r3.2.2 0 (by omega)).trans c0) ((r3.2.2 2 (by omega)).trans c2) hS3.2.2.2.1.2 d23 (by rw [ht, htx, e9]; rfl)
            · skip
              have hRN3 : RW ly N3.2.2 := by rw [hF3.1]; exact hR
              refine Rn.goto dX12_text_173 ?_
              refine Rn.aload_n dX12_text_154 rfl ?_
              refine Rn.getI dX12_text_155 fX12_222 rfl (rc149 hRN3) ?_
              refine Rn.if_ne dX12_text_158 (fun h9 => ?_) (fun h9 => absurd (hfa.1.symm.trans h9) hfa.2.1)
              exact bad N3 q j (by rw [ht, htx, e9]; rfl) hF3 hfa ((r3.2.2 0 (by omega)).trans c0) ((r3.2.2 2 (by omega)).trans c2)
      have hRN1 : RW ly N1.2.2 := by rw [h1.1]; exact hR
      exact loop 700 N1 p0 0 0 (by decide) (Nat.le_refl 0) hS1 h1 k1.1 k1.2.1 k1.2.2.2 k1.2.2.1 rfl
    · skip
      refine Rn.bipushv (v := -2) dX12_text_17 bp_m2 ?_
      exact Rn.iret (ty := .int) dX12_text_19 rfl rfl (hQ.1 (Or.inr (Int32.not_le.mp hx1)))
