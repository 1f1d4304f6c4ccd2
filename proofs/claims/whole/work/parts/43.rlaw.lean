theorem isL_0 : isL 0 = 0 := rfl
theorem isL_1 : isL 1 = 1 := rfl
def jnB (v : Int64) : Prop := 1000000000000 < v ∨ v < -1000000000000
/-- signs: the class's kind, the reference's value -/
def sgT : List (Int32 × Int32) := [(16, 262), (17, 261), (25, 60), (26, 256), (27, 61), (28, 257), (29, 258), (30, 62), (31, 43), (32, 45), (33, 42), (34, 47)]
theorem jn01 {c : Int32} (h : c = 0 ∨ c = 1) : (if c = 0 then (0 : Int64) else 1) = isL c := rfl
theorem hd16 {x y : Int64} : hdL 16 x y = (if x = 0 then (if y = 0 then 0 else 1) else 1 : Int32) := by unfold hdL; rw [if_pos rfl]
theorem jn16 {x y : Int64} : jnL 16 x y = (if x = 0 then (if y = 0 then 0 else 1) else 1 : Int64) := by unfold jnL; rw [if_neg (by decide), if_neg (by decide), if_neg (by decide), if_neg (by decide), hd16]; (repeat' split) <;> first | rfl | contradiction
theorem hd17 {x y : Int64} : hdL 17 x y = (if x = 0 then 0 else if y = 0 then 0 else 1 : Int32) := by unfold hdL; rw [if_neg (by decide), if_pos rfl]
theorem jn17 {x y : Int64} : jnL 17 x y = (if x = 0 then 0 else if y = 0 then 0 else 1 : Int64) := by unfold jnL; rw [if_neg (by decide), if_neg (by decide), if_neg (by decide), if_neg (by decide), hd17]; (repeat' split) <;> first | rfl | contradiction
theorem hd25 {x y : Int64} : hdL 25 x y = (if y ≤ x then 0 else 1 : Int32) := by unfold hdL; rw [if_neg (by decide), if_neg (by decide), if_pos rfl]
theorem jn25 {x y : Int64} : jnL 25 x y = (if y ≤ x then 0 else 1 : Int64) := by unfold jnL; rw [if_neg (by decide), if_neg (by decide), if_neg (by decide), if_neg (by decide), hd25]; (repeat' split) <;> first | rfl | contradiction
theorem hd26 {x y : Int64} : hdL 26 x y = (if y < x then 0 else 1 : Int32) := by unfold hdL; rw [if_neg (by decide), if_neg (by decide), if_neg (by decide), if_pos rfl]
theorem jn26 {x y : Int64} : jnL 26 x y = (if y < x then 0 else 1 : Int64) := by unfold jnL; rw [if_neg (by decide), if_neg (by decide), if_neg (by decide), if_neg (by decide), hd26]; (repeat' split) <;> first | rfl | contradiction
theorem hd27 {x y : Int64} : hdL 27 x y = (if x = y then 1 else 0 : Int32) := by unfold hdL; rw [if_neg (by decide), if_neg (by decide), if_neg (by decide), if_neg (by decide), if_pos rfl]
theorem jn27 {x y : Int64} : jnL 27 x y = (if x = y then 1 else 0 : Int64) := by unfold jnL; rw [if_neg (by decide), if_neg (by decide), if_neg (by decide), if_neg (by decide), hd27]; (repeat' split) <;> first | rfl | contradiction
theorem hd28 {x y : Int64} : hdL 28 x y = (if x = y then 0 else 1 : Int32) := by unfold hdL; rw [if_neg (by decide), if_neg (by decide), if_neg (by decide), if_neg (by decide), if_neg (by decide), if_pos rfl]
theorem jn28 {x y : Int64} : jnL 28 x y = (if x = y then 0 else 1 : Int64) := by unfold jnL; rw [if_neg (by decide), if_neg (by decide), if_neg (by decide), if_neg (by decide), hd28]; (repeat' split) <;> first | rfl | contradiction
theorem hd29 {x y : Int64} : hdL 29 x y = (if x < y then 0 else 1 : Int32) := by unfold hdL; rw [if_neg (by decide), if_neg (by decide), if_neg (by decide), if_neg (by decide), if_neg (by decide), if_neg (by decide), if_pos rfl]
theorem jn29 {x y : Int64} : jnL 29 x y = (if x < y then 0 else 1 : Int64) := by unfold jnL; rw [if_neg (by decide), if_neg (by decide), if_neg (by decide), if_neg (by decide), hd29]; (repeat' split) <;> first | rfl | contradiction
theorem hd30 {x y : Int64} : hdL 30 x y = (if x ≤ y then 0 else 1 : Int32) := by unfold hdL; rw [if_neg (by decide), if_neg (by decide), if_neg (by decide), if_neg (by decide), if_neg (by decide), if_neg (by decide), if_neg (by decide)]
theorem jn30 {x y : Int64} : jnL 30 x y = (if x ≤ y then 0 else 1 : Int64) := by unfold jnL; rw [if_neg (by decide), if_neg (by decide), if_neg (by decide), if_neg (by decide), hd30]; (repeat' split) <;> first | rfl | contradiction
theorem jn31 {x y : Int64} : jnL 31 x y = x + y := if_pos rfl
theorem jn32 {x y : Int64} : jnL 32 x y = x - y := by unfold jnL; rw [if_neg (by decide), if_pos rfl]
theorem jn33 {x y : Int64} : jnL 33 x y = if x = 0 then x * y else if abL y ≤ 1000000000000 / abL x then x * y else erL := by unfold jnL; rw [if_neg (by decide), if_neg (by decide), if_pos rfl]
theorem jn34 {x y : Int64} : jnL 34 x y = if y = 0 then erL else x / y := by unfold jnL; rw [if_neg (by decide), if_neg (by decide), if_neg (by decide), if_pos rfl]
theorem erL_bad : jnB erL := Or.inr (by decide)
theorem tX12_works16 {G : Gx} {l : Launch} {ly : Ly} {M : Mm} {m : Nat} {x y : Int64} {r : List Int64} (hm : r.length = m) (hm62 : m ≤ 62) (h54 : M.1 149 54 = nI (m + 2)) (hrp : rp (M.2.1 185) (y :: x :: r)) (hR : RW ly M.2.2) {Q : Qt} (hQ : (jnB (jnL 16 x y) → ∀ K : Mm, K.2.2 = M.2.2 → (∀ k, k ≠ 149 → K.1 k = M.1 k) → (∀ j, j ≠ 54 → K.1 149 j = M.1 149 j) → (∀ k, k ≠ 185 → K.2.1 k = M.2.1 k) → Q (some (.int 0)) ly K) ∧ (¬ jnB (jnL 16 x y) → ∀ K : Mm, K.2.2 = M.2.2 → (∀ k, k ≠ 149 → K.1 k = M.1 k) → (∀ j, j ≠ 54 → K.1 149 j = M.1 149 j) → (∀ k, k ≠ 185 → K.2.1 k = M.2.1 k) → K.1 149 54 = nI (m + 1) → rp (K.2.1 185) (jnL 16 x y :: r) → Q (some (.int 1)) ly K)) : Mt G l mX12_works (2, 0, 0, false) [.ref 149, .int 262] ly M Q := by
  have hy : M.2.1 185 (m + 1) = y := by rw [← hm]; exact hrp.1
  have hx : M.2.1 185 m = x := by rw [← hm]; exact hrp.2.1
  have hrr : rp (M.2.1 185) r := hrp.2.2
  clear hrp
  refine Mt.of (lv := [some (.ref 149), some (.int 262), none, none, none, none, none, none]) rfl ?_
  refine Rn.aload_n dX12_works_0 rfl ?_
  refine Rn.getR dX12_works_1 fX12_123 rfl (rc149 hR) (show M.2.2 149 53 = some 185 from (rpt53 hR)) ?_
  refine Rn.aload_n dX12_works_4 rfl ?_
  refine Rn.getI dX12_works_5 fX12_354 rfl (rc149 hR) ?_
  refine Rn.topI (y := nI (m + 2)) (h54) ?_
  refine Rn.iconstv (v := 1) dX12_works_8 ic_1 ?_
  refine Rn.isub dX12_works_9 ?_
  refine Rn.topI (y := nI (m + 1)) (nI_subk (m + 1) 1) ?_
  refine Rn.laldN (k0 := (m + 1)) dX12_works_10 (rc185 hR) (by omega) (by decide) ?_
  refine Rn.topL (y := y) (hy) ?_
  refine Rn.lstore_n (lv' := [some (.ref 149), some (.int 262), some (.long y), none, none, none, none, none]) dX12_works_11 (by decide) rfl ?_
  refine Rn.iload_n dX12_works_12 rfl ?_
  refine Rn.sipushv (v := 260) dX12_works_13 sp_260 ?_
  refine Rn.icmp_ne dX12_works_16 (fun h16 => ?_) (fun h16 => ?_)
  · skip
    refine Rn.aload_n dX12_works_46 rfl ?_
    refine Rn.getR dX12_works_47 fX12_123 rfl (rc149 hR) (show M.2.2 149 53 = some 185 from (rpt53 hR)) ?_
    refine Rn.aload_n dX12_works_50 rfl ?_
    refine Rn.getI dX12_works_51 fX12_354 rfl (rc149 hR) ?_
    refine Rn.topI (y := nI (m + 2)) (h54) ?_
    refine Rn.iconstv (v := 2) dX12_works_54 ic_2 ?_
    refine Rn.isub dX12_works_55 ?_
    refine Rn.topI (y := nI m) (nI_subk m 2) ?_
    refine Rn.laldN (k0 := m) dX12_works_56 (rc185 hR) (by omega) (by decide) ?_
    refine Rn.topL (y := x) (hx) ?_
    refine Rn.lstore (lv' := [some (.ref 149), some (.int 262), some (.long y), none, some (.long x), none, none, none]) dX12_works_57 (by decide) rfl ?_
    refine Rn.aload_n dX12_works_59 rfl ?_
    refine Rn.dup dX12_works_60 rfl ?_
    refine Rn.getI dX12_works_61 fX12_354 rfl (rc149 hR) ?_
    refine Rn.topI (y := nI (m + 2)) (h54) ?_
    refine Rn.iconstv (v := 1) dX12_works_64 ic_1 ?_
    refine Rn.isub dX12_works_65 ?_
    refine Rn.topI (y := nI (m + 1)) (nI_subk (m + 1) 1) ?_
    refine Rn.putI dX12_works_66 fX12_354 rfl rfl rfl (rc149 hR) ?_
    refine Rn.iload_n dX12_works_69 rfl ?_
    refine Rn.lookup (off := 314) (tgt := 384) dX12_works_70 (by decide) (by decide) (by decide) ?_
    refine Rn.lload dX12_works_384 rfl ?_
    refine Rn.lconstv (v := 0) dX12_works_386 rfl ?_
    refine Rn.lcmp dX12_works_387 ?_
    refine Rn.if_ne dX12_works_388 (fun h388 => ?_) (fun h388 => ?_)
    · rw [lg_cmp_eq] at h388
      refine Rn.iconstv (v := 1) dX12_works_397 ic_1 ?_
      refine Rn.goto dX12_works_398 ?_
      refine Rn.callS1 dX12_works_402 vX12_357 (tX12_is) (by decide) ⟨(Nat.le_of_ble_eq_true rfl), (Nat.le_of_ble_eq_true rfl), (Nat.le_of_ble_eq_true rfl)⟩ (fun h => by cases h) (fun v1 ly1 M1 ⟨q1, q2, q3⟩ => ?_)
      rw [q1, q2, q3]
      refine Rn.topL (y := 1) (isL_1) ?_
      refine Rn.lstore (lv' := [some (.ref 149), some (.int 262), some (.long y), none, some (.long x), none, some (.long 1), none]) dX12_works_405 (by decide) rfl ?_
      have hv : jnL 16 x y = 1 := by rw [jn16]; simp only [h388, ↓reduceIte]
      rw [hv] at hQ
      refine Rn.aload_n dX12_works_407 rfl ?_
      refine Rn.getR dX12_works_408 fX12_123 rfl (rc149 hR) (show M.2.2 149 53 = some 185 from (rpt53 hR)) ?_
      refine Rn.aload_n dX12_works_411 rfl ?_
      refine Rn.getI dX12_works_412 fX12_354 rfl (rc149 hR) ?_
      refine Rn.iconstv (v := 1) dX12_works_415 ic_1 ?_
      refine Rn.isub dX12_works_416 ?_
      refine Rn.topI (y := nI m) (nI_subk m 1) ?_
      refine Rn.lload dX12_works_417 rfl ?_
      refine Rn.lastN (k0 := m) dX12_works_419 (rc185 hR) (by omega) (by decide) ?_
      refine Rn.lload dX12_works_420 rfl ?_
      refine Rn.ldc2 dX12_works_422 kX12_365 ?_
      refine Rn.lcmp dX12_works_425 ?_
      refine Rn.if_gt dX12_works_426 (fun b1 => ?_) (fun b1 => ?_)
      · rw [lg_cmp_gt] at b1
        refine Rn.iconstv (v := 0) dX12_works_442 ic_0 ?_
        exact Rn.iret (ty := .boolean) dX12_works_443 rfl rfl (hQ.1 (Or.inl b1) _ rfl (fun k h => sI_ne h) (fun j h => by show (sL (sI M 149 (upd (M.1 149) 54 (nI (m + 1)))) 185 (vp_updL (M.2.1 185) m 1)).1 149 j = _; rw [show (sL (sI M 149 (upd (M.1 149) 54 (nI (m + 1)))) 185 (vp_updL (M.2.1 185) m 1)).1 149 = upd (M.1 149) 54 (nI (m + 1)) from rfl, pk_un h]) (fun k h => by show (if k = 185 then _ else M.2.1 k) = _; rw [if_neg h]))
      · rw [lg_cmp_gt] at b1
        refine Rn.lload dX12_works_429 rfl ?_
        refine Rn.ldc2 dX12_works_431 kX12_367 ?_
        refine Rn.lcmp dX12_works_434 ?_
        refine Rn.if_lt dX12_works_435 (fun b2 => ?_) (fun b2 => ?_)
        · rw [lg_cmp_lt] at b2
          refine Rn.iconstv (v := 0) dX12_works_442 ic_0 ?_
          exact Rn.iret (ty := .boolean) dX12_works_443 rfl rfl (hQ.1 (Or.inr b2) _ rfl (fun k h => sI_ne h) (fun j h => by show (sL (sI M 149 (upd (M.1 149) 54 (nI (m + 1)))) 185 (vp_updL (M.2.1 185) m 1)).1 149 j = _; rw [show (sL (sI M 149 (upd (M.1 149) 54 (nI (m + 1)))) 185 (vp_updL (M.2.1 185) m 1)).1 149 = upd (M.1 149) 54 (nI (m + 1)) from rfl, pk_un h]) (fun k h => by show (if k = 185 then _ else M.2.1 k) = _; rw [if_neg h]))
        · rw [lg_cmp_lt] at b2
          refine Rn.iconstv (v := 1) dX12_works_438 ic_1 ?_
          refine Rn.goto dX12_works_439 ?_
          exact Rn.iret (ty := .boolean) dX12_works_443 rfl rfl (hQ.2 (fun h => h.elim b1 b2) _ rfl (fun k h => sI_ne h) (fun j h => by show (sL (sI M 149 (upd (M.1 149) 54 (nI (m + 1)))) 185 (vp_updL (M.2.1 185) m 1)).1 149 j = _; rw [show (sL (sI M 149 (upd (M.1 149) 54 (nI (m + 1)))) 185 (vp_updL (M.2.1 185) m 1)).1 149 = upd (M.1 149) 54 (nI (m + 1)) from rfl, pk_un h]) (fun k h => by show (if k = 185 then _ else M.2.1 k) = _; rw [if_neg h]) rfl (by show rp (vp_updL (M.2.1 185) m 1) _; rw [← hm]; exact rp_push hrr))
    · rw [lg_cmp_eq] at h388
      refine Rn.lload_n dX12_works_391 rfl ?_
      refine Rn.lconstv (v := 0) dX12_works_392 rfl ?_
      refine Rn.lcmp dX12_works_393 ?_
      refine Rn.if_eq dX12_works_394 (fun h394 => ?_) (fun h394 => ?_)
      · rw [lg_cmp_eq] at h394
        refine Rn.iconstv (v := 0) dX12_works_401 ic_0 ?_
        refine Rn.callS1 dX12_works_402 vX12_357 (tX12_is) (by decide) ⟨(Nat.le_of_ble_eq_true rfl), (Nat.le_of_ble_eq_true rfl), (Nat.le_of_ble_eq_true rfl)⟩ (fun h => by cases h) (fun v1 ly1 M1 ⟨q1, q2, q3⟩ => ?_)
        rw [q1, q2, q3]
        refine Rn.topL (y := 0) (isL_0) ?_
        refine Rn.lstore (lv' := [some (.ref 149), some (.int 262), some (.long y), none, some (.long x), none, some (.long 0), none]) dX12_works_405 (by decide) rfl ?_
        have hv : jnL 16 x y = 0 := by rw [jn16]; simp only [h388, h394, ↓reduceIte]
        rw [hv] at hQ
        refine Rn.aload_n dX12_works_407 rfl ?_
        refine Rn.getR dX12_works_408 fX12_123 rfl (rc149 hR) (show M.2.2 149 53 = some 185 from (rpt53 hR)) ?_
        refine Rn.aload_n dX12_works_411 rfl ?_
        refine Rn.getI dX12_works_412 fX12_354 rfl (rc149 hR) ?_
        refine Rn.iconstv (v := 1) dX12_works_415 ic_1 ?_
        refine Rn.isub dX12_works_416 ?_
        refine Rn.topI (y := nI m) (nI_subk m 1) ?_
        refine Rn.lload dX12_works_417 rfl ?_
        refine Rn.lastN (k0 := m) dX12_works_419 (rc185 hR) (by omega) (by decide) ?_
        refine Rn.lload dX12_works_420 rfl ?_
        refine Rn.ldc2 dX12_works_422 kX12_365 ?_
        refine Rn.lcmp dX12_works_425 ?_
        refine Rn.if_gt dX12_works_426 (fun b1 => ?_) (fun b1 => ?_)
        · rw [lg_cmp_gt] at b1
          refine Rn.iconstv (v := 0) dX12_works_442 ic_0 ?_
          exact Rn.iret (ty := .boolean) dX12_works_443 rfl rfl (hQ.1 (Or.inl b1) _ rfl (fun k h => sI_ne h) (fun j h => by show (sL (sI M 149 (upd (M.1 149) 54 (nI (m + 1)))) 185 (vp_updL (M.2.1 185) m 0)).1 149 j = _; rw [show (sL (sI M 149 (upd (M.1 149) 54 (nI (m + 1)))) 185 (vp_updL (M.2.1 185) m 0)).1 149 = upd (M.1 149) 54 (nI (m + 1)) from rfl, pk_un h]) (fun k h => by show (if k = 185 then _ else M.2.1 k) = _; rw [if_neg h]))
        · rw [lg_cmp_gt] at b1
          refine Rn.lload dX12_works_429 rfl ?_
          refine Rn.ldc2 dX12_works_431 kX12_367 ?_
          refine Rn.lcmp dX12_works_434 ?_
          refine Rn.if_lt dX12_works_435 (fun b2 => ?_) (fun b2 => ?_)
          · rw [lg_cmp_lt] at b2
            refine Rn.iconstv (v := 0) dX12_works_442 ic_0 ?_
            exact Rn.iret (ty := .boolean) dX12_works_443 rfl rfl (hQ.1 (Or.inr b2) _ rfl (fun k h => sI_ne h) (fun j h => by show (sL (sI M 149 (upd (M.1 149) 54 (nI (m + 1)))) 185 (vp_updL (M.2.1 185) m 0)).1 149 j = _; rw [show (sL (sI M 149 (upd (M.1 149) 54 (nI (m + 1)))) 185 (vp_updL (M.2.1 185) m 0)).1 149 = upd (M.1 149) 54 (nI (m + 1)) from rfl, pk_un h]) (fun k h => by show (if k = 185 then _ else M.2.1 k) = _; rw [if_neg h]))
          · rw [lg_cmp_lt] at b2
            refine Rn.iconstv (v := 1) dX12_works_438 ic_1 ?_
            refine Rn.goto dX12_works_439 ?_
            exact Rn.iret (ty := .boolean) dX12_works_443 rfl rfl (hQ.2 (fun h => h.elim b1 b2) _ rfl (fun k h => sI_ne h) (fun j h => by show (sL (sI M 149 (upd (M.1 149) 54 (nI (m + 1)))) 185 (vp_updL (M.2.1 185) m 0)).1 149 j = _; rw [show (sL (sI M 149 (upd (M.1 149) 54 (nI (m + 1)))) 185 (vp_updL (M.2.1 185) m 0)).1 149 = upd (M.1 149) 54 (nI (m + 1)) from rfl, pk_un h]) (fun k h => by show (if k = 185 then _ else M.2.1 k) = _; rw [if_neg h]) rfl (by show rp (vp_updL (M.2.1 185) m 0) _; rw [← hm]; exact rp_push hrr))
      · rw [lg_cmp_eq] at h394
        refine Rn.iconstv (v := 1) dX12_works_397 ic_1 ?_
        refine Rn.goto dX12_works_398 ?_
        refine Rn.callS1 dX12_works_402 vX12_357 (tX12_is) (by decide) ⟨(Nat.le_of_ble_eq_true rfl), (Nat.le_of_ble_eq_true rfl), (Nat.le_of_ble_eq_true rfl)⟩ (fun h => by cases h) (fun v1 ly1 M1 ⟨q1, q2, q3⟩ => ?_)
        rw [q1, q2, q3]
        refine Rn.topL (y := 1) (isL_1) ?_
        refine Rn.lstore (lv' := [some (.ref 149), some (.int 262), some (.long y), none, some (.long x), none, some (.long 1), none]) dX12_works_405 (by decide) rfl ?_
        have hv : jnL 16 x y = 1 := by rw [jn16]; simp only [h388, h394, ↓reduceIte]
        rw [hv] at hQ
        refine Rn.aload_n dX12_works_407 rfl ?_
        refine Rn.getR dX12_works_408 fX12_123 rfl (rc149 hR) (show M.2.2 149 53 = some 185 from (rpt53 hR)) ?_
        refine Rn.aload_n dX12_works_411 rfl ?_
        refine Rn.getI dX12_works_412 fX12_354 rfl (rc149 hR) ?_
        refine Rn.iconstv (v := 1) dX12_works_415 ic_1 ?_
        refine Rn.isub dX12_works_416 ?_
        refine Rn.topI (y := nI m) (nI_subk m 1) ?_
        refine Rn.lload dX12_works_417 rfl ?_
        refine Rn.lastN (k0 := m) dX12_works_419 (rc185 hR) (by omega) (by decide) ?_
        refine Rn.lload dX12_works_420 rfl ?_
        refine Rn.ldc2 dX12_works_422 kX12_365 ?_
        refine Rn.lcmp dX12_works_425 ?_
        refine Rn.if_gt dX12_works_426 (fun b1 => ?_) (fun b1 => ?_)
        · rw [lg_cmp_gt] at b1
          refine Rn.iconstv (v := 0) dX12_works_442 ic_0 ?_
          exact Rn.iret (ty := .boolean) dX12_works_443 rfl rfl (hQ.1 (Or.inl b1) _ rfl (fun k h => sI_ne h) (fun j h => by show (sL (sI M 149 (upd (M.1 149) 54 (nI (m + 1)))) 185 (vp_updL (M.2.1 185) m 1)).1 149 j = _; rw [show (sL (sI M 149 (upd (M.1 149) 54 (nI (m + 1)))) 185 (vp_updL (M.2.1 185) m 1)).1 149 = upd (M.1 149) 54 (nI (m + 1)) from rfl, pk_un h]) (fun k h => by show (if k = 185 then _ else M.2.1 k) = _; rw [if_neg h]))
        · rw [lg_cmp_gt] at b1
          refine Rn.lload dX12_works_429 rfl ?_
          refine Rn.ldc2 dX12_works_431 kX12_367 ?_
          refine Rn.lcmp dX12_works_434 ?_
          refine Rn.if_lt dX12_works_435 (fun b2 => ?_) (fun b2 => ?_)
          · rw [lg_cmp_lt] at b2
            refine Rn.iconstv (v := 0) dX12_works_442 ic_0 ?_
            exact Rn.iret (ty := .boolean) dX12_works_443 rfl rfl (hQ.1 (Or.inr b2) _ rfl (fun k h => sI_ne h) (fun j h => by show (sL (sI M 149 (upd (M.1 149) 54 (nI (m + 1)))) 185 (vp_updL (M.2.1 185) m 1)).1 149 j = _; rw [show (sL (sI M 149 (upd (M.1 149) 54 (nI (m + 1)))) 185 (vp_updL (M.2.1 185) m 1)).1 149 = upd (M.1 149) 54 (nI (m + 1)) from rfl, pk_un h]) (fun k h => by show (if k = 185 then _ else M.2.1 k) = _; rw [if_neg h]))
          · rw [lg_cmp_lt] at b2
            refine Rn.iconstv (v := 1) dX12_works_438 ic_1 ?_
            refine Rn.goto dX12_works_439 ?_
            exact Rn.iret (ty := .boolean) dX12_works_443 rfl rfl (hQ.2 (fun h => h.elim b1 b2) _ rfl (fun k h => sI_ne h) (fun j h => by show (sL (sI M 149 (upd (M.1 149) 54 (nI (m + 1)))) 185 (vp_updL (M.2.1 185) m 1)).1 149 j = _; rw [show (sL (sI M 149 (upd (M.1 149) 54 (nI (m + 1)))) 185 (vp_updL (M.2.1 185) m 1)).1 149 = upd (M.1 149) 54 (nI (m + 1)) from rfl, pk_un h]) (fun k h => by show (if k = 185 then _ else M.2.1 k) = _; rw [if_neg h]) rfl (by show rp (vp_updL (M.2.1 185) m 1) _; rw [← hm]; exact rp_push hrr))
  · skip
    exact absurd h16 (by decide)
theorem tX12_works17 {G : Gx} {l : Launch} {ly : Ly} {M : Mm} {m : Nat} {x y : Int64} {r : List Int64} (hm : r.length = m) (hm62 : m ≤ 62) (h54 : M.1 149 54 = nI (m + 2)) (hrp : rp (M.2.1 185) (y :: x :: r)) (hR : RW ly M.2.2) {Q : Qt} (hQ : (jnB (jnL 17 x y) → ∀ K : Mm, K.2.2 = M.2.2 → (∀ k, k ≠ 149 → K.1 k = M.1 k) → (∀ j, j ≠ 54 → K.1 149 j = M.1 149 j) → (∀ k, k ≠ 185 → K.2.1 k = M.2.1 k) → Q (some (.int 0)) ly K) ∧ (¬ jnB (jnL 17 x y) → ∀ K : Mm, K.2.2 = M.2.2 → (∀ k, k ≠ 149 → K.1 k = M.1 k) → (∀ j, j ≠ 54 → K.1 149 j = M.1 149 j) → (∀ k, k ≠ 185 → K.2.1 k = M.2.1 k) → K.1 149 54 = nI (m + 1) → rp (K.2.1 185) (jnL 17 x y :: r) → Q (some (.int 1)) ly K)) : Mt G l mX12_works (2, 0, 0, false) [.ref 149, .int 261] ly M Q := by
  have hy : M.2.1 185 (m + 1) = y := by rw [← hm]; exact hrp.1
  have hx : M.2.1 185 m = x := by rw [← hm]; exact hrp.2.1
  have hrr : rp (M.2.1 185) r := hrp.2.2
  clear hrp
  refine Mt.of (lv := [some (.ref 149), some (.int 261), none, none, none, none, none, none]) rfl ?_
  refine Rn.aload_n dX12_works_0 rfl ?_
  refine Rn.getR dX12_works_1 fX12_123 rfl (rc149 hR) (show M.2.2 149 53 = some 185 from (rpt53 hR)) ?_
  refine Rn.aload_n dX12_works_4 rfl ?_
  refine Rn.getI dX12_works_5 fX12_354 rfl (rc149 hR) ?_
  refine Rn.topI (y := nI (m + 2)) (h54) ?_
  refine Rn.iconstv (v := 1) dX12_works_8 ic_1 ?_
  refine Rn.isub dX12_works_9 ?_
  refine Rn.topI (y := nI (m + 1)) (nI_subk (m + 1) 1) ?_
  refine Rn.laldN (k0 := (m + 1)) dX12_works_10 (rc185 hR) (by omega) (by decide) ?_
  refine Rn.topL (y := y) (hy) ?_
  refine Rn.lstore_n (lv' := [some (.ref 149), some (.int 261), some (.long y), none, none, none, none, none]) dX12_works_11 (by decide) rfl ?_
  refine Rn.iload_n dX12_works_12 rfl ?_
  refine Rn.sipushv (v := 260) dX12_works_13 sp_260 ?_
  refine Rn.icmp_ne dX12_works_16 (fun h16 => ?_) (fun h16 => ?_)
  · skip
    refine Rn.aload_n dX12_works_46 rfl ?_
    refine Rn.getR dX12_works_47 fX12_123 rfl (rc149 hR) (show M.2.2 149 53 = some 185 from (rpt53 hR)) ?_
    refine Rn.aload_n dX12_works_50 rfl ?_
    refine Rn.getI dX12_works_51 fX12_354 rfl (rc149 hR) ?_
    refine Rn.topI (y := nI (m + 2)) (h54) ?_
    refine Rn.iconstv (v := 2) dX12_works_54 ic_2 ?_
    refine Rn.isub dX12_works_55 ?_
    refine Rn.topI (y := nI m) (nI_subk m 2) ?_
    refine Rn.laldN (k0 := m) dX12_works_56 (rc185 hR) (by omega) (by decide) ?_
    refine Rn.topL (y := x) (hx) ?_
    refine Rn.lstore (lv' := [some (.ref 149), some (.int 261), some (.long y), none, some (.long x), none, none, none]) dX12_works_57 (by decide) rfl ?_
    refine Rn.aload_n dX12_works_59 rfl ?_
    refine Rn.dup dX12_works_60 rfl ?_
    refine Rn.getI dX12_works_61 fX12_354 rfl (rc149 hR) ?_
    refine Rn.topI (y := nI (m + 2)) (h54) ?_
    refine Rn.iconstv (v := 1) dX12_works_64 ic_1 ?_
    refine Rn.isub dX12_works_65 ?_
    refine Rn.topI (y := nI (m + 1)) (nI_subk (m + 1) 1) ?_
    refine Rn.putI dX12_works_66 fX12_354 rfl rfl rfl (rc149 hR) ?_
    refine Rn.iload_n dX12_works_69 rfl ?_
    refine Rn.lookup (off := 288) (tgt := 358) dX12_works_70 (by decide) (by decide) (by decide) ?_
    refine Rn.lload dX12_works_358 rfl ?_
    refine Rn.lconstv (v := 0) dX12_works_360 rfl ?_
    refine Rn.lcmp dX12_works_361 ?_
    refine Rn.if_eq dX12_works_362 (fun h362 => ?_) (fun h362 => ?_)
    · rw [lg_cmp_eq] at h362
      refine Rn.iconstv (v := 0) dX12_works_375 ic_0 ?_
      refine Rn.callS1 dX12_works_376 vX12_357 (tX12_is) (by decide) ⟨(Nat.le_of_ble_eq_true rfl), (Nat.le_of_ble_eq_true rfl), (Nat.le_of_ble_eq_true rfl)⟩ (fun h => by cases h) (fun v1 ly1 M1 ⟨q1, q2, q3⟩ => ?_)
      rw [q1, q2, q3]
      refine Rn.topL (y := 0) (isL_0) ?_
      refine Rn.lstore (lv' := [some (.ref 149), some (.int 261), some (.long y), none, some (.long x), none, some (.long 0), none]) dX12_works_379 (by decide) rfl ?_
      refine Rn.goto dX12_works_381 ?_
      have hv : jnL 17 x y = 0 := by rw [jn17]; simp only [h362, ↓reduceIte]
      rw [hv] at hQ
      refine Rn.aload_n dX12_works_407 rfl ?_
      refine Rn.getR dX12_works_408 fX12_123 rfl (rc149 hR) (show M.2.2 149 53 = some 185 from (rpt53 hR)) ?_
      refine Rn.aload_n dX12_works_411 rfl ?_
      refine Rn.getI dX12_works_412 fX12_354 rfl (rc149 hR) ?_
      refine Rn.iconstv (v := 1) dX12_works_415 ic_1 ?_
      refine Rn.isub dX12_works_416 ?_
      refine Rn.topI (y := nI m) (nI_subk m 1) ?_
      refine Rn.lload dX12_works_417 rfl ?_
      refine Rn.lastN (k0 := m) dX12_works_419 (rc185 hR) (by omega) (by decide) ?_
      refine Rn.lload dX12_works_420 rfl ?_
      refine Rn.ldc2 dX12_works_422 kX12_365 ?_
      refine Rn.lcmp dX12_works_425 ?_
      refine Rn.if_gt dX12_works_426 (fun b1 => ?_) (fun b1 => ?_)
      · rw [lg_cmp_gt] at b1
        refine Rn.iconstv (v := 0) dX12_works_442 ic_0 ?_
        exact Rn.iret (ty := .boolean) dX12_works_443 rfl rfl (hQ.1 (Or.inl b1) _ rfl (fun k h => sI_ne h) (fun j h => by show (sL (sI M 149 (upd (M.1 149) 54 (nI (m + 1)))) 185 (vp_updL (M.2.1 185) m 0)).1 149 j = _; rw [show (sL (sI M 149 (upd (M.1 149) 54 (nI (m + 1)))) 185 (vp_updL (M.2.1 185) m 0)).1 149 = upd (M.1 149) 54 (nI (m + 1)) from rfl, pk_un h]) (fun k h => by show (if k = 185 then _ else M.2.1 k) = _; rw [if_neg h]))
      · rw [lg_cmp_gt] at b1
        refine Rn.lload dX12_works_429 rfl ?_
        refine Rn.ldc2 dX12_works_431 kX12_367 ?_
        refine Rn.lcmp dX12_works_434 ?_
        refine Rn.if_lt dX12_works_435 (fun b2 => ?_) (fun b2 => ?_)
        · rw [lg_cmp_lt] at b2
          refine Rn.iconstv (v := 0) dX12_works_442 ic_0 ?_
          exact Rn.iret (ty := .boolean) dX12_works_443 rfl rfl (hQ.1 (Or.inr b2) _ rfl (fun k h => sI_ne h) (fun j h => by show (sL (sI M 149 (upd (M.1 149) 54 (nI (m + 1)))) 185 (vp_updL (M.2.1 185) m 0)).1 149 j = _; rw [show (sL (sI M 149 (upd (M.1 149) 54 (nI (m + 1)))) 185 (vp_updL (M.2.1 185) m 0)).1 149 = upd (M.1 149) 54 (nI (m + 1)) from rfl, pk_un h]) (fun k h => by show (if k = 185 then _ else M.2.1 k) = _; rw [if_neg h]))
        · rw [lg_cmp_lt] at b2
          refine Rn.iconstv (v := 1) dX12_works_438 ic_1 ?_
          refine Rn.goto dX12_works_439 ?_
          exact Rn.iret (ty := .boolean) dX12_works_443 rfl rfl (hQ.2 (fun h => h.elim b1 b2) _ rfl (fun k h => sI_ne h) (fun j h => by show (sL (sI M 149 (upd (M.1 149) 54 (nI (m + 1)))) 185 (vp_updL (M.2.1 185) m 0)).1 149 j = _; rw [show (sL (sI M 149 (upd (M.1 149) 54 (nI (m + 1)))) 185 (vp_updL (M.2.1 185) m 0)).1 149 = upd (M.1 149) 54 (nI (m + 1)) from rfl, pk_un h]) (fun k h => by show (if k = 185 then _ else M.2.1 k) = _; rw [if_neg h]) rfl (by show rp (vp_updL (M.2.1 185) m 0) _; rw [← hm]; exact rp_push hrr))
    · rw [lg_cmp_eq] at h362
      refine Rn.lload_n dX12_works_365 rfl ?_
      refine Rn.lconstv (v := 0) dX12_works_366 rfl ?_
      refine Rn.lcmp dX12_works_367 ?_
      refine Rn.if_eq dX12_works_368 (fun h368 => ?_) (fun h368 => ?_)
      · rw [lg_cmp_eq] at h368
        refine Rn.iconstv (v := 0) dX12_works_375 ic_0 ?_
        refine Rn.callS1 dX12_works_376 vX12_357 (tX12_is) (by decide) ⟨(Nat.le_of_ble_eq_true rfl), (Nat.le_of_ble_eq_true rfl), (Nat.le_of_ble_eq_true rfl)⟩ (fun h => by cases h) (fun v1 ly1 M1 ⟨q1, q2, q3⟩ => ?_)
        rw [q1, q2, q3]
        refine Rn.topL (y := 0) (isL_0) ?_
        refine Rn.lstore (lv' := [some (.ref 149), some (.int 261), some (.long y), none, some (.long x), none, some (.long 0), none]) dX12_works_379 (by decide) rfl ?_
        refine Rn.goto dX12_works_381 ?_
        have hv : jnL 17 x y = 0 := by rw [jn17]; simp only [h362, h368, ↓reduceIte]
        rw [hv] at hQ
        refine Rn.aload_n dX12_works_407 rfl ?_
        refine Rn.getR dX12_works_408 fX12_123 rfl (rc149 hR) (show M.2.2 149 53 = some 185 from (rpt53 hR)) ?_
        refine Rn.aload_n dX12_works_411 rfl ?_
        refine Rn.getI dX12_works_412 fX12_354 rfl (rc149 hR) ?_
        refine Rn.iconstv (v := 1) dX12_works_415 ic_1 ?_
        refine Rn.isub dX12_works_416 ?_
        refine Rn.topI (y := nI m) (nI_subk m 1) ?_
        refine Rn.lload dX12_works_417 rfl ?_
        refine Rn.lastN (k0 := m) dX12_works_419 (rc185 hR) (by omega) (by decide) ?_
        refine Rn.lload dX12_works_420 rfl ?_
        refine Rn.ldc2 dX12_works_422 kX12_365 ?_
        refine Rn.lcmp dX12_works_425 ?_
        refine Rn.if_gt dX12_works_426 (fun b1 => ?_) (fun b1 => ?_)
        · rw [lg_cmp_gt] at b1
          refine Rn.iconstv (v := 0) dX12_works_442 ic_0 ?_
          exact Rn.iret (ty := .boolean) dX12_works_443 rfl rfl (hQ.1 (Or.inl b1) _ rfl (fun k h => sI_ne h) (fun j h => by show (sL (sI M 149 (upd (M.1 149) 54 (nI (m + 1)))) 185 (vp_updL (M.2.1 185) m 0)).1 149 j = _; rw [show (sL (sI M 149 (upd (M.1 149) 54 (nI (m + 1)))) 185 (vp_updL (M.2.1 185) m 0)).1 149 = upd (M.1 149) 54 (nI (m + 1)) from rfl, pk_un h]) (fun k h => by show (if k = 185 then _ else M.2.1 k) = _; rw [if_neg h]))
        · rw [lg_cmp_gt] at b1
          refine Rn.lload dX12_works_429 rfl ?_
          refine Rn.ldc2 dX12_works_431 kX12_367 ?_
          refine Rn.lcmp dX12_works_434 ?_
          refine Rn.if_lt dX12_works_435 (fun b2 => ?_) (fun b2 => ?_)
          · rw [lg_cmp_lt] at b2
            refine Rn.iconstv (v := 0) dX12_works_442 ic_0 ?_
            exact Rn.iret (ty := .boolean) dX12_works_443 rfl rfl (hQ.1 (Or.inr b2) _ rfl (fun k h => sI_ne h) (fun j h => by show (sL (sI M 149 (upd (M.1 149) 54 (nI (m + 1)))) 185 (vp_updL (M.2.1 185) m 0)).1 149 j = _; rw [show (sL (sI M 149 (upd (M.1 149) 54 (nI (m + 1)))) 185 (vp_updL (M.2.1 185) m 0)).1 149 = upd (M.1 149) 54 (nI (m + 1)) from rfl, pk_un h]) (fun k h => by show (if k = 185 then _ else M.2.1 k) = _; rw [if_neg h]))
          · rw [lg_cmp_lt] at b2
            refine Rn.iconstv (v := 1) dX12_works_438 ic_1 ?_
            refine Rn.goto dX12_works_439 ?_
            exact Rn.iret (ty := .boolean) dX12_works_443 rfl rfl (hQ.2 (fun h => h.elim b1 b2) _ rfl (fun k h => sI_ne h) (fun j h => by show (sL (sI M 149 (upd (M.1 149) 54 (nI (m + 1)))) 185 (vp_updL (M.2.1 185) m 0)).1 149 j = _; rw [show (sL (sI M 149 (upd (M.1 149) 54 (nI (m + 1)))) 185 (vp_updL (M.2.1 185) m 0)).1 149 = upd (M.1 149) 54 (nI (m + 1)) from rfl, pk_un h]) (fun k h => by show (if k = 185 then _ else M.2.1 k) = _; rw [if_neg h]) rfl (by show rp (vp_updL (M.2.1 185) m 0) _; rw [← hm]; exact rp_push hrr))
      · rw [lg_cmp_eq] at h368
        refine Rn.iconstv (v := 1) dX12_works_371 ic_1 ?_
        refine Rn.goto dX12_works_372 ?_
        refine Rn.callS1 dX12_works_376 vX12_357 (tX12_is) (by decide) ⟨(Nat.le_of_ble_eq_true rfl), (Nat.le_of_ble_eq_true rfl), (Nat.le_of_ble_eq_true rfl)⟩ (fun h => by cases h) (fun v1 ly1 M1 ⟨q1, q2, q3⟩ => ?_)
        rw [q1, q2, q3]
        refine Rn.topL (y := 1) (isL_1) ?_
        refine Rn.lstore (lv' := [some (.ref 149), some (.int 261), some (.long y), none, some (.long x), none, some (.long 1), none]) dX12_works_379 (by decide) rfl ?_
        refine Rn.goto dX12_works_381 ?_
        have hv : jnL 17 x y = 1 := by rw [jn17]; simp only [h362, h368, ↓reduceIte]
        rw [hv] at hQ
        refine Rn.aload_n dX12_works_407 rfl ?_
        refine Rn.getR dX12_works_408 fX12_123 rfl (rc149 hR) (show M.2.2 149 53 = some 185 from (rpt53 hR)) ?_
        refine Rn.aload_n dX12_works_411 rfl ?_
        refine Rn.getI dX12_works_412 fX12_354 rfl (rc149 hR) ?_
        refine Rn.iconstv (v := 1) dX12_works_415 ic_1 ?_
        refine Rn.isub dX12_works_416 ?_
        refine Rn.topI (y := nI m) (nI_subk m 1) ?_
        refine Rn.lload dX12_works_417 rfl ?_
        refine Rn.lastN (k0 := m) dX12_works_419 (rc185 hR) (by omega) (by decide) ?_
        refine Rn.lload dX12_works_420 rfl ?_
        refine Rn.ldc2 dX12_works_422 kX12_365 ?_
        refine Rn.lcmp dX12_works_425 ?_
        refine Rn.if_gt dX12_works_426 (fun b1 => ?_) (fun b1 => ?_)
        · rw [lg_cmp_gt] at b1
          refine Rn.iconstv (v := 0) dX12_works_442 ic_0 ?_
          exact Rn.iret (ty := .boolean) dX12_works_443 rfl rfl (hQ.1 (Or.inl b1) _ rfl (fun k h => sI_ne h) (fun j h => by show (sL (sI M 149 (upd (M.1 149) 54 (nI (m + 1)))) 185 (vp_updL (M.2.1 185) m 1)).1 149 j = _; rw [show (sL (sI M 149 (upd (M.1 149) 54 (nI (m + 1)))) 185 (vp_updL (M.2.1 185) m 1)).1 149 = upd (M.1 149) 54 (nI (m + 1)) from rfl, pk_un h]) (fun k h => by show (if k = 185 then _ else M.2.1 k) = _; rw [if_neg h]))
        · rw [lg_cmp_gt] at b1
          refine Rn.lload dX12_works_429 rfl ?_
          refine Rn.ldc2 dX12_works_431 kX12_367 ?_
          refine Rn.lcmp dX12_works_434 ?_
          refine Rn.if_lt dX12_works_435 (fun b2 => ?_) (fun b2 => ?_)
          · rw [lg_cmp_lt] at b2
            refine Rn.iconstv (v := 0) dX12_works_442 ic_0 ?_
            exact Rn.iret (ty := .boolean) dX12_works_443 rfl rfl (hQ.1 (Or.inr b2) _ rfl (fun k h => sI_ne h) (fun j h => by show (sL (sI M 149 (upd (M.1 149) 54 (nI (m + 1)))) 185 (vp_updL (M.2.1 185) m 1)).1 149 j = _; rw [show (sL (sI M 149 (upd (M.1 149) 54 (nI (m + 1)))) 185 (vp_updL (M.2.1 185) m 1)).1 149 = upd (M.1 149) 54 (nI (m + 1)) from rfl, pk_un h]) (fun k h => by show (if k = 185 then _ else M.2.1 k) = _; rw [if_neg h]))
          · rw [lg_cmp_lt] at b2
            refine Rn.iconstv (v := 1) dX12_works_438 ic_1 ?_
            refine Rn.goto dX12_works_439 ?_
            exact Rn.iret (ty := .boolean) dX12_works_443 rfl rfl (hQ.2 (fun h => h.elim b1 b2) _ rfl (fun k h => sI_ne h) (fun j h => by show (sL (sI M 149 (upd (M.1 149) 54 (nI (m + 1)))) 185 (vp_updL (M.2.1 185) m 1)).1 149 j = _; rw [show (sL (sI M 149 (upd (M.1 149) 54 (nI (m + 1)))) 185 (vp_updL (M.2.1 185) m 1)).1 149 = upd (M.1 149) 54 (nI (m + 1)) from rfl, pk_un h]) (fun k h => by show (if k = 185 then _ else M.2.1 k) = _; rw [if_neg h]) rfl (by show rp (vp_updL (M.2.1 185) m 1) _; rw [← hm]; exact rp_push hrr))
  · skip
    exact absurd h16 (by decide)
theorem tX12_works25 {G : Gx} {l : Launch} {ly : Ly} {M : Mm} {m : Nat} {x y : Int64} {r : List Int64} (hm : r.length = m) (hm62 : m ≤ 62) (h54 : M.1 149 54 = nI (m + 2)) (hrp : rp (M.2.1 185) (y :: x :: r)) (hR : RW ly M.2.2) {Q : Qt} (hQ : (jnB (jnL 25 x y) → ∀ K : Mm, K.2.2 = M.2.2 → (∀ k, k ≠ 149 → K.1 k = M.1 k) → (∀ j, j ≠ 54 → K.1 149 j = M.1 149 j) → (∀ k, k ≠ 185 → K.2.1 k = M.2.1 k) → Q (some (.int 0)) ly K) ∧ (¬ jnB (jnL 25 x y) → ∀ K : Mm, K.2.2 = M.2.2 → (∀ k, k ≠ 149 → K.1 k = M.1 k) → (∀ j, j ≠ 54 → K.1 149 j = M.1 149 j) → (∀ k, k ≠ 185 → K.2.1 k = M.2.1 k) → K.1 149 54 = nI (m + 1) → rp (K.2.1 185) (jnL 25 x y :: r) → Q (some (.int 1)) ly K)) : Mt G l mX12_works (2, 0, 0, false) [.ref 149, .int 60] ly M Q := by
  have hy : M.2.1 185 (m + 1) = y := by rw [← hm]; exact hrp.1
  have hx : M.2.1 185 m = x := by rw [← hm]; exact hrp.2.1
  have hrr : rp (M.2.1 185) r := hrp.2.2
  clear hrp
  refine Mt.of (lv := [some (.ref 149), some (.int 60), none, none, none, none, none, none]) rfl ?_
  refine Rn.aload_n dX12_works_0 rfl ?_
  refine Rn.getR dX12_works_1 fX12_123 rfl (rc149 hR) (show M.2.2 149 53 = some 185 from (rpt53 hR)) ?_
  refine Rn.aload_n dX12_works_4 rfl ?_
  refine Rn.getI dX12_works_5 fX12_354 rfl (rc149 hR) ?_
  refine Rn.topI (y := nI (m + 2)) (h54) ?_
  refine Rn.iconstv (v := 1) dX12_works_8 ic_1 ?_
  refine Rn.isub dX12_works_9 ?_
  refine Rn.topI (y := nI (m + 1)) (nI_subk (m + 1) 1) ?_
  refine Rn.laldN (k0 := (m + 1)) dX12_works_10 (rc185 hR) (by omega) (by decide) ?_
  refine Rn.topL (y := y) (hy) ?_
  refine Rn.lstore_n (lv' := [some (.ref 149), some (.int 60), some (.long y), none, none, none, none, none]) dX12_works_11 (by decide) rfl ?_
  refine Rn.iload_n dX12_works_12 rfl ?_
  refine Rn.sipushv (v := 260) dX12_works_13 sp_260 ?_
  refine Rn.icmp_ne dX12_works_16 (fun h16 => ?_) (fun h16 => ?_)
  · skip
    refine Rn.aload_n dX12_works_46 rfl ?_
    refine Rn.getR dX12_works_47 fX12_123 rfl (rc149 hR) (show M.2.2 149 53 = some 185 from (rpt53 hR)) ?_
    refine Rn.aload_n dX12_works_50 rfl ?_
    refine Rn.getI dX12_works_51 fX12_354 rfl (rc149 hR) ?_
    refine Rn.topI (y := nI (m + 2)) (h54) ?_
    refine Rn.iconstv (v := 2) dX12_works_54 ic_2 ?_
    refine Rn.isub dX12_works_55 ?_
    refine Rn.topI (y := nI m) (nI_subk m 2) ?_
    refine Rn.laldN (k0 := m) dX12_works_56 (rc185 hR) (by omega) (by decide) ?_
    refine Rn.topL (y := x) (hx) ?_
    refine Rn.lstore (lv' := [some (.ref 149), some (.int 60), some (.long y), none, some (.long x), none, none, none]) dX12_works_57 (by decide) rfl ?_
    refine Rn.aload_n dX12_works_59 rfl ?_
    refine Rn.dup dX12_works_60 rfl ?_
    refine Rn.getI dX12_works_61 fX12_354 rfl (rc149 hR) ?_
    refine Rn.topI (y := nI (m + 2)) (h54) ?_
    refine Rn.iconstv (v := 1) dX12_works_64 ic_1 ?_
    refine Rn.isub dX12_works_65 ?_
    refine Rn.topI (y := nI (m + 1)) (nI_subk (m + 1) 1) ?_
    refine Rn.putI dX12_works_66 fX12_354 rfl rfl rfl (rc149 hR) ?_
    refine Rn.iload_n dX12_works_69 rfl ?_
    refine Rn.lookup (off := 168) (tgt := 238) dX12_works_70 (by decide) (by decide) (by decide) ?_
    refine Rn.lload dX12_works_238 rfl ?_
    refine Rn.lload_n dX12_works_240 rfl ?_
    refine Rn.lcmp dX12_works_241 ?_
    refine Rn.if_ge dX12_works_242 (fun h242 => ?_) (fun h242 => ?_)
    · rw [lg_cmp_ge] at h242
      refine Rn.iconstv (v := 0) dX12_works_249 ic_0 ?_
      refine Rn.callS1 dX12_works_250 vX12_357 (tX12_is) (by decide) ⟨(Nat.le_of_ble_eq_true rfl), (Nat.le_of_ble_eq_true rfl), (Nat.le_of_ble_eq_true rfl)⟩ (fun h => by cases h) (fun v1 ly1 M1 ⟨q1, q2, q3⟩ => ?_)
      rw [q1, q2, q3]
      refine Rn.topL (y := 0) (isL_0) ?_
      refine Rn.lstore (lv' := [some (.ref 149), some (.int 60), some (.long y), none, some (.long x), none, some (.long 0), none]) dX12_works_253 (by decide) rfl ?_
      refine Rn.goto dX12_works_255 ?_
      have hv : jnL 25 x y = 0 := by rw [jn25]; simp only [h242, ↓reduceIte]
      rw [hv] at hQ
      refine Rn.aload_n dX12_works_407 rfl ?_
      refine Rn.getR dX12_works_408 fX12_123 rfl (rc149 hR) (show M.2.2 149 53 = some 185 from (rpt53 hR)) ?_
      refine Rn.aload_n dX12_works_411 rfl ?_
      refine Rn.getI dX12_works_412 fX12_354 rfl (rc149 hR) ?_
      refine Rn.iconstv (v := 1) dX12_works_415 ic_1 ?_
      refine Rn.isub dX12_works_416 ?_
      refine Rn.topI (y := nI m) (nI_subk m 1) ?_
      refine Rn.lload dX12_works_417 rfl ?_
      refine Rn.lastN (k0 := m) dX12_works_419 (rc185 hR) (by omega) (by decide) ?_
      refine Rn.lload dX12_works_420 rfl ?_
      refine Rn.ldc2 dX12_works_422 kX12_365 ?_
      refine Rn.lcmp dX12_works_425 ?_
      refine Rn.if_gt dX12_works_426 (fun b1 => ?_) (fun b1 => ?_)
      · rw [lg_cmp_gt] at b1
        refine Rn.iconstv (v := 0) dX12_works_442 ic_0 ?_
        exact Rn.iret (ty := .boolean) dX12_works_443 rfl rfl (hQ.1 (Or.inl b1) _ rfl (fun k h => sI_ne h) (fun j h => by show (sL (sI M 149 (upd (M.1 149) 54 (nI (m + 1)))) 185 (vp_updL (M.2.1 185) m 0)).1 149 j = _; rw [show (sL (sI M 149 (upd (M.1 149) 54 (nI (m + 1)))) 185 (vp_updL (M.2.1 185) m 0)).1 149 = upd (M.1 149) 54 (nI (m + 1)) from rfl, pk_un h]) (fun k h => by show (if k = 185 then _ else M.2.1 k) = _; rw [if_neg h]))
      · rw [lg_cmp_gt] at b1
        refine Rn.lload dX12_works_429 rfl ?_
        refine Rn.ldc2 dX12_works_431 kX12_367 ?_
        refine Rn.lcmp dX12_works_434 ?_
        refine Rn.if_lt dX12_works_435 (fun b2 => ?_) (fun b2 => ?_)
        · rw [lg_cmp_lt] at b2
          refine Rn.iconstv (v := 0) dX12_works_442 ic_0 ?_
          exact Rn.iret (ty := .boolean) dX12_works_443 rfl rfl (hQ.1 (Or.inr b2) _ rfl (fun k h => sI_ne h) (fun j h => by show (sL (sI M 149 (upd (M.1 149) 54 (nI (m + 1)))) 185 (vp_updL (M.2.1 185) m 0)).1 149 j = _; rw [show (sL (sI M 149 (upd (M.1 149) 54 (nI (m + 1)))) 185 (vp_updL (M.2.1 185) m 0)).1 149 = upd (M.1 149) 54 (nI (m + 1)) from rfl, pk_un h]) (fun k h => by show (if k = 185 then _ else M.2.1 k) = _; rw [if_neg h]))
        · rw [lg_cmp_lt] at b2
          refine Rn.iconstv (v := 1) dX12_works_438 ic_1 ?_
          refine Rn.goto dX12_works_439 ?_
          exact Rn.iret (ty := .boolean) dX12_works_443 rfl rfl (hQ.2 (fun h => h.elim b1 b2) _ rfl (fun k h => sI_ne h) (fun j h => by show (sL (sI M 149 (upd (M.1 149) 54 (nI (m + 1)))) 185 (vp_updL (M.2.1 185) m 0)).1 149 j = _; rw [show (sL (sI M 149 (upd (M.1 149) 54 (nI (m + 1)))) 185 (vp_updL (M.2.1 185) m 0)).1 149 = upd (M.1 149) 54 (nI (m + 1)) from rfl, pk_un h]) (fun k h => by show (if k = 185 then _ else M.2.1 k) = _; rw [if_neg h]) rfl (by show rp (vp_updL (M.2.1 185) m 0) _; rw [← hm]; exact rp_push hrr))
    · rw [lg_cmp_ge] at h242
      refine Rn.iconstv (v := 1) dX12_works_245 ic_1 ?_
      refine Rn.goto dX12_works_246 ?_
      refine Rn.callS1 dX12_works_250 vX12_357 (tX12_is) (by decide) ⟨(Nat.le_of_ble_eq_true rfl), (Nat.le_of_ble_eq_true rfl), (Nat.le_of_ble_eq_true rfl)⟩ (fun h => by cases h) (fun v1 ly1 M1 ⟨q1, q2, q3⟩ => ?_)
      rw [q1, q2, q3]
      refine Rn.topL (y := 1) (isL_1) ?_
      refine Rn.lstore (lv' := [some (.ref 149), some (.int 60), some (.long y), none, some (.long x), none, some (.long 1), none]) dX12_works_253 (by decide) rfl ?_
      refine Rn.goto dX12_works_255 ?_
      have hv : jnL 25 x y = 1 := by rw [jn25]; simp only [h242, ↓reduceIte]
      rw [hv] at hQ
      refine Rn.aload_n dX12_works_407 rfl ?_
      refine Rn.getR dX12_works_408 fX12_123 rfl (rc149 hR) (show M.2.2 149 53 = some 185 from (rpt53 hR)) ?_
      refine Rn.aload_n dX12_works_411 rfl ?_
      refine Rn.getI dX12_works_412 fX12_354 rfl (rc149 hR) ?_
      refine Rn.iconstv (v := 1) dX12_works_415 ic_1 ?_
      refine Rn.isub dX12_works_416 ?_
      refine Rn.topI (y := nI m) (nI_subk m 1) ?_
      refine Rn.lload dX12_works_417 rfl ?_
      refine Rn.lastN (k0 := m) dX12_works_419 (rc185 hR) (by omega) (by decide) ?_
      refine Rn.lload dX12_works_420 rfl ?_
      refine Rn.ldc2 dX12_works_422 kX12_365 ?_
      refine Rn.lcmp dX12_works_425 ?_
      refine Rn.if_gt dX12_works_426 (fun b1 => ?_) (fun b1 => ?_)
      · rw [lg_cmp_gt] at b1
        refine Rn.iconstv (v := 0) dX12_works_442 ic_0 ?_
        exact Rn.iret (ty := .boolean) dX12_works_443 rfl rfl (hQ.1 (Or.inl b1) _ rfl (fun k h => sI_ne h) (fun j h => by show (sL (sI M 149 (upd (M.1 149) 54 (nI (m + 1)))) 185 (vp_updL (M.2.1 185) m 1)).1 149 j = _; rw [show (sL (sI M 149 (upd (M.1 149) 54 (nI (m + 1)))) 185 (vp_updL (M.2.1 185) m 1)).1 149 = upd (M.1 149) 54 (nI (m + 1)) from rfl, pk_un h]) (fun k h => by show (if k = 185 then _ else M.2.1 k) = _; rw [if_neg h]))
      · rw [lg_cmp_gt] at b1
        refine Rn.lload dX12_works_429 rfl ?_
        refine Rn.ldc2 dX12_works_431 kX12_367 ?_
        refine Rn.lcmp dX12_works_434 ?_
        refine Rn.if_lt dX12_works_435 (fun b2 => ?_) (fun b2 => ?_)
        · rw [lg_cmp_lt] at b2
          refine Rn.iconstv (v := 0) dX12_works_442 ic_0 ?_
          exact Rn.iret (ty := .boolean) dX12_works_443 rfl rfl (hQ.1 (Or.inr b2) _ rfl (fun k h => sI_ne h) (fun j h => by show (sL (sI M 149 (upd (M.1 149) 54 (nI (m + 1)))) 185 (vp_updL (M.2.1 185) m 1)).1 149 j = _; rw [show (sL (sI M 149 (upd (M.1 149) 54 (nI (m + 1)))) 185 (vp_updL (M.2.1 185) m 1)).1 149 = upd (M.1 149) 54 (nI (m + 1)) from rfl, pk_un h]) (fun k h => by show (if k = 185 then _ else M.2.1 k) = _; rw [if_neg h]))
        · rw [lg_cmp_lt] at b2
          refine Rn.iconstv (v := 1) dX12_works_438 ic_1 ?_
          refine Rn.goto dX12_works_439 ?_
          exact Rn.iret (ty := .boolean) dX12_works_443 rfl rfl (hQ.2 (fun h => h.elim b1 b2) _ rfl (fun k h => sI_ne h) (fun j h => by show (sL (sI M 149 (upd (M.1 149) 54 (nI (m + 1)))) 185 (vp_updL (M.2.1 185) m 1)).1 149 j = _; rw [show (sL (sI M 149 (upd (M.1 149) 54 (nI (m + 1)))) 185 (vp_updL (M.2.1 185) m 1)).1 149 = upd (M.1 149) 54 (nI (m + 1)) from rfl, pk_un h]) (fun k h => by show (if k = 185 then _ else M.2.1 k) = _; rw [if_neg h]) rfl (by show rp (vp_updL (M.2.1 185) m 1) _; rw [← hm]; exact rp_push hrr))
  · skip
    exact absurd h16 (by decide)
theorem tX12_works26 {G : Gx} {l : Launch} {ly : Ly} {M : Mm} {m : Nat} {x y : Int64} {r : List Int64} (hm : r.length = m) (hm62 : m ≤ 62) (h54 : M.1 149 54 = nI (m + 2)) (hrp : rp (M.2.1 185) (y :: x :: r)) (hR : RW ly M.2.2) {Q : Qt} (hQ : (jnB (jnL 26 x y) → ∀ K : Mm, K.2.2 = M.2.2 → (∀ k, k ≠ 149 → K.1 k = M.1 k) → (∀ j, j ≠ 54 → K.1 149 j = M.1 149 j) → (∀ k, k ≠ 185 → K.2.1 k = M.2.1 k) → Q (some (.int 0)) ly K) ∧ (¬ jnB (jnL 26 x y) → ∀ K : Mm, K.2.2 = M.2.2 → (∀ k, k ≠ 149 → K.1 k = M.1 k) → (∀ j, j ≠ 54 → K.1 149 j = M.1 149 j) → (∀ k, k ≠ 185 → K.2.1 k = M.2.1 k) → K.1 149 54 = nI (m + 1) → rp (K.2.1 185) (jnL 26 x y :: r) → Q (some (.int 1)) ly K)) : Mt G l mX12_works (2, 0, 0, false) [.ref 149, .int 256] ly M Q := by
  have hy : M.2.1 185 (m + 1) = y := by rw [← hm]; exact hrp.1
  have hx : M.2.1 185 m = x := by rw [← hm]; exact hrp.2.1
  have hrr : rp (M.2.1 185) r := hrp.2.2
  clear hrp
  refine Mt.of (lv := [some (.ref 149), some (.int 256), none, none, none, none, none, none]) rfl ?_
  refine Rn.aload_n dX12_works_0 rfl ?_
  refine Rn.getR dX12_works_1 fX12_123 rfl (rc149 hR) (show M.2.2 149 53 = some 185 from (rpt53 hR)) ?_
  refine Rn.aload_n dX12_works_4 rfl ?_
  refine Rn.getI dX12_works_5 fX12_354 rfl (rc149 hR) ?_
  refine Rn.topI (y := nI (m + 2)) (h54) ?_
  refine Rn.iconstv (v := 1) dX12_works_8 ic_1 ?_
  refine Rn.isub dX12_works_9 ?_
  refine Rn.topI (y := nI (m + 1)) (nI_subk (m + 1) 1) ?_
  refine Rn.laldN (k0 := (m + 1)) dX12_works_10 (rc185 hR) (by omega) (by decide) ?_
  refine Rn.topL (y := y) (hy) ?_
  refine Rn.lstore_n (lv' := [some (.ref 149), some (.int 256), some (.long y), none, none, none, none, none]) dX12_works_11 (by decide) rfl ?_
  refine Rn.iload_n dX12_works_12 rfl ?_
  refine Rn.sipushv (v := 260) dX12_works_13 sp_260 ?_
  refine Rn.icmp_ne dX12_works_16 (fun h16 => ?_) (fun h16 => ?_)
  · skip
    refine Rn.aload_n dX12_works_46 rfl ?_
    refine Rn.getR dX12_works_47 fX12_123 rfl (rc149 hR) (show M.2.2 149 53 = some 185 from (rpt53 hR)) ?_
    refine Rn.aload_n dX12_works_50 rfl ?_
    refine Rn.getI dX12_works_51 fX12_354 rfl (rc149 hR) ?_
    refine Rn.topI (y := nI (m + 2)) (h54) ?_
    refine Rn.iconstv (v := 2) dX12_works_54 ic_2 ?_
    refine Rn.isub dX12_works_55 ?_
    refine Rn.topI (y := nI m) (nI_subk m 2) ?_
    refine Rn.laldN (k0 := m) dX12_works_56 (rc185 hR) (by omega) (by decide) ?_
    refine Rn.topL (y := x) (hx) ?_
    refine Rn.lstore (lv' := [some (.ref 149), some (.int 256), some (.long y), none, some (.long x), none, none, none]) dX12_works_57 (by decide) rfl ?_
    refine Rn.aload_n dX12_works_59 rfl ?_
    refine Rn.dup dX12_works_60 rfl ?_
    refine Rn.getI dX12_works_61 fX12_354 rfl (rc149 hR) ?_
    refine Rn.topI (y := nI (m + 2)) (h54) ?_
    refine Rn.iconstv (v := 1) dX12_works_64 ic_1 ?_
    refine Rn.isub dX12_works_65 ?_
    refine Rn.topI (y := nI (m + 1)) (nI_subk (m + 1) 1) ?_
    refine Rn.putI dX12_works_66 fX12_354 rfl rfl rfl (rc149 hR) ?_
    refine Rn.iload_n dX12_works_69 rfl ?_
    refine Rn.lookup (off := 228) (tgt := 298) dX12_works_70 (by decide) (by decide) (by decide) ?_
    refine Rn.lload dX12_works_298 rfl ?_
    refine Rn.lload_n dX12_works_300 rfl ?_
    refine Rn.lcmp dX12_works_301 ?_
    refine Rn.if_gt dX12_works_302 (fun h302 => ?_) (fun h302 => ?_)
    · rw [lg_cmp_gt] at h302
      refine Rn.iconstv (v := 0) dX12_works_309 ic_0 ?_
      refine Rn.callS1 dX12_works_310 vX12_357 (tX12_is) (by decide) ⟨(Nat.le_of_ble_eq_true rfl), (Nat.le_of_ble_eq_true rfl), (Nat.le_of_ble_eq_true rfl)⟩ (fun h => by cases h) (fun v1 ly1 M1 ⟨q1, q2, q3⟩ => ?_)
      rw [q1, q2, q3]
      refine Rn.topL (y := 0) (isL_0) ?_
      refine Rn.lstore (lv' := [some (.ref 149), some (.int 256), some (.long y), none, some (.long x), none, some (.long 0), none]) dX12_works_313 (by decide) rfl ?_
      refine Rn.goto dX12_works_315 ?_
      have hv : jnL 26 x y = 0 := by rw [jn26]; simp only [h302, ↓reduceIte]
      rw [hv] at hQ
      refine Rn.aload_n dX12_works_407 rfl ?_
      refine Rn.getR dX12_works_408 fX12_123 rfl (rc149 hR) (show M.2.2 149 53 = some 185 from (rpt53 hR)) ?_
      refine Rn.aload_n dX12_works_411 rfl ?_
      refine Rn.getI dX12_works_412 fX12_354 rfl (rc149 hR) ?_
      refine Rn.iconstv (v := 1) dX12_works_415 ic_1 ?_
      refine Rn.isub dX12_works_416 ?_
      refine Rn.topI (y := nI m) (nI_subk m 1) ?_
      refine Rn.lload dX12_works_417 rfl ?_
      refine Rn.lastN (k0 := m) dX12_works_419 (rc185 hR) (by omega) (by decide) ?_
      refine Rn.lload dX12_works_420 rfl ?_
      refine Rn.ldc2 dX12_works_422 kX12_365 ?_
      refine Rn.lcmp dX12_works_425 ?_
      refine Rn.if_gt dX12_works_426 (fun b1 => ?_) (fun b1 => ?_)
      · rw [lg_cmp_gt] at b1
        refine Rn.iconstv (v := 0) dX12_works_442 ic_0 ?_
        exact Rn.iret (ty := .boolean) dX12_works_443 rfl rfl (hQ.1 (Or.inl b1) _ rfl (fun k h => sI_ne h) (fun j h => by show (sL (sI M 149 (upd (M.1 149) 54 (nI (m + 1)))) 185 (vp_updL (M.2.1 185) m 0)).1 149 j = _; rw [show (sL (sI M 149 (upd (M.1 149) 54 (nI (m + 1)))) 185 (vp_updL (M.2.1 185) m 0)).1 149 = upd (M.1 149) 54 (nI (m + 1)) from rfl, pk_un h]) (fun k h => by show (if k = 185 then _ else M.2.1 k) = _; rw [if_neg h]))
      · rw [lg_cmp_gt] at b1
        refine Rn.lload dX12_works_429 rfl ?_
        refine Rn.ldc2 dX12_works_431 kX12_367 ?_
        refine Rn.lcmp dX12_works_434 ?_
        refine Rn.if_lt dX12_works_435 (fun b2 => ?_) (fun b2 => ?_)
        · rw [lg_cmp_lt] at b2
          refine Rn.iconstv (v := 0) dX12_works_442 ic_0 ?_
          exact Rn.iret (ty := .boolean) dX12_works_443 rfl rfl (hQ.1 (Or.inr b2) _ rfl (fun k h => sI_ne h) (fun j h => by show (sL (sI M 149 (upd (M.1 149) 54 (nI (m + 1)))) 185 (vp_updL (M.2.1 185) m 0)).1 149 j = _; rw [show (sL (sI M 149 (upd (M.1 149) 54 (nI (m + 1)))) 185 (vp_updL (M.2.1 185) m 0)).1 149 = upd (M.1 149) 54 (nI (m + 1)) from rfl, pk_un h]) (fun k h => by show (if k = 185 then _ else M.2.1 k) = _; rw [if_neg h]))
        · rw [lg_cmp_lt] at b2
          refine Rn.iconstv (v := 1) dX12_works_438 ic_1 ?_
          refine Rn.goto dX12_works_439 ?_
          exact Rn.iret (ty := .boolean) dX12_works_443 rfl rfl (hQ.2 (fun h => h.elim b1 b2) _ rfl (fun k h => sI_ne h) (fun j h => by show (sL (sI M 149 (upd (M.1 149) 54 (nI (m + 1)))) 185 (vp_updL (M.2.1 185) m 0)).1 149 j = _; rw [show (sL (sI M 149 (upd (M.1 149) 54 (nI (m + 1)))) 185 (vp_updL (M.2.1 185) m 0)).1 149 = upd (M.1 149) 54 (nI (m + 1)) from rfl, pk_un h]) (fun k h => by show (if k = 185 then _ else M.2.1 k) = _; rw [if_neg h]) rfl (by show rp (vp_updL (M.2.1 185) m 0) _; rw [← hm]; exact rp_push hrr))
    · rw [lg_cmp_gt] at h302
      refine Rn.iconstv (v := 1) dX12_works_305 ic_1 ?_
      refine Rn.goto dX12_works_306 ?_
      refine Rn.callS1 dX12_works_310 vX12_357 (tX12_is) (by decide) ⟨(Nat.le_of_ble_eq_true rfl), (Nat.le_of_ble_eq_true rfl), (Nat.le_of_ble_eq_true rfl)⟩ (fun h => by cases h) (fun v1 ly1 M1 ⟨q1, q2, q3⟩ => ?_)
      rw [q1, q2, q3]
      refine Rn.topL (y := 1) (isL_1) ?_
      refine Rn.lstore (lv' := [some (.ref 149), some (.int 256), some (.long y), none, some (.long x), none, some (.long 1), none]) dX12_works_313 (by decide) rfl ?_
      refine Rn.goto dX12_works_315 ?_
      have hv : jnL 26 x y = 1 := by rw [jn26]; simp only [h302, ↓reduceIte]
      rw [hv] at hQ
      refine Rn.aload_n dX12_works_407 rfl ?_
      refine Rn.getR dX12_works_408 fX12_123 rfl (rc149 hR) (show M.2.2 149 53 = some 185 from (rpt53 hR)) ?_
      refine Rn.aload_n dX12_works_411 rfl ?_
      refine Rn.getI dX12_works_412 fX12_354 rfl (rc149 hR) ?_
      refine Rn.iconstv (v := 1) dX12_works_415 ic_1 ?_
      refine Rn.isub dX12_works_416 ?_
      refine Rn.topI (y := nI m) (nI_subk m 1) ?_
      refine Rn.lload dX12_works_417 rfl ?_
      refine Rn.lastN (k0 := m) dX12_works_419 (rc185 hR) (by omega) (by decide) ?_
      refine Rn.lload dX12_works_420 rfl ?_
      refine Rn.ldc2 dX12_works_422 kX12_365 ?_
      refine Rn.lcmp dX12_works_425 ?_
      refine Rn.if_gt dX12_works_426 (fun b1 => ?_) (fun b1 => ?_)
      · rw [lg_cmp_gt] at b1
        refine Rn.iconstv (v := 0) dX12_works_442 ic_0 ?_
        exact Rn.iret (ty := .boolean) dX12_works_443 rfl rfl (hQ.1 (Or.inl b1) _ rfl (fun k h => sI_ne h) (fun j h => by show (sL (sI M 149 (upd (M.1 149) 54 (nI (m + 1)))) 185 (vp_updL (M.2.1 185) m 1)).1 149 j = _; rw [show (sL (sI M 149 (upd (M.1 149) 54 (nI (m + 1)))) 185 (vp_updL (M.2.1 185) m 1)).1 149 = upd (M.1 149) 54 (nI (m + 1)) from rfl, pk_un h]) (fun k h => by show (if k = 185 then _ else M.2.1 k) = _; rw [if_neg h]))
      · rw [lg_cmp_gt] at b1
        refine Rn.lload dX12_works_429 rfl ?_
        refine Rn.ldc2 dX12_works_431 kX12_367 ?_
        refine Rn.lcmp dX12_works_434 ?_
        refine Rn.if_lt dX12_works_435 (fun b2 => ?_) (fun b2 => ?_)
        · rw [lg_cmp_lt] at b2
          refine Rn.iconstv (v := 0) dX12_works_442 ic_0 ?_
          exact Rn.iret (ty := .boolean) dX12_works_443 rfl rfl (hQ.1 (Or.inr b2) _ rfl (fun k h => sI_ne h) (fun j h => by show (sL (sI M 149 (upd (M.1 149) 54 (nI (m + 1)))) 185 (vp_updL (M.2.1 185) m 1)).1 149 j = _; rw [show (sL (sI M 149 (upd (M.1 149) 54 (nI (m + 1)))) 185 (vp_updL (M.2.1 185) m 1)).1 149 = upd (M.1 149) 54 (nI (m + 1)) from rfl, pk_un h]) (fun k h => by show (if k = 185 then _ else M.2.1 k) = _; rw [if_neg h]))
        · rw [lg_cmp_lt] at b2
          refine Rn.iconstv (v := 1) dX12_works_438 ic_1 ?_
          refine Rn.goto dX12_works_439 ?_
          exact Rn.iret (ty := .boolean) dX12_works_443 rfl rfl (hQ.2 (fun h => h.elim b1 b2) _ rfl (fun k h => sI_ne h) (fun j h => by show (sL (sI M 149 (upd (M.1 149) 54 (nI (m + 1)))) 185 (vp_updL (M.2.1 185) m 1)).1 149 j = _; rw [show (sL (sI M 149 (upd (M.1 149) 54 (nI (m + 1)))) 185 (vp_updL (M.2.1 185) m 1)).1 149 = upd (M.1 149) 54 (nI (m + 1)) from rfl, pk_un h]) (fun k h => by show (if k = 185 then _ else M.2.1 k) = _; rw [if_neg h]) rfl (by show rp (vp_updL (M.2.1 185) m 1) _; rw [← hm]; exact rp_push hrr))
  · skip
    exact absurd h16 (by decide)
theorem tX12_works27 {G : Gx} {l : Launch} {ly : Ly} {M : Mm} {m : Nat} {x y : Int64} {r : List Int64} (hm : r.length = m) (hm62 : m ≤ 62) (h54 : M.1 149 54 = nI (m + 2)) (hrp : rp (M.2.1 185) (y :: x :: r)) (hR : RW ly M.2.2) {Q : Qt} (hQ : (jnB (jnL 27 x y) → ∀ K : Mm, K.2.2 = M.2.2 → (∀ k, k ≠ 149 → K.1 k = M.1 k) → (∀ j, j ≠ 54 → K.1 149 j = M.1 149 j) → (∀ k, k ≠ 185 → K.2.1 k = M.2.1 k) → Q (some (.int 0)) ly K) ∧ (¬ jnB (jnL 27 x y) → ∀ K : Mm, K.2.2 = M.2.2 → (∀ k, k ≠ 149 → K.1 k = M.1 k) → (∀ j, j ≠ 54 → K.1 149 j = M.1 149 j) → (∀ k, k ≠ 185 → K.2.1 k = M.2.1 k) → K.1 149 54 = nI (m + 1) → rp (K.2.1 185) (jnL 27 x y :: r) → Q (some (.int 1)) ly K)) : Mt G l mX12_works (2, 0, 0, false) [.ref 149, .int 61] ly M Q := by
  have hy : M.2.1 185 (m + 1) = y := by rw [← hm]; exact hrp.1
  have hx : M.2.1 185 m = x := by rw [← hm]; exact hrp.2.1
  have hrr : rp (M.2.1 185) r := hrp.2.2
  clear hrp
  refine Mt.of (lv := [some (.ref 149), some (.int 61), none, none, none, none, none, none]) rfl ?_
  refine Rn.aload_n dX12_works_0 rfl ?_
  refine Rn.getR dX12_works_1 fX12_123 rfl (rc149 hR) (show M.2.2 149 53 = some 185 from (rpt53 hR)) ?_
  refine Rn.aload_n dX12_works_4 rfl ?_
  refine Rn.getI dX12_works_5 fX12_354 rfl (rc149 hR) ?_
  refine Rn.topI (y := nI (m + 2)) (h54) ?_
  refine Rn.iconstv (v := 1) dX12_works_8 ic_1 ?_
  refine Rn.isub dX12_works_9 ?_
  refine Rn.topI (y := nI (m + 1)) (nI_subk (m + 1) 1) ?_
  refine Rn.laldN (k0 := (m + 1)) dX12_works_10 (rc185 hR) (by omega) (by decide) ?_
  refine Rn.topL (y := y) (hy) ?_
  refine Rn.lstore_n (lv' := [some (.ref 149), some (.int 61), some (.long y), none, none, none, none, none]) dX12_works_11 (by decide) rfl ?_
  refine Rn.iload_n dX12_works_12 rfl ?_
  refine Rn.sipushv (v := 260) dX12_works_13 sp_260 ?_
  refine Rn.icmp_ne dX12_works_16 (fun h16 => ?_) (fun h16 => ?_)
  · skip
    refine Rn.aload_n dX12_works_46 rfl ?_
    refine Rn.getR dX12_works_47 fX12_123 rfl (rc149 hR) (show M.2.2 149 53 = some 185 from (rpt53 hR)) ?_
    refine Rn.aload_n dX12_works_50 rfl ?_
    refine Rn.getI dX12_works_51 fX12_354 rfl (rc149 hR) ?_
    refine Rn.topI (y := nI (m + 2)) (h54) ?_
    refine Rn.iconstv (v := 2) dX12_works_54 ic_2 ?_
    refine Rn.isub dX12_works_55 ?_
    refine Rn.topI (y := nI m) (nI_subk m 2) ?_
    refine Rn.laldN (k0 := m) dX12_works_56 (rc185 hR) (by omega) (by decide) ?_
    refine Rn.topL (y := x) (hx) ?_
    refine Rn.lstore (lv' := [some (.ref 149), some (.int 61), some (.long y), none, some (.long x), none, none, none]) dX12_works_57 (by decide) rfl ?_
    refine Rn.aload_n dX12_works_59 rfl ?_
    refine Rn.dup dX12_works_60 rfl ?_
    refine Rn.getI dX12_works_61 fX12_354 rfl (rc149 hR) ?_
    refine Rn.topI (y := nI (m + 2)) (h54) ?_
    refine Rn.iconstv (v := 1) dX12_works_64 ic_1 ?_
    refine Rn.isub dX12_works_65 ?_
    refine Rn.topI (y := nI (m + 1)) (nI_subk (m + 1) 1) ?_
    refine Rn.putI dX12_works_66 fX12_354 rfl rfl rfl (rc149 hR) ?_
    refine Rn.iload_n dX12_works_69 rfl ?_
    refine Rn.lookup (off := 208) (tgt := 278) dX12_works_70 (by decide) (by decide) (by decide) ?_
    refine Rn.lload dX12_works_278 rfl ?_
    refine Rn.lload_n dX12_works_280 rfl ?_
    refine Rn.lcmp dX12_works_281 ?_
    refine Rn.if_ne dX12_works_282 (fun h282 => ?_) (fun h282 => ?_)
    · rw [lg_cmp_eq] at h282
      refine Rn.iconstv (v := 0) dX12_works_289 ic_0 ?_
      refine Rn.callS1 dX12_works_290 vX12_357 (tX12_is) (by decide) ⟨(Nat.le_of_ble_eq_true rfl), (Nat.le_of_ble_eq_true rfl), (Nat.le_of_ble_eq_true rfl)⟩ (fun h => by cases h) (fun v1 ly1 M1 ⟨q1, q2, q3⟩ => ?_)
      rw [q1, q2, q3]
      refine Rn.topL (y := 0) (isL_0) ?_
      refine Rn.lstore (lv' := [some (.ref 149), some (.int 61), some (.long y), none, some (.long x), none, some (.long 0), none]) dX12_works_293 (by decide) rfl ?_
      refine Rn.goto dX12_works_295 ?_
      have hv : jnL 27 x y = 0 := by rw [jn27]; simp only [h282, ↓reduceIte]
      rw [hv] at hQ
      refine Rn.aload_n dX12_works_407 rfl ?_
      refine Rn.getR dX12_works_408 fX12_123 rfl (rc149 hR) (show M.2.2 149 53 = some 185 from (rpt53 hR)) ?_
      refine Rn.aload_n dX12_works_411 rfl ?_
      refine Rn.getI dX12_works_412 fX12_354 rfl (rc149 hR) ?_
      refine Rn.iconstv (v := 1) dX12_works_415 ic_1 ?_
      refine Rn.isub dX12_works_416 ?_
      refine Rn.topI (y := nI m) (nI_subk m 1) ?_
      refine Rn.lload dX12_works_417 rfl ?_
      refine Rn.lastN (k0 := m) dX12_works_419 (rc185 hR) (by omega) (by decide) ?_
      refine Rn.lload dX12_works_420 rfl ?_
      refine Rn.ldc2 dX12_works_422 kX12_365 ?_
      refine Rn.lcmp dX12_works_425 ?_
      refine Rn.if_gt dX12_works_426 (fun b1 => ?_) (fun b1 => ?_)
      · rw [lg_cmp_gt] at b1
        refine Rn.iconstv (v := 0) dX12_works_442 ic_0 ?_
        exact Rn.iret (ty := .boolean) dX12_works_443 rfl rfl (hQ.1 (Or.inl b1) _ rfl (fun k h => sI_ne h) (fun j h => by show (sL (sI M 149 (upd (M.1 149) 54 (nI (m + 1)))) 185 (vp_updL (M.2.1 185) m 0)).1 149 j = _; rw [show (sL (sI M 149 (upd (M.1 149) 54 (nI (m + 1)))) 185 (vp_updL (M.2.1 185) m 0)).1 149 = upd (M.1 149) 54 (nI (m + 1)) from rfl, pk_un h]) (fun k h => by show (if k = 185 then _ else M.2.1 k) = _; rw [if_neg h]))
      · rw [lg_cmp_gt] at b1
        refine Rn.lload dX12_works_429 rfl ?_
        refine Rn.ldc2 dX12_works_431 kX12_367 ?_
        refine Rn.lcmp dX12_works_434 ?_
        refine Rn.if_lt dX12_works_435 (fun b2 => ?_) (fun b2 => ?_)
        · rw [lg_cmp_lt] at b2
          refine Rn.iconstv (v := 0) dX12_works_442 ic_0 ?_
          exact Rn.iret (ty := .boolean) dX12_works_443 rfl rfl (hQ.1 (Or.inr b2) _ rfl (fun k h => sI_ne h) (fun j h => by show (sL (sI M 149 (upd (M.1 149) 54 (nI (m + 1)))) 185 (vp_updL (M.2.1 185) m 0)).1 149 j = _; rw [show (sL (sI M 149 (upd (M.1 149) 54 (nI (m + 1)))) 185 (vp_updL (M.2.1 185) m 0)).1 149 = upd (M.1 149) 54 (nI (m + 1)) from rfl, pk_un h]) (fun k h => by show (if k = 185 then _ else M.2.1 k) = _; rw [if_neg h]))
        · rw [lg_cmp_lt] at b2
          refine Rn.iconstv (v := 1) dX12_works_438 ic_1 ?_
          refine Rn.goto dX12_works_439 ?_
          exact Rn.iret (ty := .boolean) dX12_works_443 rfl rfl (hQ.2 (fun h => h.elim b1 b2) _ rfl (fun k h => sI_ne h) (fun j h => by show (sL (sI M 149 (upd (M.1 149) 54 (nI (m + 1)))) 185 (vp_updL (M.2.1 185) m 0)).1 149 j = _; rw [show (sL (sI M 149 (upd (M.1 149) 54 (nI (m + 1)))) 185 (vp_updL (M.2.1 185) m 0)).1 149 = upd (M.1 149) 54 (nI (m + 1)) from rfl, pk_un h]) (fun k h => by show (if k = 185 then _ else M.2.1 k) = _; rw [if_neg h]) rfl (by show rp (vp_updL (M.2.1 185) m 0) _; rw [← hm]; exact rp_push hrr))
    · rw [lg_cmp_eq] at h282
      refine Rn.iconstv (v := 1) dX12_works_285 ic_1 ?_
      refine Rn.goto dX12_works_286 ?_
      refine Rn.callS1 dX12_works_290 vX12_357 (tX12_is) (by decide) ⟨(Nat.le_of_ble_eq_true rfl), (Nat.le_of_ble_eq_true rfl), (Nat.le_of_ble_eq_true rfl)⟩ (fun h => by cases h) (fun v1 ly1 M1 ⟨q1, q2, q3⟩ => ?_)
      rw [q1, q2, q3]
      refine Rn.topL (y := 1) (isL_1) ?_
      refine Rn.lstore (lv' := [some (.ref 149), some (.int 61), some (.long y), none, some (.long x), none, some (.long 1), none]) dX12_works_293 (by decide) rfl ?_
      refine Rn.goto dX12_works_295 ?_
      have hv : jnL 27 x y = 1 := by rw [jn27]; simp only [h282, ↓reduceIte]
      rw [hv] at hQ
      refine Rn.aload_n dX12_works_407 rfl ?_
      refine Rn.getR dX12_works_408 fX12_123 rfl (rc149 hR) (show M.2.2 149 53 = some 185 from (rpt53 hR)) ?_
      refine Rn.aload_n dX12_works_411 rfl ?_
      refine Rn.getI dX12_works_412 fX12_354 rfl (rc149 hR) ?_
      refine Rn.iconstv (v := 1) dX12_works_415 ic_1 ?_
      refine Rn.isub dX12_works_416 ?_
      refine Rn.topI (y := nI m) (nI_subk m 1) ?_
      refine Rn.lload dX12_works_417 rfl ?_
      refine Rn.lastN (k0 := m) dX12_works_419 (rc185 hR) (by omega) (by decide) ?_
      refine Rn.lload dX12_works_420 rfl ?_
      refine Rn.ldc2 dX12_works_422 kX12_365 ?_
      refine Rn.lcmp dX12_works_425 ?_
      refine Rn.if_gt dX12_works_426 (fun b1 => ?_) (fun b1 => ?_)
      · rw [lg_cmp_gt] at b1
        refine Rn.iconstv (v := 0) dX12_works_442 ic_0 ?_
        exact Rn.iret (ty := .boolean) dX12_works_443 rfl rfl (hQ.1 (Or.inl b1) _ rfl (fun k h => sI_ne h) (fun j h => by show (sL (sI M 149 (upd (M.1 149) 54 (nI (m + 1)))) 185 (vp_updL (M.2.1 185) m 1)).1 149 j = _; rw [show (sL (sI M 149 (upd (M.1 149) 54 (nI (m + 1)))) 185 (vp_updL (M.2.1 185) m 1)).1 149 = upd (M.1 149) 54 (nI (m + 1)) from rfl, pk_un h]) (fun k h => by show (if k = 185 then _ else M.2.1 k) = _; rw [if_neg h]))
      · rw [lg_cmp_gt] at b1
        refine Rn.lload dX12_works_429 rfl ?_
        refine Rn.ldc2 dX12_works_431 kX12_367 ?_
        refine Rn.lcmp dX12_works_434 ?_
        refine Rn.if_lt dX12_works_435 (fun b2 => ?_) (fun b2 => ?_)
        · rw [lg_cmp_lt] at b2
          refine Rn.iconstv (v := 0) dX12_works_442 ic_0 ?_
          exact Rn.iret (ty := .boolean) dX12_works_443 rfl rfl (hQ.1 (Or.inr b2) _ rfl (fun k h => sI_ne h) (fun j h => by show (sL (sI M 149 (upd (M.1 149) 54 (nI (m + 1)))) 185 (vp_updL (M.2.1 185) m 1)).1 149 j = _; rw [show (sL (sI M 149 (upd (M.1 149) 54 (nI (m + 1)))) 185 (vp_updL (M.2.1 185) m 1)).1 149 = upd (M.1 149) 54 (nI (m + 1)) from rfl, pk_un h]) (fun k h => by show (if k = 185 then _ else M.2.1 k) = _; rw [if_neg h]))
        · rw [lg_cmp_lt] at b2
          refine Rn.iconstv (v := 1) dX12_works_438 ic_1 ?_
          refine Rn.goto dX12_works_439 ?_
          exact Rn.iret (ty := .boolean) dX12_works_443 rfl rfl (hQ.2 (fun h => h.elim b1 b2) _ rfl (fun k h => sI_ne h) (fun j h => by show (sL (sI M 149 (upd (M.1 149) 54 (nI (m + 1)))) 185 (vp_updL (M.2.1 185) m 1)).1 149 j = _; rw [show (sL (sI M 149 (upd (M.1 149) 54 (nI (m + 1)))) 185 (vp_updL (M.2.1 185) m 1)).1 149 = upd (M.1 149) 54 (nI (m + 1)) from rfl, pk_un h]) (fun k h => by show (if k = 185 then _ else M.2.1 k) = _; rw [if_neg h]) rfl (by show rp (vp_updL (M.2.1 185) m 1) _; rw [← hm]; exact rp_push hrr))
  · skip
    exact absurd h16 (by decide)
theorem tX12_works28 {G : Gx} {l : Launch} {ly : Ly} {M : Mm} {m : Nat} {x y : Int64} {r : List Int64} (hm : r.length = m) (hm62 : m ≤ 62) (h54 : M.1 149 54 = nI (m + 2)) (hrp : rp (M.2.1 185) (y :: x :: r)) (hR : RW ly M.2.2) {Q : Qt} (hQ : (jnB (jnL 28 x y) → ∀ K : Mm, K.2.2 = M.2.2 → (∀ k, k ≠ 149 → K.1 k = M.1 k) → (∀ j, j ≠ 54 → K.1 149 j = M.1 149 j) → (∀ k, k ≠ 185 → K.2.1 k = M.2.1 k) → Q (some (.int 0)) ly K) ∧ (¬ jnB (jnL 28 x y) → ∀ K : Mm, K.2.2 = M.2.2 → (∀ k, k ≠ 149 → K.1 k = M.1 k) → (∀ j, j ≠ 54 → K.1 149 j = M.1 149 j) → (∀ k, k ≠ 185 → K.2.1 k = M.2.1 k) → K.1 149 54 = nI (m + 1) → rp (K.2.1 185) (jnL 28 x y :: r) → Q (some (.int 1)) ly K)) : Mt G l mX12_works (2, 0, 0, false) [.ref 149, .int 257] ly M Q := by
  have hy : M.2.1 185 (m + 1) = y := by rw [← hm]; exact hrp.1
  have hx : M.2.1 185 m = x := by rw [← hm]; exact hrp.2.1
  have hrr : rp (M.2.1 185) r := hrp.2.2
  clear hrp
  refine Mt.of (lv := [some (.ref 149), some (.int 257), none, none, none, none, none, none]) rfl ?_
  refine Rn.aload_n dX12_works_0 rfl ?_
  refine Rn.getR dX12_works_1 fX12_123 rfl (rc149 hR) (show M.2.2 149 53 = some 185 from (rpt53 hR)) ?_
  refine Rn.aload_n dX12_works_4 rfl ?_
  refine Rn.getI dX12_works_5 fX12_354 rfl (rc149 hR) ?_
  refine Rn.topI (y := nI (m + 2)) (h54) ?_
  refine Rn.iconstv (v := 1) dX12_works_8 ic_1 ?_
  refine Rn.isub dX12_works_9 ?_
  refine Rn.topI (y := nI (m + 1)) (nI_subk (m + 1) 1) ?_
  refine Rn.laldN (k0 := (m + 1)) dX12_works_10 (rc185 hR) (by omega) (by decide) ?_
  refine Rn.topL (y := y) (hy) ?_
  refine Rn.lstore_n (lv' := [some (.ref 149), some (.int 257), some (.long y), none, none, none, none, none]) dX12_works_11 (by decide) rfl ?_
  refine Rn.iload_n dX12_works_12 rfl ?_
  refine Rn.sipushv (v := 260) dX12_works_13 sp_260 ?_
  refine Rn.icmp_ne dX12_works_16 (fun h16 => ?_) (fun h16 => ?_)
  · skip
    refine Rn.aload_n dX12_works_46 rfl ?_
    refine Rn.getR dX12_works_47 fX12_123 rfl (rc149 hR) (show M.2.2 149 53 = some 185 from (rpt53 hR)) ?_
    refine Rn.aload_n dX12_works_50 rfl ?_
    refine Rn.getI dX12_works_51 fX12_354 rfl (rc149 hR) ?_
    refine Rn.topI (y := nI (m + 2)) (h54) ?_
    refine Rn.iconstv (v := 2) dX12_works_54 ic_2 ?_
    refine Rn.isub dX12_works_55 ?_
    refine Rn.topI (y := nI m) (nI_subk m 2) ?_
    refine Rn.laldN (k0 := m) dX12_works_56 (rc185 hR) (by omega) (by decide) ?_
    refine Rn.topL (y := x) (hx) ?_
    refine Rn.lstore (lv' := [some (.ref 149), some (.int 257), some (.long y), none, some (.long x), none, none, none]) dX12_works_57 (by decide) rfl ?_
    refine Rn.aload_n dX12_works_59 rfl ?_
    refine Rn.dup dX12_works_60 rfl ?_
    refine Rn.getI dX12_works_61 fX12_354 rfl (rc149 hR) ?_
    refine Rn.topI (y := nI (m + 2)) (h54) ?_
    refine Rn.iconstv (v := 1) dX12_works_64 ic_1 ?_
    refine Rn.isub dX12_works_65 ?_
    refine Rn.topI (y := nI (m + 1)) (nI_subk (m + 1) 1) ?_
    refine Rn.putI dX12_works_66 fX12_354 rfl rfl rfl (rc149 hR) ?_
    refine Rn.iload_n dX12_works_69 rfl ?_
    refine Rn.lookup (off := 268) (tgt := 338) dX12_works_70 (by decide) (by decide) (by decide) ?_
    refine Rn.lload dX12_works_338 rfl ?_
    refine Rn.lload_n dX12_works_340 rfl ?_
    refine Rn.lcmp dX12_works_341 ?_
    refine Rn.if_eq dX12_works_342 (fun h342 => ?_) (fun h342 => ?_)
    · rw [lg_cmp_eq] at h342
      refine Rn.iconstv (v := 0) dX12_works_349 ic_0 ?_
      refine Rn.callS1 dX12_works_350 vX12_357 (tX12_is) (by decide) ⟨(Nat.le_of_ble_eq_true rfl), (Nat.le_of_ble_eq_true rfl), (Nat.le_of_ble_eq_true rfl)⟩ (fun h => by cases h) (fun v1 ly1 M1 ⟨q1, q2, q3⟩ => ?_)
      rw [q1, q2, q3]
      refine Rn.topL (y := 0) (isL_0) ?_
      refine Rn.lstore (lv' := [some (.ref 149), some (.int 257), some (.long y), none, some (.long x), none, some (.long 0), none]) dX12_works_353 (by decide) rfl ?_
      refine Rn.goto dX12_works_355 ?_
      have hv : jnL 28 x y = 0 := by rw [jn28]; simp only [h342, ↓reduceIte]
      rw [hv] at hQ
      refine Rn.aload_n dX12_works_407 rfl ?_
      refine Rn.getR dX12_works_408 fX12_123 rfl (rc149 hR) (show M.2.2 149 53 = some 185 from (rpt53 hR)) ?_
      refine Rn.aload_n dX12_works_411 rfl ?_
      refine Rn.getI dX12_works_412 fX12_354 rfl (rc149 hR) ?_
      refine Rn.iconstv (v := 1) dX12_works_415 ic_1 ?_
      refine Rn.isub dX12_works_416 ?_
      refine Rn.topI (y := nI m) (nI_subk m 1) ?_
      refine Rn.lload dX12_works_417 rfl ?_
      refine Rn.lastN (k0 := m) dX12_works_419 (rc185 hR) (by omega) (by decide) ?_
      refine Rn.lload dX12_works_420 rfl ?_
      refine Rn.ldc2 dX12_works_422 kX12_365 ?_
      refine Rn.lcmp dX12_works_425 ?_
      refine Rn.if_gt dX12_works_426 (fun b1 => ?_) (fun b1 => ?_)
      · rw [lg_cmp_gt] at b1
        refine Rn.iconstv (v := 0) dX12_works_442 ic_0 ?_
        exact Rn.iret (ty := .boolean) dX12_works_443 rfl rfl (hQ.1 (Or.inl b1) _ rfl (fun k h => sI_ne h) (fun j h => by show (sL (sI M 149 (upd (M.1 149) 54 (nI (m + 1)))) 185 (vp_updL (M.2.1 185) m 0)).1 149 j = _; rw [show (sL (sI M 149 (upd (M.1 149) 54 (nI (m + 1)))) 185 (vp_updL (M.2.1 185) m 0)).1 149 = upd (M.1 149) 54 (nI (m + 1)) from rfl, pk_un h]) (fun k h => by show (if k = 185 then _ else M.2.1 k) = _; rw [if_neg h]))
      · rw [lg_cmp_gt] at b1
        refine Rn.lload dX12_works_429 rfl ?_
        refine Rn.ldc2 dX12_works_431 kX12_367 ?_
        refine Rn.lcmp dX12_works_434 ?_
        refine Rn.if_lt dX12_works_435 (fun b2 => ?_) (fun b2 => ?_)
        · rw [lg_cmp_lt] at b2
          refine Rn.iconstv (v := 0) dX12_works_442 ic_0 ?_
          exact Rn.iret (ty := .boolean) dX12_works_443 rfl rfl (hQ.1 (Or.inr b2) _ rfl (fun k h => sI_ne h) (fun j h => by show (sL (sI M 149 (upd (M.1 149) 54 (nI (m + 1)))) 185 (vp_updL (M.2.1 185) m 0)).1 149 j = _; rw [show (sL (sI M 149 (upd (M.1 149) 54 (nI (m + 1)))) 185 (vp_updL (M.2.1 185) m 0)).1 149 = upd (M.1 149) 54 (nI (m + 1)) from rfl, pk_un h]) (fun k h => by show (if k = 185 then _ else M.2.1 k) = _; rw [if_neg h]))
        · rw [lg_cmp_lt] at b2
          refine Rn.iconstv (v := 1) dX12_works_438 ic_1 ?_
          refine Rn.goto dX12_works_439 ?_
          exact Rn.iret (ty := .boolean) dX12_works_443 rfl rfl (hQ.2 (fun h => h.elim b1 b2) _ rfl (fun k h => sI_ne h) (fun j h => by show (sL (sI M 149 (upd (M.1 149) 54 (nI (m + 1)))) 185 (vp_updL (M.2.1 185) m 0)).1 149 j = _; rw [show (sL (sI M 149 (upd (M.1 149) 54 (nI (m + 1)))) 185 (vp_updL (M.2.1 185) m 0)).1 149 = upd (M.1 149) 54 (nI (m + 1)) from rfl, pk_un h]) (fun k h => by show (if k = 185 then _ else M.2.1 k) = _; rw [if_neg h]) rfl (by show rp (vp_updL (M.2.1 185) m 0) _; rw [← hm]; exact rp_push hrr))
    · rw [lg_cmp_eq] at h342
      refine Rn.iconstv (v := 1) dX12_works_345 ic_1 ?_
      refine Rn.goto dX12_works_346 ?_
      refine Rn.callS1 dX12_works_350 vX12_357 (tX12_is) (by decide) ⟨(Nat.le_of_ble_eq_true rfl), (Nat.le_of_ble_eq_true rfl), (Nat.le_of_ble_eq_true rfl)⟩ (fun h => by cases h) (fun v1 ly1 M1 ⟨q1, q2, q3⟩ => ?_)
      rw [q1, q2, q3]
      refine Rn.topL (y := 1) (isL_1) ?_
      refine Rn.lstore (lv' := [some (.ref 149), some (.int 257), some (.long y), none, some (.long x), none, some (.long 1), none]) dX12_works_353 (by decide) rfl ?_
      refine Rn.goto dX12_works_355 ?_
      have hv : jnL 28 x y = 1 := by rw [jn28]; simp only [h342, ↓reduceIte]
      rw [hv] at hQ
      refine Rn.aload_n dX12_works_407 rfl ?_
      refine Rn.getR dX12_works_408 fX12_123 rfl (rc149 hR) (show M.2.2 149 53 = some 185 from (rpt53 hR)) ?_
      refine Rn.aload_n dX12_works_411 rfl ?_
      refine Rn.getI dX12_works_412 fX12_354 rfl (rc149 hR) ?_
      refine Rn.iconstv (v := 1) dX12_works_415 ic_1 ?_
      refine Rn.isub dX12_works_416 ?_
      refine Rn.topI (y := nI m) (nI_subk m 1) ?_
      refine Rn.lload dX12_works_417 rfl ?_
      refine Rn.lastN (k0 := m) dX12_works_419 (rc185 hR) (by omega) (by decide) ?_
      refine Rn.lload dX12_works_420 rfl ?_
      refine Rn.ldc2 dX12_works_422 kX12_365 ?_
      refine Rn.lcmp dX12_works_425 ?_
      refine Rn.if_gt dX12_works_426 (fun b1 => ?_) (fun b1 => ?_)
      · rw [lg_cmp_gt] at b1
        refine Rn.iconstv (v := 0) dX12_works_442 ic_0 ?_
        exact Rn.iret (ty := .boolean) dX12_works_443 rfl rfl (hQ.1 (Or.inl b1) _ rfl (fun k h => sI_ne h) (fun j h => by show (sL (sI M 149 (upd (M.1 149) 54 (nI (m + 1)))) 185 (vp_updL (M.2.1 185) m 1)).1 149 j = _; rw [show (sL (sI M 149 (upd (M.1 149) 54 (nI (m + 1)))) 185 (vp_updL (M.2.1 185) m 1)).1 149 = upd (M.1 149) 54 (nI (m + 1)) from rfl, pk_un h]) (fun k h => by show (if k = 185 then _ else M.2.1 k) = _; rw [if_neg h]))
      · rw [lg_cmp_gt] at b1
        refine Rn.lload dX12_works_429 rfl ?_
        refine Rn.ldc2 dX12_works_431 kX12_367 ?_
        refine Rn.lcmp dX12_works_434 ?_
        refine Rn.if_lt dX12_works_435 (fun b2 => ?_) (fun b2 => ?_)
        · rw [lg_cmp_lt] at b2
          refine Rn.iconstv (v := 0) dX12_works_442 ic_0 ?_
          exact Rn.iret (ty := .boolean) dX12_works_443 rfl rfl (hQ.1 (Or.inr b2) _ rfl (fun k h => sI_ne h) (fun j h => by show (sL (sI M 149 (upd (M.1 149) 54 (nI (m + 1)))) 185 (vp_updL (M.2.1 185) m 1)).1 149 j = _; rw [show (sL (sI M 149 (upd (M.1 149) 54 (nI (m + 1)))) 185 (vp_updL (M.2.1 185) m 1)).1 149 = upd (M.1 149) 54 (nI (m + 1)) from rfl, pk_un h]) (fun k h => by show (if k = 185 then _ else M.2.1 k) = _; rw [if_neg h]))
        · rw [lg_cmp_lt] at b2
          refine Rn.iconstv (v := 1) dX12_works_438 ic_1 ?_
          refine Rn.goto dX12_works_439 ?_
          exact Rn.iret (ty := .boolean) dX12_works_443 rfl rfl (hQ.2 (fun h => h.elim b1 b2) _ rfl (fun k h => sI_ne h) (fun j h => by show (sL (sI M 149 (upd (M.1 149) 54 (nI (m + 1)))) 185 (vp_updL (M.2.1 185) m 1)).1 149 j = _; rw [show (sL (sI M 149 (upd (M.1 149) 54 (nI (m + 1)))) 185 (vp_updL (M.2.1 185) m 1)).1 149 = upd (M.1 149) 54 (nI (m + 1)) from rfl, pk_un h]) (fun k h => by show (if k = 185 then _ else M.2.1 k) = _; rw [if_neg h]) rfl (by show rp (vp_updL (M.2.1 185) m 1) _; rw [← hm]; exact rp_push hrr))
  · skip
    exact absurd h16 (by decide)
theorem tX12_works29 {G : Gx} {l : Launch} {ly : Ly} {M : Mm} {m : Nat} {x y : Int64} {r : List Int64} (hm : r.length = m) (hm62 : m ≤ 62) (h54 : M.1 149 54 = nI (m + 2)) (hrp : rp (M.2.1 185) (y :: x :: r)) (hR : RW ly M.2.2) {Q : Qt} (hQ : (jnB (jnL 29 x y) → ∀ K : Mm, K.2.2 = M.2.2 → (∀ k, k ≠ 149 → K.1 k = M.1 k) → (∀ j, j ≠ 54 → K.1 149 j = M.1 149 j) → (∀ k, k ≠ 185 → K.2.1 k = M.2.1 k) → Q (some (.int 0)) ly K) ∧ (¬ jnB (jnL 29 x y) → ∀ K : Mm, K.2.2 = M.2.2 → (∀ k, k ≠ 149 → K.1 k = M.1 k) → (∀ j, j ≠ 54 → K.1 149 j = M.1 149 j) → (∀ k, k ≠ 185 → K.2.1 k = M.2.1 k) → K.1 149 54 = nI (m + 1) → rp (K.2.1 185) (jnL 29 x y :: r) → Q (some (.int 1)) ly K)) : Mt G l mX12_works (2, 0, 0, false) [.ref 149, .int 258] ly M Q := by
  have hy : M.2.1 185 (m + 1) = y := by rw [← hm]; exact hrp.1
  have hx : M.2.1 185 m = x := by rw [← hm]; exact hrp.2.1
  have hrr : rp (M.2.1 185) r := hrp.2.2
  clear hrp
  refine Mt.of (lv := [some (.ref 149), some (.int 258), none, none, none, none, none, none]) rfl ?_
  refine Rn.aload_n dX12_works_0 rfl ?_
  refine Rn.getR dX12_works_1 fX12_123 rfl (rc149 hR) (show M.2.2 149 53 = some 185 from (rpt53 hR)) ?_
  refine Rn.aload_n dX12_works_4 rfl ?_
  refine Rn.getI dX12_works_5 fX12_354 rfl (rc149 hR) ?_
  refine Rn.topI (y := nI (m + 2)) (h54) ?_
  refine Rn.iconstv (v := 1) dX12_works_8 ic_1 ?_
  refine Rn.isub dX12_works_9 ?_
  refine Rn.topI (y := nI (m + 1)) (nI_subk (m + 1) 1) ?_
  refine Rn.laldN (k0 := (m + 1)) dX12_works_10 (rc185 hR) (by omega) (by decide) ?_
  refine Rn.topL (y := y) (hy) ?_
  refine Rn.lstore_n (lv' := [some (.ref 149), some (.int 258), some (.long y), none, none, none, none, none]) dX12_works_11 (by decide) rfl ?_
  refine Rn.iload_n dX12_works_12 rfl ?_
  refine Rn.sipushv (v := 260) dX12_works_13 sp_260 ?_
  refine Rn.icmp_ne dX12_works_16 (fun h16 => ?_) (fun h16 => ?_)
  · skip
    refine Rn.aload_n dX12_works_46 rfl ?_
    refine Rn.getR dX12_works_47 fX12_123 rfl (rc149 hR) (show M.2.2 149 53 = some 185 from (rpt53 hR)) ?_
    refine Rn.aload_n dX12_works_50 rfl ?_
    refine Rn.getI dX12_works_51 fX12_354 rfl (rc149 hR) ?_
    refine Rn.topI (y := nI (m + 2)) (h54) ?_
    refine Rn.iconstv (v := 2) dX12_works_54 ic_2 ?_
    refine Rn.isub dX12_works_55 ?_
    refine Rn.topI (y := nI m) (nI_subk m 2) ?_
    refine Rn.laldN (k0 := m) dX12_works_56 (rc185 hR) (by omega) (by decide) ?_
    refine Rn.topL (y := x) (hx) ?_
    refine Rn.lstore (lv' := [some (.ref 149), some (.int 258), some (.long y), none, some (.long x), none, none, none]) dX12_works_57 (by decide) rfl ?_
    refine Rn.aload_n dX12_works_59 rfl ?_
    refine Rn.dup dX12_works_60 rfl ?_
    refine Rn.getI dX12_works_61 fX12_354 rfl (rc149 hR) ?_
    refine Rn.topI (y := nI (m + 2)) (h54) ?_
    refine Rn.iconstv (v := 1) dX12_works_64 ic_1 ?_
    refine Rn.isub dX12_works_65 ?_
    refine Rn.topI (y := nI (m + 1)) (nI_subk (m + 1) 1) ?_
    refine Rn.putI dX12_works_66 fX12_354 rfl rfl rfl (rc149 hR) ?_
    refine Rn.iload_n dX12_works_69 rfl ?_
    refine Rn.lookup (off := 248) (tgt := 318) dX12_works_70 (by decide) (by decide) (by decide) ?_
    refine Rn.lload dX12_works_318 rfl ?_
    refine Rn.lload_n dX12_works_320 rfl ?_
    refine Rn.lcmp dX12_works_321 ?_
    refine Rn.if_lt dX12_works_322 (fun h322 => ?_) (fun h322 => ?_)
    · rw [lg_cmp_lt] at h322
      refine Rn.iconstv (v := 0) dX12_works_329 ic_0 ?_
      refine Rn.callS1 dX12_works_330 vX12_357 (tX12_is) (by decide) ⟨(Nat.le_of_ble_eq_true rfl), (Nat.le_of_ble_eq_true rfl), (Nat.le_of_ble_eq_true rfl)⟩ (fun h => by cases h) (fun v1 ly1 M1 ⟨q1, q2, q3⟩ => ?_)
      rw [q1, q2, q3]
      refine Rn.topL (y := 0) (isL_0) ?_
      refine Rn.lstore (lv' := [some (.ref 149), some (.int 258), some (.long y), none, some (.long x), none, some (.long 0), none]) dX12_works_333 (by decide) rfl ?_
      refine Rn.goto dX12_works_335 ?_
      have hv : jnL 29 x y = 0 := by rw [jn29]; simp only [h322, ↓reduceIte]
      rw [hv] at hQ
      refine Rn.aload_n dX12_works_407 rfl ?_
      refine Rn.getR dX12_works_408 fX12_123 rfl (rc149 hR) (show M.2.2 149 53 = some 185 from (rpt53 hR)) ?_
      refine Rn.aload_n dX12_works_411 rfl ?_
      refine Rn.getI dX12_works_412 fX12_354 rfl (rc149 hR) ?_
      refine Rn.iconstv (v := 1) dX12_works_415 ic_1 ?_
      refine Rn.isub dX12_works_416 ?_
      refine Rn.topI (y := nI m) (nI_subk m 1) ?_
      refine Rn.lload dX12_works_417 rfl ?_
      refine Rn.lastN (k0 := m) dX12_works_419 (rc185 hR) (by omega) (by decide) ?_
      refine Rn.lload dX12_works_420 rfl ?_
      refine Rn.ldc2 dX12_works_422 kX12_365 ?_
      refine Rn.lcmp dX12_works_425 ?_
      refine Rn.if_gt dX12_works_426 (fun b1 => ?_) (fun b1 => ?_)
      · rw [lg_cmp_gt] at b1
        refine Rn.iconstv (v := 0) dX12_works_442 ic_0 ?_
        exact Rn.iret (ty := .boolean) dX12_works_443 rfl rfl (hQ.1 (Or.inl b1) _ rfl (fun k h => sI_ne h) (fun j h => by show (sL (sI M 149 (upd (M.1 149) 54 (nI (m + 1)))) 185 (vp_updL (M.2.1 185) m 0)).1 149 j = _; rw [show (sL (sI M 149 (upd (M.1 149) 54 (nI (m + 1)))) 185 (vp_updL (M.2.1 185) m 0)).1 149 = upd (M.1 149) 54 (nI (m + 1)) from rfl, pk_un h]) (fun k h => by show (if k = 185 then _ else M.2.1 k) = _; rw [if_neg h]))
      · rw [lg_cmp_gt] at b1
        refine Rn.lload dX12_works_429 rfl ?_
        refine Rn.ldc2 dX12_works_431 kX12_367 ?_
        refine Rn.lcmp dX12_works_434 ?_
        refine Rn.if_lt dX12_works_435 (fun b2 => ?_) (fun b2 => ?_)
        · rw [lg_cmp_lt] at b2
          refine Rn.iconstv (v := 0) dX12_works_442 ic_0 ?_
          exact Rn.iret (ty := .boolean) dX12_works_443 rfl rfl (hQ.1 (Or.inr b2) _ rfl (fun k h => sI_ne h) (fun j h => by show (sL (sI M 149 (upd (M.1 149) 54 (nI (m + 1)))) 185 (vp_updL (M.2.1 185) m 0)).1 149 j = _; rw [show (sL (sI M 149 (upd (M.1 149) 54 (nI (m + 1)))) 185 (vp_updL (M.2.1 185) m 0)).1 149 = upd (M.1 149) 54 (nI (m + 1)) from rfl, pk_un h]) (fun k h => by show (if k = 185 then _ else M.2.1 k) = _; rw [if_neg h]))
        · rw [lg_cmp_lt] at b2
          refine Rn.iconstv (v := 1) dX12_works_438 ic_1 ?_
          refine Rn.goto dX12_works_439 ?_
          exact Rn.iret (ty := .boolean) dX12_works_443 rfl rfl (hQ.2 (fun h => h.elim b1 b2) _ rfl (fun k h => sI_ne h) (fun j h => by show (sL (sI M 149 (upd (M.1 149) 54 (nI (m + 1)))) 185 (vp_updL (M.2.1 185) m 0)).1 149 j = _; rw [show (sL (sI M 149 (upd (M.1 149) 54 (nI (m + 1)))) 185 (vp_updL (M.2.1 185) m 0)).1 149 = upd (M.1 149) 54 (nI (m + 1)) from rfl, pk_un h]) (fun k h => by show (if k = 185 then _ else M.2.1 k) = _; rw [if_neg h]) rfl (by show rp (vp_updL (M.2.1 185) m 0) _; rw [← hm]; exact rp_push hrr))
    · rw [lg_cmp_lt] at h322
      refine Rn.iconstv (v := 1) dX12_works_325 ic_1 ?_
      refine Rn.goto dX12_works_326 ?_
      refine Rn.callS1 dX12_works_330 vX12_357 (tX12_is) (by decide) ⟨(Nat.le_of_ble_eq_true rfl), (Nat.le_of_ble_eq_true rfl), (Nat.le_of_ble_eq_true rfl)⟩ (fun h => by cases h) (fun v1 ly1 M1 ⟨q1, q2, q3⟩ => ?_)
      rw [q1, q2, q3]
      refine Rn.topL (y := 1) (isL_1) ?_
      refine Rn.lstore (lv' := [some (.ref 149), some (.int 258), some (.long y), none, some (.long x), none, some (.long 1), none]) dX12_works_333 (by decide) rfl ?_
      refine Rn.goto dX12_works_335 ?_
      have hv : jnL 29 x y = 1 := by rw [jn29]; simp only [h322, ↓reduceIte]
      rw [hv] at hQ
      refine Rn.aload_n dX12_works_407 rfl ?_
      refine Rn.getR dX12_works_408 fX12_123 rfl (rc149 hR) (show M.2.2 149 53 = some 185 from (rpt53 hR)) ?_
      refine Rn.aload_n dX12_works_411 rfl ?_
      refine Rn.getI dX12_works_412 fX12_354 rfl (rc149 hR) ?_
      refine Rn.iconstv (v := 1) dX12_works_415 ic_1 ?_
      refine Rn.isub dX12_works_416 ?_
      refine Rn.topI (y := nI m) (nI_subk m 1) ?_
      refine Rn.lload dX12_works_417 rfl ?_
      refine Rn.lastN (k0 := m) dX12_works_419 (rc185 hR) (by omega) (by decide) ?_
      refine Rn.lload dX12_works_420 rfl ?_
      refine Rn.ldc2 dX12_works_422 kX12_365 ?_
      refine Rn.lcmp dX12_works_425 ?_
      refine Rn.if_gt dX12_works_426 (fun b1 => ?_) (fun b1 => ?_)
      · rw [lg_cmp_gt] at b1
        refine Rn.iconstv (v := 0) dX12_works_442 ic_0 ?_
        exact Rn.iret (ty := .boolean) dX12_works_443 rfl rfl (hQ.1 (Or.inl b1) _ rfl (fun k h => sI_ne h) (fun j h => by show (sL (sI M 149 (upd (M.1 149) 54 (nI (m + 1)))) 185 (vp_updL (M.2.1 185) m 1)).1 149 j = _; rw [show (sL (sI M 149 (upd (M.1 149) 54 (nI (m + 1)))) 185 (vp_updL (M.2.1 185) m 1)).1 149 = upd (M.1 149) 54 (nI (m + 1)) from rfl, pk_un h]) (fun k h => by show (if k = 185 then _ else M.2.1 k) = _; rw [if_neg h]))
      · rw [lg_cmp_gt] at b1
        refine Rn.lload dX12_works_429 rfl ?_
        refine Rn.ldc2 dX12_works_431 kX12_367 ?_
        refine Rn.lcmp dX12_works_434 ?_
        refine Rn.if_lt dX12_works_435 (fun b2 => ?_) (fun b2 => ?_)
        · rw [lg_cmp_lt] at b2
          refine Rn.iconstv (v := 0) dX12_works_442 ic_0 ?_
          exact Rn.iret (ty := .boolean) dX12_works_443 rfl rfl (hQ.1 (Or.inr b2) _ rfl (fun k h => sI_ne h) (fun j h => by show (sL (sI M 149 (upd (M.1 149) 54 (nI (m + 1)))) 185 (vp_updL (M.2.1 185) m 1)).1 149 j = _; rw [show (sL (sI M 149 (upd (M.1 149) 54 (nI (m + 1)))) 185 (vp_updL (M.2.1 185) m 1)).1 149 = upd (M.1 149) 54 (nI (m + 1)) from rfl, pk_un h]) (fun k h => by show (if k = 185 then _ else M.2.1 k) = _; rw [if_neg h]))
        · rw [lg_cmp_lt] at b2
          refine Rn.iconstv (v := 1) dX12_works_438 ic_1 ?_
          refine Rn.goto dX12_works_439 ?_
          exact Rn.iret (ty := .boolean) dX12_works_443 rfl rfl (hQ.2 (fun h => h.elim b1 b2) _ rfl (fun k h => sI_ne h) (fun j h => by show (sL (sI M 149 (upd (M.1 149) 54 (nI (m + 1)))) 185 (vp_updL (M.2.1 185) m 1)).1 149 j = _; rw [show (sL (sI M 149 (upd (M.1 149) 54 (nI (m + 1)))) 185 (vp_updL (M.2.1 185) m 1)).1 149 = upd (M.1 149) 54 (nI (m + 1)) from rfl, pk_un h]) (fun k h => by show (if k = 185 then _ else M.2.1 k) = _; rw [if_neg h]) rfl (by show rp (vp_updL (M.2.1 185) m 1) _; rw [← hm]; exact rp_push hrr))
  · skip
    exact absurd h16 (by decide)
theorem tX12_works30 {G : Gx} {l : Launch} {ly : Ly} {M : Mm} {m : Nat} {x y : Int64} {r : List Int64} (hm : r.length = m) (hm62 : m ≤ 62) (h54 : M.1 149 54 = nI (m + 2)) (hrp : rp (M.2.1 185) (y :: x :: r)) (hR : RW ly M.2.2) {Q : Qt} (hQ : (jnB (jnL 30 x y) → ∀ K : Mm, K.2.2 = M.2.2 → (∀ k, k ≠ 149 → K.1 k = M.1 k) → (∀ j, j ≠ 54 → K.1 149 j = M.1 149 j) → (∀ k, k ≠ 185 → K.2.1 k = M.2.1 k) → Q (some (.int 0)) ly K) ∧ (¬ jnB (jnL 30 x y) → ∀ K : Mm, K.2.2 = M.2.2 → (∀ k, k ≠ 149 → K.1 k = M.1 k) → (∀ j, j ≠ 54 → K.1 149 j = M.1 149 j) → (∀ k, k ≠ 185 → K.2.1 k = M.2.1 k) → K.1 149 54 = nI (m + 1) → rp (K.2.1 185) (jnL 30 x y :: r) → Q (some (.int 1)) ly K)) : Mt G l mX12_works (2, 0, 0, false) [.ref 149, .int 62] ly M Q := by
  have hy : M.2.1 185 (m + 1) = y := by rw [← hm]; exact hrp.1
  have hx : M.2.1 185 m = x := by rw [← hm]; exact hrp.2.1
  have hrr : rp (M.2.1 185) r := hrp.2.2
  clear hrp
  refine Mt.of (lv := [some (.ref 149), some (.int 62), none, none, none, none, none, none]) rfl ?_
  refine Rn.aload_n dX12_works_0 rfl ?_
  refine Rn.getR dX12_works_1 fX12_123 rfl (rc149 hR) (show M.2.2 149 53 = some 185 from (rpt53 hR)) ?_
  refine Rn.aload_n dX12_works_4 rfl ?_
  refine Rn.getI dX12_works_5 fX12_354 rfl (rc149 hR) ?_
  refine Rn.topI (y := nI (m + 2)) (h54) ?_
  refine Rn.iconstv (v := 1) dX12_works_8 ic_1 ?_
  refine Rn.isub dX12_works_9 ?_
  refine Rn.topI (y := nI (m + 1)) (nI_subk (m + 1) 1) ?_
  refine Rn.laldN (k0 := (m + 1)) dX12_works_10 (rc185 hR) (by omega) (by decide) ?_
  refine Rn.topL (y := y) (hy) ?_
  refine Rn.lstore_n (lv' := [some (.ref 149), some (.int 62), some (.long y), none, none, none, none, none]) dX12_works_11 (by decide) rfl ?_
  refine Rn.iload_n dX12_works_12 rfl ?_
  refine Rn.sipushv (v := 260) dX12_works_13 sp_260 ?_
  refine Rn.icmp_ne dX12_works_16 (fun h16 => ?_) (fun h16 => ?_)
  · skip
    refine Rn.aload_n dX12_works_46 rfl ?_
    refine Rn.getR dX12_works_47 fX12_123 rfl (rc149 hR) (show M.2.2 149 53 = some 185 from (rpt53 hR)) ?_
    refine Rn.aload_n dX12_works_50 rfl ?_
    refine Rn.getI dX12_works_51 fX12_354 rfl (rc149 hR) ?_
    refine Rn.topI (y := nI (m + 2)) (h54) ?_
    refine Rn.iconstv (v := 2) dX12_works_54 ic_2 ?_
    refine Rn.isub dX12_works_55 ?_
    refine Rn.topI (y := nI m) (nI_subk m 2) ?_
    refine Rn.laldN (k0 := m) dX12_works_56 (rc185 hR) (by omega) (by decide) ?_
    refine Rn.topL (y := x) (hx) ?_
    refine Rn.lstore (lv' := [some (.ref 149), some (.int 62), some (.long y), none, some (.long x), none, none, none]) dX12_works_57 (by decide) rfl ?_
    refine Rn.aload_n dX12_works_59 rfl ?_
    refine Rn.dup dX12_works_60 rfl ?_
    refine Rn.getI dX12_works_61 fX12_354 rfl (rc149 hR) ?_
    refine Rn.topI (y := nI (m + 2)) (h54) ?_
    refine Rn.iconstv (v := 1) dX12_works_64 ic_1 ?_
    refine Rn.isub dX12_works_65 ?_
    refine Rn.topI (y := nI (m + 1)) (nI_subk (m + 1) 1) ?_
    refine Rn.putI dX12_works_66 fX12_354 rfl rfl rfl (rc149 hR) ?_
    refine Rn.iload_n dX12_works_69 rfl ?_
    refine Rn.lookup (off := 188) (tgt := 258) dX12_works_70 (by decide) (by decide) (by decide) ?_
    refine Rn.lload dX12_works_258 rfl ?_
    refine Rn.lload_n dX12_works_260 rfl ?_
    refine Rn.lcmp dX12_works_261 ?_
    refine Rn.if_le dX12_works_262 (fun h262 => ?_) (fun h262 => ?_)
    · rw [lg_cmp_le] at h262
      refine Rn.iconstv (v := 0) dX12_works_269 ic_0 ?_
      refine Rn.callS1 dX12_works_270 vX12_357 (tX12_is) (by decide) ⟨(Nat.le_of_ble_eq_true rfl), (Nat.le_of_ble_eq_true rfl), (Nat.le_of_ble_eq_true rfl)⟩ (fun h => by cases h) (fun v1 ly1 M1 ⟨q1, q2, q3⟩ => ?_)
      rw [q1, q2, q3]
      refine Rn.topL (y := 0) (isL_0) ?_
      refine Rn.lstore (lv' := [some (.ref 149), some (.int 62), some (.long y), none, some (.long x), none, some (.long 0), none]) dX12_works_273 (by decide) rfl ?_
      refine Rn.goto dX12_works_275 ?_
      have hv : jnL 30 x y = 0 := by rw [jn30]; simp only [h262, ↓reduceIte]
      rw [hv] at hQ
      refine Rn.aload_n dX12_works_407 rfl ?_
      refine Rn.getR dX12_works_408 fX12_123 rfl (rc149 hR) (show M.2.2 149 53 = some 185 from (rpt53 hR)) ?_
      refine Rn.aload_n dX12_works_411 rfl ?_
      refine Rn.getI dX12_works_412 fX12_354 rfl (rc149 hR) ?_
      refine Rn.iconstv (v := 1) dX12_works_415 ic_1 ?_
      refine Rn.isub dX12_works_416 ?_
      refine Rn.topI (y := nI m) (nI_subk m 1) ?_
      refine Rn.lload dX12_works_417 rfl ?_
      refine Rn.lastN (k0 := m) dX12_works_419 (rc185 hR) (by omega) (by decide) ?_
      refine Rn.lload dX12_works_420 rfl ?_
      refine Rn.ldc2 dX12_works_422 kX12_365 ?_
      refine Rn.lcmp dX12_works_425 ?_
      refine Rn.if_gt dX12_works_426 (fun b1 => ?_) (fun b1 => ?_)
      · rw [lg_cmp_gt] at b1
        refine Rn.iconstv (v := 0) dX12_works_442 ic_0 ?_
        exact Rn.iret (ty := .boolean) dX12_works_443 rfl rfl (hQ.1 (Or.inl b1) _ rfl (fun k h => sI_ne h) (fun j h => by show (sL (sI M 149 (upd (M.1 149) 54 (nI (m + 1)))) 185 (vp_updL (M.2.1 185) m 0)).1 149 j = _; rw [show (sL (sI M 149 (upd (M.1 149) 54 (nI (m + 1)))) 185 (vp_updL (M.2.1 185) m 0)).1 149 = upd (M.1 149) 54 (nI (m + 1)) from rfl, pk_un h]) (fun k h => by show (if k = 185 then _ else M.2.1 k) = _; rw [if_neg h]))
      · rw [lg_cmp_gt] at b1
        refine Rn.lload dX12_works_429 rfl ?_
        refine Rn.ldc2 dX12_works_431 kX12_367 ?_
        refine Rn.lcmp dX12_works_434 ?_
        refine Rn.if_lt dX12_works_435 (fun b2 => ?_) (fun b2 => ?_)
        · rw [lg_cmp_lt] at b2
          refine Rn.iconstv (v := 0) dX12_works_442 ic_0 ?_
          exact Rn.iret (ty := .boolean) dX12_works_443 rfl rfl (hQ.1 (Or.inr b2) _ rfl (fun k h => sI_ne h) (fun j h => by show (sL (sI M 149 (upd (M.1 149) 54 (nI (m + 1)))) 185 (vp_updL (M.2.1 185) m 0)).1 149 j = _; rw [show (sL (sI M 149 (upd (M.1 149) 54 (nI (m + 1)))) 185 (vp_updL (M.2.1 185) m 0)).1 149 = upd (M.1 149) 54 (nI (m + 1)) from rfl, pk_un h]) (fun k h => by show (if k = 185 then _ else M.2.1 k) = _; rw [if_neg h]))
        · rw [lg_cmp_lt] at b2
          refine Rn.iconstv (v := 1) dX12_works_438 ic_1 ?_
          refine Rn.goto dX12_works_439 ?_
          exact Rn.iret (ty := .boolean) dX12_works_443 rfl rfl (hQ.2 (fun h => h.elim b1 b2) _ rfl (fun k h => sI_ne h) (fun j h => by show (sL (sI M 149 (upd (M.1 149) 54 (nI (m + 1)))) 185 (vp_updL (M.2.1 185) m 0)).1 149 j = _; rw [show (sL (sI M 149 (upd (M.1 149) 54 (nI (m + 1)))) 185 (vp_updL (M.2.1 185) m 0)).1 149 = upd (M.1 149) 54 (nI (m + 1)) from rfl, pk_un h]) (fun k h => by show (if k = 185 then _ else M.2.1 k) = _; rw [if_neg h]) rfl (by show rp (vp_updL (M.2.1 185) m 0) _; rw [← hm]; exact rp_push hrr))
    · rw [lg_cmp_le] at h262
      refine Rn.iconstv (v := 1) dX12_works_265 ic_1 ?_
      refine Rn.goto dX12_works_266 ?_
      refine Rn.callS1 dX12_works_270 vX12_357 (tX12_is) (by decide) ⟨(Nat.le_of_ble_eq_true rfl), (Nat.le_of_ble_eq_true rfl), (Nat.le_of_ble_eq_true rfl)⟩ (fun h => by cases h) (fun v1 ly1 M1 ⟨q1, q2, q3⟩ => ?_)
      rw [q1, q2, q3]
      refine Rn.topL (y := 1) (isL_1) ?_
      refine Rn.lstore (lv' := [some (.ref 149), some (.int 62), some (.long y), none, some (.long x), none, some (.long 1), none]) dX12_works_273 (by decide) rfl ?_
      refine Rn.goto dX12_works_275 ?_
      have hv : jnL 30 x y = 1 := by rw [jn30]; simp only [h262, ↓reduceIte]
      rw [hv] at hQ
      refine Rn.aload_n dX12_works_407 rfl ?_
      refine Rn.getR dX12_works_408 fX12_123 rfl (rc149 hR) (show M.2.2 149 53 = some 185 from (rpt53 hR)) ?_
      refine Rn.aload_n dX12_works_411 rfl ?_
      refine Rn.getI dX12_works_412 fX12_354 rfl (rc149 hR) ?_
      refine Rn.iconstv (v := 1) dX12_works_415 ic_1 ?_
      refine Rn.isub dX12_works_416 ?_
      refine Rn.topI (y := nI m) (nI_subk m 1) ?_
      refine Rn.lload dX12_works_417 rfl ?_
      refine Rn.lastN (k0 := m) dX12_works_419 (rc185 hR) (by omega) (by decide) ?_
      refine Rn.lload dX12_works_420 rfl ?_
      refine Rn.ldc2 dX12_works_422 kX12_365 ?_
      refine Rn.lcmp dX12_works_425 ?_
      refine Rn.if_gt dX12_works_426 (fun b1 => ?_) (fun b1 => ?_)
      · rw [lg_cmp_gt] at b1
        refine Rn.iconstv (v := 0) dX12_works_442 ic_0 ?_
        exact Rn.iret (ty := .boolean) dX12_works_443 rfl rfl (hQ.1 (Or.inl b1) _ rfl (fun k h => sI_ne h) (fun j h => by show (sL (sI M 149 (upd (M.1 149) 54 (nI (m + 1)))) 185 (vp_updL (M.2.1 185) m 1)).1 149 j = _; rw [show (sL (sI M 149 (upd (M.1 149) 54 (nI (m + 1)))) 185 (vp_updL (M.2.1 185) m 1)).1 149 = upd (M.1 149) 54 (nI (m + 1)) from rfl, pk_un h]) (fun k h => by show (if k = 185 then _ else M.2.1 k) = _; rw [if_neg h]))
      · rw [lg_cmp_gt] at b1
        refine Rn.lload dX12_works_429 rfl ?_
        refine Rn.ldc2 dX12_works_431 kX12_367 ?_
        refine Rn.lcmp dX12_works_434 ?_
        refine Rn.if_lt dX12_works_435 (fun b2 => ?_) (fun b2 => ?_)
        · rw [lg_cmp_lt] at b2
          refine Rn.iconstv (v := 0) dX12_works_442 ic_0 ?_
          exact Rn.iret (ty := .boolean) dX12_works_443 rfl rfl (hQ.1 (Or.inr b2) _ rfl (fun k h => sI_ne h) (fun j h => by show (sL (sI M 149 (upd (M.1 149) 54 (nI (m + 1)))) 185 (vp_updL (M.2.1 185) m 1)).1 149 j = _; rw [show (sL (sI M 149 (upd (M.1 149) 54 (nI (m + 1)))) 185 (vp_updL (M.2.1 185) m 1)).1 149 = upd (M.1 149) 54 (nI (m + 1)) from rfl, pk_un h]) (fun k h => by show (if k = 185 then _ else M.2.1 k) = _; rw [if_neg h]))
        · rw [lg_cmp_lt] at b2
          refine Rn.iconstv (v := 1) dX12_works_438 ic_1 ?_
          refine Rn.goto dX12_works_439 ?_
          exact Rn.iret (ty := .boolean) dX12_works_443 rfl rfl (hQ.2 (fun h => h.elim b1 b2) _ rfl (fun k h => sI_ne h) (fun j h => by show (sL (sI M 149 (upd (M.1 149) 54 (nI (m + 1)))) 185 (vp_updL (M.2.1 185) m 1)).1 149 j = _; rw [show (sL (sI M 149 (upd (M.1 149) 54 (nI (m + 1)))) 185 (vp_updL (M.2.1 185) m 1)).1 149 = upd (M.1 149) 54 (nI (m + 1)) from rfl, pk_un h]) (fun k h => by show (if k = 185 then _ else M.2.1 k) = _; rw [if_neg h]) rfl (by show rp (vp_updL (M.2.1 185) m 1) _; rw [← hm]; exact rp_push hrr))
  · skip
    exact absurd h16 (by decide)
theorem tX12_works31 {G : Gx} {l : Launch} {ly : Ly} {M : Mm} {m : Nat} {x y : Int64} {r : List Int64} (hm : r.length = m) (hm62 : m ≤ 62) (h54 : M.1 149 54 = nI (m + 2)) (hrp : rp (M.2.1 185) (y :: x :: r)) (hR : RW ly M.2.2) {Q : Qt} (hQ : (jnB (jnL 31 x y) → ∀ K : Mm, K.2.2 = M.2.2 → (∀ k, k ≠ 149 → K.1 k = M.1 k) → (∀ j, j ≠ 54 → K.1 149 j = M.1 149 j) → (∀ k, k ≠ 185 → K.2.1 k = M.2.1 k) → Q (some (.int 0)) ly K) ∧ (¬ jnB (jnL 31 x y) → ∀ K : Mm, K.2.2 = M.2.2 → (∀ k, k ≠ 149 → K.1 k = M.1 k) → (∀ j, j ≠ 54 → K.1 149 j = M.1 149 j) → (∀ k, k ≠ 185 → K.2.1 k = M.2.1 k) → K.1 149 54 = nI (m + 1) → rp (K.2.1 185) (jnL 31 x y :: r) → Q (some (.int 1)) ly K)) : Mt G l mX12_works (2, 0, 0, false) [.ref 149, .int 43] ly M Q := by
  have hy : M.2.1 185 (m + 1) = y := by rw [← hm]; exact hrp.1
  have hx : M.2.1 185 m = x := by rw [← hm]; exact hrp.2.1
  have hrr : rp (M.2.1 185) r := hrp.2.2
  clear hrp
  refine Mt.of (lv := [some (.ref 149), some (.int 43), none, none, none, none, none, none]) rfl ?_
  refine Rn.aload_n dX12_works_0 rfl ?_
  refine Rn.getR dX12_works_1 fX12_123 rfl (rc149 hR) (show M.2.2 149 53 = some 185 from (rpt53 hR)) ?_
  refine Rn.aload_n dX12_works_4 rfl ?_
  refine Rn.getI dX12_works_5 fX12_354 rfl (rc149 hR) ?_
  refine Rn.topI (y := nI (m + 2)) (h54) ?_
  refine Rn.iconstv (v := 1) dX12_works_8 ic_1 ?_
  refine Rn.isub dX12_works_9 ?_
  refine Rn.topI (y := nI (m + 1)) (nI_subk (m + 1) 1) ?_
  refine Rn.laldN (k0 := (m + 1)) dX12_works_10 (rc185 hR) (by omega) (by decide) ?_
  refine Rn.topL (y := y) (hy) ?_
  refine Rn.lstore_n (lv' := [some (.ref 149), some (.int 43), some (.long y), none, none, none, none, none]) dX12_works_11 (by decide) rfl ?_
  refine Rn.iload_n dX12_works_12 rfl ?_
  refine Rn.sipushv (v := 260) dX12_works_13 sp_260 ?_
  refine Rn.icmp_ne dX12_works_16 (fun h16 => ?_) (fun h16 => ?_)
  · skip
    refine Rn.aload_n dX12_works_46 rfl ?_
    refine Rn.getR dX12_works_47 fX12_123 rfl (rc149 hR) (show M.2.2 149 53 = some 185 from (rpt53 hR)) ?_
    refine Rn.aload_n dX12_works_50 rfl ?_
    refine Rn.getI dX12_works_51 fX12_354 rfl (rc149 hR) ?_
    refine Rn.topI (y := nI (m + 2)) (h54) ?_
    refine Rn.iconstv (v := 2) dX12_works_54 ic_2 ?_
    refine Rn.isub dX12_works_55 ?_
    refine Rn.topI (y := nI m) (nI_subk m 2) ?_
    refine Rn.laldN (k0 := m) dX12_works_56 (rc185 hR) (by omega) (by decide) ?_
    refine Rn.topL (y := x) (hx) ?_
    refine Rn.lstore (lv' := [some (.ref 149), some (.int 43), some (.long y), none, some (.long x), none, none, none]) dX12_works_57 (by decide) rfl ?_
    refine Rn.aload_n dX12_works_59 rfl ?_
    refine Rn.dup dX12_works_60 rfl ?_
    refine Rn.getI dX12_works_61 fX12_354 rfl (rc149 hR) ?_
    refine Rn.topI (y := nI (m + 2)) (h54) ?_
    refine Rn.iconstv (v := 1) dX12_works_64 ic_1 ?_
    refine Rn.isub dX12_works_65 ?_
    refine Rn.topI (y := nI (m + 1)) (nI_subk (m + 1) 1) ?_
    refine Rn.putI dX12_works_66 fX12_354 rfl rfl rfl (rc149 hR) ?_
    refine Rn.iload_n dX12_works_69 rfl ?_
    refine Rn.lookup (off := 98) (tgt := 168) dX12_works_70 (by decide) (by decide) (by decide) ?_
    refine Rn.lload dX12_works_168 rfl ?_
    refine Rn.lload_n dX12_works_170 rfl ?_
    refine Rn.ladd dX12_works_171 ?_
    refine Rn.lstore (lv' := [some (.ref 149), some (.int 43), some (.long y), none, some (.long x), none, some (.long (x + y)), none]) dX12_works_172 (by decide) rfl ?_
    refine Rn.goto dX12_works_174 ?_
    have hv : jnL 31 x y = x + y := by rw [jn31]
    rw [hv] at hQ
    refine Rn.aload_n dX12_works_407 rfl ?_
    refine Rn.getR dX12_works_408 fX12_123 rfl (rc149 hR) (show M.2.2 149 53 = some 185 from (rpt53 hR)) ?_
    refine Rn.aload_n dX12_works_411 rfl ?_
    refine Rn.getI dX12_works_412 fX12_354 rfl (rc149 hR) ?_
    refine Rn.iconstv (v := 1) dX12_works_415 ic_1 ?_
    refine Rn.isub dX12_works_416 ?_
    refine Rn.topI (y := nI m) (nI_subk m 1) ?_
    refine Rn.lload dX12_works_417 rfl ?_
    refine Rn.lastN (k0 := m) dX12_works_419 (rc185 hR) (by omega) (by decide) ?_
    refine Rn.lload dX12_works_420 rfl ?_
    refine Rn.ldc2 dX12_works_422 kX12_365 ?_
    refine Rn.lcmp dX12_works_425 ?_
    refine Rn.if_gt dX12_works_426 (fun b1 => ?_) (fun b1 => ?_)
    · rw [lg_cmp_gt] at b1
      refine Rn.iconstv (v := 0) dX12_works_442 ic_0 ?_
      exact Rn.iret (ty := .boolean) dX12_works_443 rfl rfl (hQ.1 (Or.inl b1) _ rfl (fun k h => sI_ne h) (fun j h => by show (sL (sI M 149 (upd (M.1 149) 54 (nI (m + 1)))) 185 (vp_updL (M.2.1 185) m (x + y))).1 149 j = _; rw [show (sL (sI M 149 (upd (M.1 149) 54 (nI (m + 1)))) 185 (vp_updL (M.2.1 185) m (x + y))).1 149 = upd (M.1 149) 54 (nI (m + 1)) from rfl, pk_un h]) (fun k h => by show (if k = 185 then _ else M.2.1 k) = _; rw [if_neg h]))
    · rw [lg_cmp_gt] at b1
      refine Rn.lload dX12_works_429 rfl ?_
      refine Rn.ldc2 dX12_works_431 kX12_367 ?_
      refine Rn.lcmp dX12_works_434 ?_
      refine Rn.if_lt dX12_works_435 (fun b2 => ?_) (fun b2 => ?_)
      · rw [lg_cmp_lt] at b2
        refine Rn.iconstv (v := 0) dX12_works_442 ic_0 ?_
        exact Rn.iret (ty := .boolean) dX12_works_443 rfl rfl (hQ.1 (Or.inr b2) _ rfl (fun k h => sI_ne h) (fun j h => by show (sL (sI M 149 (upd (M.1 149) 54 (nI (m + 1)))) 185 (vp_updL (M.2.1 185) m (x + y))).1 149 j = _; rw [show (sL (sI M 149 (upd (M.1 149) 54 (nI (m + 1)))) 185 (vp_updL (M.2.1 185) m (x + y))).1 149 = upd (M.1 149) 54 (nI (m + 1)) from rfl, pk_un h]) (fun k h => by show (if k = 185 then _ else M.2.1 k) = _; rw [if_neg h]))
      · rw [lg_cmp_lt] at b2
        refine Rn.iconstv (v := 1) dX12_works_438 ic_1 ?_
        refine Rn.goto dX12_works_439 ?_
        exact Rn.iret (ty := .boolean) dX12_works_443 rfl rfl (hQ.2 (fun h => h.elim b1 b2) _ rfl (fun k h => sI_ne h) (fun j h => by show (sL (sI M 149 (upd (M.1 149) 54 (nI (m + 1)))) 185 (vp_updL (M.2.1 185) m (x + y))).1 149 j = _; rw [show (sL (sI M 149 (upd (M.1 149) 54 (nI (m + 1)))) 185 (vp_updL (M.2.1 185) m (x + y))).1 149 = upd (M.1 149) 54 (nI (m + 1)) from rfl, pk_un h]) (fun k h => by show (if k = 185 then _ else M.2.1 k) = _; rw [if_neg h]) rfl (by show rp (vp_updL (M.2.1 185) m (x + y)) _; rw [← hm]; exact rp_push hrr))
  · skip
    exact absurd h16 (by decide)
theorem tX12_works32 {G : Gx} {l : Launch} {ly : Ly} {M : Mm} {m : Nat} {x y : Int64} {r : List Int64} (hm : r.length = m) (hm62 : m ≤ 62) (h54 : M.1 149 54 = nI (m + 2)) (hrp : rp (M.2.1 185) (y :: x :: r)) (hR : RW ly M.2.2) {Q : Qt} (hQ : (jnB (jnL 32 x y) → ∀ K : Mm, K.2.2 = M.2.2 → (∀ k, k ≠ 149 → K.1 k = M.1 k) → (∀ j, j ≠ 54 → K.1 149 j = M.1 149 j) → (∀ k, k ≠ 185 → K.2.1 k = M.2.1 k) → Q (some (.int 0)) ly K) ∧ (¬ jnB (jnL 32 x y) → ∀ K : Mm, K.2.2 = M.2.2 → (∀ k, k ≠ 149 → K.1 k = M.1 k) → (∀ j, j ≠ 54 → K.1 149 j = M.1 149 j) → (∀ k, k ≠ 185 → K.2.1 k = M.2.1 k) → K.1 149 54 = nI (m + 1) → rp (K.2.1 185) (jnL 32 x y :: r) → Q (some (.int 1)) ly K)) : Mt G l mX12_works (2, 0, 0, false) [.ref 149, .int 45] ly M Q := by
  have hy : M.2.1 185 (m + 1) = y := by rw [← hm]; exact hrp.1
  have hx : M.2.1 185 m = x := by rw [← hm]; exact hrp.2.1
  have hrr : rp (M.2.1 185) r := hrp.2.2
  clear hrp
  refine Mt.of (lv := [some (.ref 149), some (.int 45), none, none, none, none, none, none]) rfl ?_
  refine Rn.aload_n dX12_works_0 rfl ?_
  refine Rn.getR dX12_works_1 fX12_123 rfl (rc149 hR) (show M.2.2 149 53 = some 185 from (rpt53 hR)) ?_
  refine Rn.aload_n dX12_works_4 rfl ?_
  refine Rn.getI dX12_works_5 fX12_354 rfl (rc149 hR) ?_
  refine Rn.topI (y := nI (m + 2)) (h54) ?_
  refine Rn.iconstv (v := 1) dX12_works_8 ic_1 ?_
  refine Rn.isub dX12_works_9 ?_
  refine Rn.topI (y := nI (m + 1)) (nI_subk (m + 1) 1) ?_
  refine Rn.laldN (k0 := (m + 1)) dX12_works_10 (rc185 hR) (by omega) (by decide) ?_
  refine Rn.topL (y := y) (hy) ?_
  refine Rn.lstore_n (lv' := [some (.ref 149), some (.int 45), some (.long y), none, none, none, none, none]) dX12_works_11 (by decide) rfl ?_
  refine Rn.iload_n dX12_works_12 rfl ?_
  refine Rn.sipushv (v := 260) dX12_works_13 sp_260 ?_
  refine Rn.icmp_ne dX12_works_16 (fun h16 => ?_) (fun h16 => ?_)
  · skip
    refine Rn.aload_n dX12_works_46 rfl ?_
    refine Rn.getR dX12_works_47 fX12_123 rfl (rc149 hR) (show M.2.2 149 53 = some 185 from (rpt53 hR)) ?_
    refine Rn.aload_n dX12_works_50 rfl ?_
    refine Rn.getI dX12_works_51 fX12_354 rfl (rc149 hR) ?_
    refine Rn.topI (y := nI (m + 2)) (h54) ?_
    refine Rn.iconstv (v := 2) dX12_works_54 ic_2 ?_
    refine Rn.isub dX12_works_55 ?_
    refine Rn.topI (y := nI m) (nI_subk m 2) ?_
    refine Rn.laldN (k0 := m) dX12_works_56 (rc185 hR) (by omega) (by decide) ?_
    refine Rn.topL (y := x) (hx) ?_
    refine Rn.lstore (lv' := [some (.ref 149), some (.int 45), some (.long y), none, some (.long x), none, none, none]) dX12_works_57 (by decide) rfl ?_
    refine Rn.aload_n dX12_works_59 rfl ?_
    refine Rn.dup dX12_works_60 rfl ?_
    refine Rn.getI dX12_works_61 fX12_354 rfl (rc149 hR) ?_
    refine Rn.topI (y := nI (m + 2)) (h54) ?_
    refine Rn.iconstv (v := 1) dX12_works_64 ic_1 ?_
    refine Rn.isub dX12_works_65 ?_
    refine Rn.topI (y := nI (m + 1)) (nI_subk (m + 1) 1) ?_
    refine Rn.putI dX12_works_66 fX12_354 rfl rfl rfl (rc149 hR) ?_
    refine Rn.iload_n dX12_works_69 rfl ?_
    refine Rn.lookup (off := 107) (tgt := 177) dX12_works_70 (by decide) (by decide) (by decide) ?_
    refine Rn.lload dX12_works_177 rfl ?_
    refine Rn.lload_n dX12_works_179 rfl ?_
    refine Rn.lsub dX12_works_180 ?_
    refine Rn.lstore (lv' := [some (.ref 149), some (.int 45), some (.long y), none, some (.long x), none, some (.long (x - y)), none]) dX12_works_181 (by decide) rfl ?_
    refine Rn.goto dX12_works_183 ?_
    have hv : jnL 32 x y = x - y := by rw [jn32]
    rw [hv] at hQ
    refine Rn.aload_n dX12_works_407 rfl ?_
    refine Rn.getR dX12_works_408 fX12_123 rfl (rc149 hR) (show M.2.2 149 53 = some 185 from (rpt53 hR)) ?_
    refine Rn.aload_n dX12_works_411 rfl ?_
    refine Rn.getI dX12_works_412 fX12_354 rfl (rc149 hR) ?_
    refine Rn.iconstv (v := 1) dX12_works_415 ic_1 ?_
    refine Rn.isub dX12_works_416 ?_
    refine Rn.topI (y := nI m) (nI_subk m 1) ?_
    refine Rn.lload dX12_works_417 rfl ?_
    refine Rn.lastN (k0 := m) dX12_works_419 (rc185 hR) (by omega) (by decide) ?_
    refine Rn.lload dX12_works_420 rfl ?_
    refine Rn.ldc2 dX12_works_422 kX12_365 ?_
    refine Rn.lcmp dX12_works_425 ?_
    refine Rn.if_gt dX12_works_426 (fun b1 => ?_) (fun b1 => ?_)
    · rw [lg_cmp_gt] at b1
      refine Rn.iconstv (v := 0) dX12_works_442 ic_0 ?_
      exact Rn.iret (ty := .boolean) dX12_works_443 rfl rfl (hQ.1 (Or.inl b1) _ rfl (fun k h => sI_ne h) (fun j h => by show (sL (sI M 149 (upd (M.1 149) 54 (nI (m + 1)))) 185 (vp_updL (M.2.1 185) m (x - y))).1 149 j = _; rw [show (sL (sI M 149 (upd (M.1 149) 54 (nI (m + 1)))) 185 (vp_updL (M.2.1 185) m (x - y))).1 149 = upd (M.1 149) 54 (nI (m + 1)) from rfl, pk_un h]) (fun k h => by show (if k = 185 then _ else M.2.1 k) = _; rw [if_neg h]))
    · rw [lg_cmp_gt] at b1
      refine Rn.lload dX12_works_429 rfl ?_
      refine Rn.ldc2 dX12_works_431 kX12_367 ?_
      refine Rn.lcmp dX12_works_434 ?_
      refine Rn.if_lt dX12_works_435 (fun b2 => ?_) (fun b2 => ?_)
      · rw [lg_cmp_lt] at b2
        refine Rn.iconstv (v := 0) dX12_works_442 ic_0 ?_
        exact Rn.iret (ty := .boolean) dX12_works_443 rfl rfl (hQ.1 (Or.inr b2) _ rfl (fun k h => sI_ne h) (fun j h => by show (sL (sI M 149 (upd (M.1 149) 54 (nI (m + 1)))) 185 (vp_updL (M.2.1 185) m (x - y))).1 149 j = _; rw [show (sL (sI M 149 (upd (M.1 149) 54 (nI (m + 1)))) 185 (vp_updL (M.2.1 185) m (x - y))).1 149 = upd (M.1 149) 54 (nI (m + 1)) from rfl, pk_un h]) (fun k h => by show (if k = 185 then _ else M.2.1 k) = _; rw [if_neg h]))
      · rw [lg_cmp_lt] at b2
        refine Rn.iconstv (v := 1) dX12_works_438 ic_1 ?_
        refine Rn.goto dX12_works_439 ?_
        exact Rn.iret (ty := .boolean) dX12_works_443 rfl rfl (hQ.2 (fun h => h.elim b1 b2) _ rfl (fun k h => sI_ne h) (fun j h => by show (sL (sI M 149 (upd (M.1 149) 54 (nI (m + 1)))) 185 (vp_updL (M.2.1 185) m (x - y))).1 149 j = _; rw [show (sL (sI M 149 (upd (M.1 149) 54 (nI (m + 1)))) 185 (vp_updL (M.2.1 185) m (x - y))).1 149 = upd (M.1 149) 54 (nI (m + 1)) from rfl, pk_un h]) (fun k h => by show (if k = 185 then _ else M.2.1 k) = _; rw [if_neg h]) rfl (by show rp (vp_updL (M.2.1 185) m (x - y)) _; rw [← hm]; exact rp_push hrr))
  · skip
    exact absurd h16 (by decide)
theorem tX12_works33 {G : Gx} {l : Launch} {ly : Ly} {M : Mm} {m : Nat} {x y : Int64} {r : List Int64} (hm : r.length = m) (hm62 : m ≤ 62) (h54 : M.1 149 54 = nI (m + 2)) (hrp : rp (M.2.1 185) (y :: x :: r)) (hR : RW ly M.2.2) {Q : Qt} (hQ : (jnB (jnL 33 x y) → ∀ K : Mm, K.2.2 = M.2.2 → (∀ k, k ≠ 149 → K.1 k = M.1 k) → (∀ j, j ≠ 54 → K.1 149 j = M.1 149 j) → (∀ k, k ≠ 185 → K.2.1 k = M.2.1 k) → Q (some (.int 0)) ly K) ∧ (¬ jnB (jnL 33 x y) → ∀ K : Mm, K.2.2 = M.2.2 → (∀ k, k ≠ 149 → K.1 k = M.1 k) → (∀ j, j ≠ 54 → K.1 149 j = M.1 149 j) → (∀ k, k ≠ 185 → K.2.1 k = M.2.1 k) → K.1 149 54 = nI (m + 1) → rp (K.2.1 185) (jnL 33 x y :: r) → Q (some (.int 1)) ly K)) : Mt G l mX12_works (2, 0, 0, false) [.ref 149, .int 42] ly M Q := by
  have hy : M.2.1 185 (m + 1) = y := by rw [← hm]; exact hrp.1
  have hx : M.2.1 185 m = x := by rw [← hm]; exact hrp.2.1
  have hrr : rp (M.2.1 185) r := hrp.2.2
  clear hrp
  refine Mt.of (lv := [some (.ref 149), some (.int 42), none, none, none, none, none, none]) rfl ?_
  refine Rn.aload_n dX12_works_0 rfl ?_
  refine Rn.getR dX12_works_1 fX12_123 rfl (rc149 hR) (show M.2.2 149 53 = some 185 from (rpt53 hR)) ?_
  refine Rn.aload_n dX12_works_4 rfl ?_
  refine Rn.getI dX12_works_5 fX12_354 rfl (rc149 hR) ?_
  refine Rn.topI (y := nI (m + 2)) (h54) ?_
  refine Rn.iconstv (v := 1) dX12_works_8 ic_1 ?_
  refine Rn.isub dX12_works_9 ?_
  refine Rn.topI (y := nI (m + 1)) (nI_subk (m + 1) 1) ?_
  refine Rn.laldN (k0 := (m + 1)) dX12_works_10 (rc185 hR) (by omega) (by decide) ?_
  refine Rn.topL (y := y) (hy) ?_
  refine Rn.lstore_n (lv' := [some (.ref 149), some (.int 42), some (.long y), none, none, none, none, none]) dX12_works_11 (by decide) rfl ?_
  refine Rn.iload_n dX12_works_12 rfl ?_
  refine Rn.sipushv (v := 260) dX12_works_13 sp_260 ?_
  refine Rn.icmp_ne dX12_works_16 (fun h16 => ?_) (fun h16 => ?_)
  · skip
    refine Rn.aload_n dX12_works_46 rfl ?_
    refine Rn.getR dX12_works_47 fX12_123 rfl (rc149 hR) (show M.2.2 149 53 = some 185 from (rpt53 hR)) ?_
    refine Rn.aload_n dX12_works_50 rfl ?_
    refine Rn.getI dX12_works_51 fX12_354 rfl (rc149 hR) ?_
    refine Rn.topI (y := nI (m + 2)) (h54) ?_
    refine Rn.iconstv (v := 2) dX12_works_54 ic_2 ?_
    refine Rn.isub dX12_works_55 ?_
    refine Rn.topI (y := nI m) (nI_subk m 2) ?_
    refine Rn.laldN (k0 := m) dX12_works_56 (rc185 hR) (by omega) (by decide) ?_
    refine Rn.topL (y := x) (hx) ?_
    refine Rn.lstore (lv' := [some (.ref 149), some (.int 42), some (.long y), none, some (.long x), none, none, none]) dX12_works_57 (by decide) rfl ?_
    refine Rn.aload_n dX12_works_59 rfl ?_
    refine Rn.dup dX12_works_60 rfl ?_
    refine Rn.getI dX12_works_61 fX12_354 rfl (rc149 hR) ?_
    refine Rn.topI (y := nI (m + 2)) (h54) ?_
    refine Rn.iconstv (v := 1) dX12_works_64 ic_1 ?_
    refine Rn.isub dX12_works_65 ?_
    refine Rn.topI (y := nI (m + 1)) (nI_subk (m + 1) 1) ?_
    refine Rn.putI dX12_works_66 fX12_354 rfl rfl rfl (rc149 hR) ?_
    refine Rn.iload_n dX12_works_69 rfl ?_
    refine Rn.lookup (off := 116) (tgt := 186) dX12_works_70 (by decide) (by decide) (by decide) ?_
    refine Rn.lload dX12_works_186 rfl ?_
    refine Rn.lconstv (v := 0) dX12_works_188 rfl ?_
    refine Rn.lcmp dX12_works_189 ?_
    refine Rn.if_eq dX12_works_190 (fun h190 => ?_) (fun h190 => ?_)
    · rw [lg_cmp_eq] at h190
      refine Rn.lload dX12_works_212 rfl ?_
      refine Rn.lload_n dX12_works_214 rfl ?_
      refine Rn.lmul dX12_works_215 ?_
      refine Rn.lstore (lv' := [some (.ref 149), some (.int 42), some (.long y), none, some (.long x), none, some (.long (x * y)), none]) dX12_works_216 (by decide) rfl ?_
      refine Rn.goto dX12_works_218 ?_
      have hv : jnL 33 x y = x * y := by rw [jn33]; simp only [h190, ↓reduceIte]
      rw [hv] at hQ
      refine Rn.aload_n dX12_works_407 rfl ?_
      refine Rn.getR dX12_works_408 fX12_123 rfl (rc149 hR) (show M.2.2 149 53 = some 185 from (rpt53 hR)) ?_
      refine Rn.aload_n dX12_works_411 rfl ?_
      refine Rn.getI dX12_works_412 fX12_354 rfl (rc149 hR) ?_
      refine Rn.iconstv (v := 1) dX12_works_415 ic_1 ?_
      refine Rn.isub dX12_works_416 ?_
      refine Rn.topI (y := nI m) (nI_subk m 1) ?_
      refine Rn.lload dX12_works_417 rfl ?_
      refine Rn.lastN (k0 := m) dX12_works_419 (rc185 hR) (by omega) (by decide) ?_
      refine Rn.lload dX12_works_420 rfl ?_
      refine Rn.ldc2 dX12_works_422 kX12_365 ?_
      refine Rn.lcmp dX12_works_425 ?_
      refine Rn.if_gt dX12_works_426 (fun b1 => ?_) (fun b1 => ?_)
      · rw [lg_cmp_gt] at b1
        refine Rn.iconstv (v := 0) dX12_works_442 ic_0 ?_
        exact Rn.iret (ty := .boolean) dX12_works_443 rfl rfl (hQ.1 (Or.inl b1) _ rfl (fun k h => sI_ne h) (fun j h => by show (sL (sI M 149 (upd (M.1 149) 54 (nI (m + 1)))) 185 (vp_updL (M.2.1 185) m (x * y))).1 149 j = _; rw [show (sL (sI M 149 (upd (M.1 149) 54 (nI (m + 1)))) 185 (vp_updL (M.2.1 185) m (x * y))).1 149 = upd (M.1 149) 54 (nI (m + 1)) from rfl, pk_un h]) (fun k h => by show (if k = 185 then _ else M.2.1 k) = _; rw [if_neg h]))
      · rw [lg_cmp_gt] at b1
        refine Rn.lload dX12_works_429 rfl ?_
        refine Rn.ldc2 dX12_works_431 kX12_367 ?_
        refine Rn.lcmp dX12_works_434 ?_
        refine Rn.if_lt dX12_works_435 (fun b2 => ?_) (fun b2 => ?_)
        · rw [lg_cmp_lt] at b2
          refine Rn.iconstv (v := 0) dX12_works_442 ic_0 ?_
          exact Rn.iret (ty := .boolean) dX12_works_443 rfl rfl (hQ.1 (Or.inr b2) _ rfl (fun k h => sI_ne h) (fun j h => by show (sL (sI M 149 (upd (M.1 149) 54 (nI (m + 1)))) 185 (vp_updL (M.2.1 185) m (x * y))).1 149 j = _; rw [show (sL (sI M 149 (upd (M.1 149) 54 (nI (m + 1)))) 185 (vp_updL (M.2.1 185) m (x * y))).1 149 = upd (M.1 149) 54 (nI (m + 1)) from rfl, pk_un h]) (fun k h => by show (if k = 185 then _ else M.2.1 k) = _; rw [if_neg h]))
        · rw [lg_cmp_lt] at b2
          refine Rn.iconstv (v := 1) dX12_works_438 ic_1 ?_
          refine Rn.goto dX12_works_439 ?_
          exact Rn.iret (ty := .boolean) dX12_works_443 rfl rfl (hQ.2 (fun h => h.elim b1 b2) _ rfl (fun k h => sI_ne h) (fun j h => by show (sL (sI M 149 (upd (M.1 149) 54 (nI (m + 1)))) 185 (vp_updL (M.2.1 185) m (x * y))).1 149 j = _; rw [show (sL (sI M 149 (upd (M.1 149) 54 (nI (m + 1)))) 185 (vp_updL (M.2.1 185) m (x * y))).1 149 = upd (M.1 149) 54 (nI (m + 1)) from rfl, pk_un h]) (fun k h => by show (if k = 185 then _ else M.2.1 k) = _; rw [if_neg h]) rfl (by show rp (vp_updL (M.2.1 185) m (x * y)) _; rw [← hm]; exact rp_push hrr))
    · rw [lg_cmp_eq] at h190
      refine Rn.lload_n dX12_works_193 rfl ?_
      refine Rn.mabsL dX12_works_194 jX12_361 jw_mabsL ⟨(Nat.le_of_ble_eq_true rfl), (Nat.le_of_ble_eq_true rfl)⟩ ?_
      refine Rn.ldc2 dX12_works_197 kX12_365 ?_
      refine Rn.lload dX12_works_200 rfl ?_
      refine Rn.mabsL dX12_works_202 jX12_361 jw_mabsL ⟨(Nat.le_of_ble_eq_true rfl), (Nat.le_of_ble_eq_true rfl)⟩ ?_
      refine Rn.ldiv dX12_works_205 (abL_ne h190) ?_
      refine Rn.lcmp dX12_works_206 ?_
      refine Rn.if_le dX12_works_207 (fun h207 => ?_) (fun h207 => ?_)
      · rw [lg_cmp_le] at h207
        refine Rn.lload dX12_works_212 rfl ?_
        refine Rn.lload_n dX12_works_214 rfl ?_
        refine Rn.lmul dX12_works_215 ?_
        refine Rn.lstore (lv' := [some (.ref 149), some (.int 42), some (.long y), none, some (.long x), none, some (.long (x * y)), none]) dX12_works_216 (by decide) rfl ?_
        refine Rn.goto dX12_works_218 ?_
        have hv : jnL 33 x y = x * y := by rw [jn33]; simp only [h190, h207, ↓reduceIte]
        rw [hv] at hQ
        refine Rn.aload_n dX12_works_407 rfl ?_
        refine Rn.getR dX12_works_408 fX12_123 rfl (rc149 hR) (show M.2.2 149 53 = some 185 from (rpt53 hR)) ?_
        refine Rn.aload_n dX12_works_411 rfl ?_
        refine Rn.getI dX12_works_412 fX12_354 rfl (rc149 hR) ?_
        refine Rn.iconstv (v := 1) dX12_works_415 ic_1 ?_
        refine Rn.isub dX12_works_416 ?_
        refine Rn.topI (y := nI m) (nI_subk m 1) ?_
        refine Rn.lload dX12_works_417 rfl ?_
        refine Rn.lastN (k0 := m) dX12_works_419 (rc185 hR) (by omega) (by decide) ?_
        refine Rn.lload dX12_works_420 rfl ?_
        refine Rn.ldc2 dX12_works_422 kX12_365 ?_
        refine Rn.lcmp dX12_works_425 ?_
        refine Rn.if_gt dX12_works_426 (fun b1 => ?_) (fun b1 => ?_)
        · rw [lg_cmp_gt] at b1
          refine Rn.iconstv (v := 0) dX12_works_442 ic_0 ?_
          exact Rn.iret (ty := .boolean) dX12_works_443 rfl rfl (hQ.1 (Or.inl b1) _ rfl (fun k h => sI_ne h) (fun j h => by show (sL (sI M 149 (upd (M.1 149) 54 (nI (m + 1)))) 185 (vp_updL (M.2.1 185) m (x * y))).1 149 j = _; rw [show (sL (sI M 149 (upd (M.1 149) 54 (nI (m + 1)))) 185 (vp_updL (M.2.1 185) m (x * y))).1 149 = upd (M.1 149) 54 (nI (m + 1)) from rfl, pk_un h]) (fun k h => by show (if k = 185 then _ else M.2.1 k) = _; rw [if_neg h]))
        · rw [lg_cmp_gt] at b1
          refine Rn.lload dX12_works_429 rfl ?_
          refine Rn.ldc2 dX12_works_431 kX12_367 ?_
          refine Rn.lcmp dX12_works_434 ?_
          refine Rn.if_lt dX12_works_435 (fun b2 => ?_) (fun b2 => ?_)
          · rw [lg_cmp_lt] at b2
            refine Rn.iconstv (v := 0) dX12_works_442 ic_0 ?_
            exact Rn.iret (ty := .boolean) dX12_works_443 rfl rfl (hQ.1 (Or.inr b2) _ rfl (fun k h => sI_ne h) (fun j h => by show (sL (sI M 149 (upd (M.1 149) 54 (nI (m + 1)))) 185 (vp_updL (M.2.1 185) m (x * y))).1 149 j = _; rw [show (sL (sI M 149 (upd (M.1 149) 54 (nI (m + 1)))) 185 (vp_updL (M.2.1 185) m (x * y))).1 149 = upd (M.1 149) 54 (nI (m + 1)) from rfl, pk_un h]) (fun k h => by show (if k = 185 then _ else M.2.1 k) = _; rw [if_neg h]))
          · rw [lg_cmp_lt] at b2
            refine Rn.iconstv (v := 1) dX12_works_438 ic_1 ?_
            refine Rn.goto dX12_works_439 ?_
            exact Rn.iret (ty := .boolean) dX12_works_443 rfl rfl (hQ.2 (fun h => h.elim b1 b2) _ rfl (fun k h => sI_ne h) (fun j h => by show (sL (sI M 149 (upd (M.1 149) 54 (nI (m + 1)))) 185 (vp_updL (M.2.1 185) m (x * y))).1 149 j = _; rw [show (sL (sI M 149 (upd (M.1 149) 54 (nI (m + 1)))) 185 (vp_updL (M.2.1 185) m (x * y))).1 149 = upd (M.1 149) 54 (nI (m + 1)) from rfl, pk_un h]) (fun k h => by show (if k = 185 then _ else M.2.1 k) = _; rw [if_neg h]) rfl (by show rp (vp_updL (M.2.1 185) m (x * y)) _; rw [← hm]; exact rp_push hrr))
      · rw [lg_cmp_le] at h207
        refine Rn.iconstv (v := 0) dX12_works_210 ic_0 ?_
        have hv : jnL 33 x y = erL := by rw [jn33]; simp only [h190, h207, ↓reduceIte]
        exact Rn.iret (ty := .boolean) dX12_works_211 rfl rfl (hQ.1 (by rw [hv]; exact erL_bad) _ rfl (fun k h => sI_ne h) (fun j h => by show (sI M 149 (upd (M.1 149) 54 (nI (m + 1)))).1 149 j = _; rw [show (sI M 149 (upd (M.1 149) 54 (nI (m + 1)))).1 149 = upd (M.1 149) 54 (nI (m + 1)) from rfl, pk_un h]) (fun k h => rfl))
  · skip
    exact absurd h16 (by decide)
theorem tX12_works34 {G : Gx} {l : Launch} {ly : Ly} {M : Mm} {m : Nat} {x y : Int64} {r : List Int64} (hm : r.length = m) (hm62 : m ≤ 62) (h54 : M.1 149 54 = nI (m + 2)) (hrp : rp (M.2.1 185) (y :: x :: r)) (hR : RW ly M.2.2) {Q : Qt} (hQ : (jnB (jnL 34 x y) → ∀ K : Mm, K.2.2 = M.2.2 → (∀ k, k ≠ 149 → K.1 k = M.1 k) → (∀ j, j ≠ 54 → K.1 149 j = M.1 149 j) → (∀ k, k ≠ 185 → K.2.1 k = M.2.1 k) → Q (some (.int 0)) ly K) ∧ (¬ jnB (jnL 34 x y) → ∀ K : Mm, K.2.2 = M.2.2 → (∀ k, k ≠ 149 → K.1 k = M.1 k) → (∀ j, j ≠ 54 → K.1 149 j = M.1 149 j) → (∀ k, k ≠ 185 → K.2.1 k = M.2.1 k) → K.1 149 54 = nI (m + 1) → rp (K.2.1 185) (jnL 34 x y :: r) → Q (some (.int 1)) ly K)) : Mt G l mX12_works (2, 0, 0, false) [.ref 149, .int 47] ly M Q := by
  have hy : M.2.1 185 (m + 1) = y := by rw [← hm]; exact hrp.1
  have hx : M.2.1 185 m = x := by rw [← hm]; exact hrp.2.1
  have hrr : rp (M.2.1 185) r := hrp.2.2
  clear hrp
  refine Mt.of (lv := [some (.ref 149), some (.int 47), none, none, none, none, none, none]) rfl ?_
  refine Rn.aload_n dX12_works_0 rfl ?_
  refine Rn.getR dX12_works_1 fX12_123 rfl (rc149 hR) (show M.2.2 149 53 = some 185 from (rpt53 hR)) ?_
  refine Rn.aload_n dX12_works_4 rfl ?_
  refine Rn.getI dX12_works_5 fX12_354 rfl (rc149 hR) ?_
  refine Rn.topI (y := nI (m + 2)) (h54) ?_
  refine Rn.iconstv (v := 1) dX12_works_8 ic_1 ?_
  refine Rn.isub dX12_works_9 ?_
  refine Rn.topI (y := nI (m + 1)) (nI_subk (m + 1) 1) ?_
  refine Rn.laldN (k0 := (m + 1)) dX12_works_10 (rc185 hR) (by omega) (by decide) ?_
  refine Rn.topL (y := y) (hy) ?_
  refine Rn.lstore_n (lv' := [some (.ref 149), some (.int 47), some (.long y), none, none, none, none, none]) dX12_works_11 (by decide) rfl ?_
  refine Rn.iload_n dX12_works_12 rfl ?_
  refine Rn.sipushv (v := 260) dX12_works_13 sp_260 ?_
  refine Rn.icmp_ne dX12_works_16 (fun h16 => ?_) (fun h16 => ?_)
  · skip
    refine Rn.aload_n dX12_works_46 rfl ?_
    refine Rn.getR dX12_works_47 fX12_123 rfl (rc149 hR) (show M.2.2 149 53 = some 185 from (rpt53 hR)) ?_
    refine Rn.aload_n dX12_works_50 rfl ?_
    refine Rn.getI dX12_works_51 fX12_354 rfl (rc149 hR) ?_
    refine Rn.topI (y := nI (m + 2)) (h54) ?_
    refine Rn.iconstv (v := 2) dX12_works_54 ic_2 ?_
    refine Rn.isub dX12_works_55 ?_
    refine Rn.topI (y := nI m) (nI_subk m 2) ?_
    refine Rn.laldN (k0 := m) dX12_works_56 (rc185 hR) (by omega) (by decide) ?_
    refine Rn.topL (y := x) (hx) ?_
    refine Rn.lstore (lv' := [some (.ref 149), some (.int 47), some (.long y), none, some (.long x), none, none, none]) dX12_works_57 (by decide) rfl ?_
    refine Rn.aload_n dX12_works_59 rfl ?_
    refine Rn.dup dX12_works_60 rfl ?_
    refine Rn.getI dX12_works_61 fX12_354 rfl (rc149 hR) ?_
    refine Rn.topI (y := nI (m + 2)) (h54) ?_
    refine Rn.iconstv (v := 1) dX12_works_64 ic_1 ?_
    refine Rn.isub dX12_works_65 ?_
    refine Rn.topI (y := nI (m + 1)) (nI_subk (m + 1) 1) ?_
    refine Rn.putI dX12_works_66 fX12_354 rfl rfl rfl (rc149 hR) ?_
    refine Rn.iload_n dX12_works_69 rfl ?_
    refine Rn.lookup (off := 151) (tgt := 221) dX12_works_70 (by decide) (by decide) (by decide) ?_
    refine Rn.lload_n dX12_works_221 rfl ?_
    refine Rn.lconstv (v := 0) dX12_works_222 rfl ?_
    refine Rn.lcmp dX12_works_223 ?_
    refine Rn.if_ne dX12_works_224 (fun h224 => ?_) (fun h224 => ?_)
    · rw [lg_cmp_eq] at h224
      refine Rn.lload dX12_works_229 rfl ?_
      refine Rn.lload_n dX12_works_231 rfl ?_
      refine Rn.ldiv dX12_works_232 h224 ?_
      refine Rn.lstore (lv' := [some (.ref 149), some (.int 47), some (.long y), none, some (.long x), none, some (.long (x / y)), none]) dX12_works_233 (by decide) rfl ?_
      refine Rn.goto dX12_works_235 ?_
      have hv : jnL 34 x y = x / y := by rw [jn34]; simp only [h224, ↓reduceIte]
      rw [hv] at hQ
      refine Rn.aload_n dX12_works_407 rfl ?_
      refine Rn.getR dX12_works_408 fX12_123 rfl (rc149 hR) (show M.2.2 149 53 = some 185 from (rpt53 hR)) ?_
      refine Rn.aload_n dX12_works_411 rfl ?_
      refine Rn.getI dX12_works_412 fX12_354 rfl (rc149 hR) ?_
      refine Rn.iconstv (v := 1) dX12_works_415 ic_1 ?_
      refine Rn.isub dX12_works_416 ?_
      refine Rn.topI (y := nI m) (nI_subk m 1) ?_
      refine Rn.lload dX12_works_417 rfl ?_
      refine Rn.lastN (k0 := m) dX12_works_419 (rc185 hR) (by omega) (by decide) ?_
      refine Rn.lload dX12_works_420 rfl ?_
      refine Rn.ldc2 dX12_works_422 kX12_365 ?_
      refine Rn.lcmp dX12_works_425 ?_
      refine Rn.if_gt dX12_works_426 (fun b1 => ?_) (fun b1 => ?_)
      · rw [lg_cmp_gt] at b1
        refine Rn.iconstv (v := 0) dX12_works_442 ic_0 ?_
        exact Rn.iret (ty := .boolean) dX12_works_443 rfl rfl (hQ.1 (Or.inl b1) _ rfl (fun k h => sI_ne h) (fun j h => by show (sL (sI M 149 (upd (M.1 149) 54 (nI (m + 1)))) 185 (vp_updL (M.2.1 185) m (x / y))).1 149 j = _; rw [show (sL (sI M 149 (upd (M.1 149) 54 (nI (m + 1)))) 185 (vp_updL (M.2.1 185) m (x / y))).1 149 = upd (M.1 149) 54 (nI (m + 1)) from rfl, pk_un h]) (fun k h => by show (if k = 185 then _ else M.2.1 k) = _; rw [if_neg h]))
      · rw [lg_cmp_gt] at b1
        refine Rn.lload dX12_works_429 rfl ?_
        refine Rn.ldc2 dX12_works_431 kX12_367 ?_
        refine Rn.lcmp dX12_works_434 ?_
        refine Rn.if_lt dX12_works_435 (fun b2 => ?_) (fun b2 => ?_)
        · rw [lg_cmp_lt] at b2
          refine Rn.iconstv (v := 0) dX12_works_442 ic_0 ?_
          exact Rn.iret (ty := .boolean) dX12_works_443 rfl rfl (hQ.1 (Or.inr b2) _ rfl (fun k h => sI_ne h) (fun j h => by show (sL (sI M 149 (upd (M.1 149) 54 (nI (m + 1)))) 185 (vp_updL (M.2.1 185) m (x / y))).1 149 j = _; rw [show (sL (sI M 149 (upd (M.1 149) 54 (nI (m + 1)))) 185 (vp_updL (M.2.1 185) m (x / y))).1 149 = upd (M.1 149) 54 (nI (m + 1)) from rfl, pk_un h]) (fun k h => by show (if k = 185 then _ else M.2.1 k) = _; rw [if_neg h]))
        · rw [lg_cmp_lt] at b2
          refine Rn.iconstv (v := 1) dX12_works_438 ic_1 ?_
          refine Rn.goto dX12_works_439 ?_
          exact Rn.iret (ty := .boolean) dX12_works_443 rfl rfl (hQ.2 (fun h => h.elim b1 b2) _ rfl (fun k h => sI_ne h) (fun j h => by show (sL (sI M 149 (upd (M.1 149) 54 (nI (m + 1)))) 185 (vp_updL (M.2.1 185) m (x / y))).1 149 j = _; rw [show (sL (sI M 149 (upd (M.1 149) 54 (nI (m + 1)))) 185 (vp_updL (M.2.1 185) m (x / y))).1 149 = upd (M.1 149) 54 (nI (m + 1)) from rfl, pk_un h]) (fun k h => by show (if k = 185 then _ else M.2.1 k) = _; rw [if_neg h]) rfl (by show rp (vp_updL (M.2.1 185) m (x / y)) _; rw [← hm]; exact rp_push hrr))
    · rw [lg_cmp_eq] at h224
      refine Rn.iconstv (v := 0) dX12_works_227 ic_0 ?_
      have hv : jnL 34 x y = erL := by rw [jn34]; simp only [h224, ↓reduceIte]
      exact Rn.iret (ty := .boolean) dX12_works_228 rfl rfl (hQ.1 (by rw [hv]; exact erL_bad) _ rfl (fun k h => sI_ne h) (fun j h => by show (sI M 149 (upd (M.1 149) 54 (nI (m + 1)))).1 149 j = _; rw [show (sI M 149 (upd (M.1 149) 54 (nI (m + 1)))).1 149 = upd (M.1 149) 54 (nI (m + 1)) from rfl, pk_un h]) (fun k h => rfl))
  · skip
    exact absurd h16 (by decide)
theorem tX12_worksN {G : Gx} {l : Launch} {ly : Ly} {M : Mm} {m : Nat} {y : Int64} {r : List Int64} (hm : r.length = m) (hm62 : m ≤ 63) (h54 : M.1 149 54 = nI (m + 1)) (hrp : rp (M.2.1 185) (y :: r)) (hR : RW ly M.2.2) {Q : Qt} (hQ : ∀ K : Mm, K.2.2 = M.2.2 → (∀ k, k ≠ 149 → K.1 k = M.1 k) → (∀ j, j ≠ 54 → K.1 149 j = M.1 149 j) → (∀ k, k ≠ 185 → K.2.1 k = M.2.1 k) → K.1 149 54 = nI (m + 1) → rp (K.2.1 185) ((if y = 0 then 1 else 0) :: r) → Q (some (.int 1)) ly K) : Mt G l mX12_works (2, 0, 0, false) [.ref 149, .int 260] ly M Q := by
  have hy : M.2.1 185 m = y := by rw [← hm]; exact hrp.1
  have hrr : rp (M.2.1 185) r := hrp.2
  clear hrp
  refine Mt.of (lv := [some (.ref 149), some (.int 260), none, none, none, none, none, none]) rfl ?_
  refine Rn.aload_n dX12_works_0 rfl ?_
  refine Rn.getR dX12_works_1 fX12_123 rfl (rc149 hR) (show M.2.2 149 53 = some 185 from (rpt53 hR)) ?_
  refine Rn.aload_n dX12_works_4 rfl ?_
  refine Rn.getI dX12_works_5 fX12_354 rfl (rc149 hR) ?_
  refine Rn.topI (y := nI (m + 1)) (h54) ?_
  refine Rn.iconstv (v := 1) dX12_works_8 ic_1 ?_
  refine Rn.isub dX12_works_9 ?_
  refine Rn.topI (y := nI m) (nI_subk m 1) ?_
  refine Rn.laldN (k0 := m) dX12_works_10 (rc185 hR) (by omega) (by decide) ?_
  refine Rn.topL (y := y) (hy) ?_
  refine Rn.lstore_n (lv' := [some (.ref 149), some (.int 260), some (.long y), none, none, none, none, none]) dX12_works_11 (by decide) rfl ?_
  refine Rn.iload_n dX12_works_12 rfl ?_
  refine Rn.sipushv (v := 260) dX12_works_13 sp_260 ?_
  refine Rn.icmp_ne dX12_works_16 (fun h16 => ?_) (fun h16 => ?_)
  · skip
    exact absurd rfl h16
  · skip
    refine Rn.aload_n dX12_works_19 rfl ?_
    refine Rn.getR dX12_works_20 fX12_123 rfl (rc149 hR) (show M.2.2 149 53 = some 185 from (rpt53 hR)) ?_
    refine Rn.aload_n dX12_works_23 rfl ?_
    refine Rn.getI dX12_works_24 fX12_354 rfl (rc149 hR) ?_
    refine Rn.topI (y := nI (m + 1)) (h54) ?_
    refine Rn.iconstv (v := 1) dX12_works_27 ic_1 ?_
    refine Rn.isub dX12_works_28 ?_
    refine Rn.topI (y := nI m) (nI_subk m 1) ?_
    refine Rn.lload_n dX12_works_29 rfl ?_
    refine Rn.lconstv (v := 0) dX12_works_30 rfl ?_
    refine Rn.lcmp dX12_works_31 ?_
    refine Rn.if_ne dX12_works_32 (fun b1 => ?_) (fun b1 => ?_)
    · rw [lg_cmp_eq] at b1
      refine Rn.iconstv (v := 0) dX12_works_39 ic_0 ?_
      refine Rn.callS1 dX12_works_40 vX12_357 (tX12_is) (by decide) ⟨(Nat.le_of_ble_eq_true rfl), (Nat.le_of_ble_eq_true rfl), (Nat.le_of_ble_eq_true rfl)⟩ (fun h => by cases h) (fun v1 ly1 M1 ⟨q1, q2, q3⟩ => ?_)
      rw [q1, q2, q3]
      refine Rn.topL (y := 0) (isL_0) ?_
      refine Rn.lastN (k0 := m) dX12_works_43 (rc185 hR) (by omega) (by decide) ?_
      refine Rn.iconstv (v := 1) dX12_works_44 ic_1 ?_
      exact Rn.iret (ty := .boolean) dX12_works_45 rfl rfl (hQ _ rfl (fun k h => rfl) (fun j h => rfl) (fun k h => by show (if k = 185 then _ else M.2.1 k) = _; rw [if_neg h]) h54 (by rw [if_neg b1]; show rp (vp_updL (M.2.1 185) m 0) _; rw [← hm]; exact rp_push hrr))
    · rw [lg_cmp_eq] at b1
      refine Rn.iconstv (v := 1) dX12_works_35 ic_1 ?_
      refine Rn.goto dX12_works_36 ?_
      refine Rn.callS1 dX12_works_40 vX12_357 (tX12_is) (by decide) ⟨(Nat.le_of_ble_eq_true rfl), (Nat.le_of_ble_eq_true rfl), (Nat.le_of_ble_eq_true rfl)⟩ (fun h => by cases h) (fun v1 ly1 M1 ⟨q1, q2, q3⟩ => ?_)
      rw [q1, q2, q3]
      refine Rn.topL (y := 1) (isL_1) ?_
      refine Rn.lastN (k0 := m) dX12_works_43 (rc185 hR) (by omega) (by decide) ?_
      refine Rn.iconstv (v := 1) dX12_works_44 ic_1 ?_
      exact Rn.iret (ty := .boolean) dX12_works_45 rfl rfl (hQ _ rfl (fun k h => rfl) (fun j h => rfl) (fun k h => by show (if k = 185 then _ else M.2.1 k) = _; rw [if_neg h]) h54 (by rw [if_pos b1]; show rp (vp_updL (M.2.1 185) m 1) _; rw [← hm]; exact rp_push hrr))
theorem tX12_worksB {G : Gx} {l : Launch} {ly : Ly} {M : Mm} {q : Int32 × Int32} {m : Nat} {x y : Int64} {r : List Int64} (hq : q ∈ sgT) (hm : r.length = m) (hm62 : m ≤ 62) (h54 : M.1 149 54 = nI (m + 2)) (hrp : rp (M.2.1 185) (y :: x :: r)) (hR : RW ly M.2.2) {Q : Qt} (hQ : (jnB (jnL q.1 x y) → ∀ K : Mm, K.2.2 = M.2.2 → (∀ k, k ≠ 149 → K.1 k = M.1 k) → (∀ j, j ≠ 54 → K.1 149 j = M.1 149 j) → (∀ k, k ≠ 185 → K.2.1 k = M.2.1 k) → Q (some (.int 0)) ly K) ∧ (¬ jnB (jnL q.1 x y) → ∀ K : Mm, K.2.2 = M.2.2 → (∀ k, k ≠ 149 → K.1 k = M.1 k) → (∀ j, j ≠ 54 → K.1 149 j = M.1 149 j) → (∀ k, k ≠ 185 → K.2.1 k = M.2.1 k) → K.1 149 54 = nI (m + 1) → rp (K.2.1 185) (jnL q.1 x y :: r) → Q (some (.int 1)) ly K)) : Mt G l mX12_works (2, 0, 0, false) [.ref 149, .int q.2] ly M Q := by
  simp only [sgT, List.mem_cons, List.not_mem_nil, or_false] at hq
  rcases hq with rfl | rfl | rfl | rfl | rfl | rfl | rfl | rfl | rfl | rfl | rfl | rfl
  · exact tX12_works16 hm hm62 h54 hrp hR hQ
  · exact tX12_works17 hm hm62 h54 hrp hR hQ
  · exact tX12_works25 hm hm62 h54 hrp hR hQ
  · exact tX12_works26 hm hm62 h54 hrp hR hQ
  · exact tX12_works27 hm hm62 h54 hrp hR hQ
  · exact tX12_works28 hm hm62 h54 hrp hR hQ
  · exact tX12_works29 hm hm62 h54 hrp hR hQ
  · exact tX12_works30 hm hm62 h54 hrp hR hQ
  · exact tX12_works31 hm hm62 h54 hrp hR hQ
  · exact tX12_works32 hm hm62 h54 hrp hR hQ
  · exact tX12_works33 hm hm62 h54 hrp hR hQ
  · exact tX12_works34 hm hm62 h54 hrp hR hQ
/-- a knot, as the class and as the reference have it -/
def knR (kc so va : Int32) : Prop := (so = 0 ∧ kc = va ∧ ¬ va < 0) ∨ (so = 1 ∧ ∃ j : Nat, j < 6 ∧ kc = -1 - nI (19 + j) ∧ va = nI j) ∨ (so = 2 ∧ kc = -19 ∧ va = 260) ∨ (so = 2 ∧ ∃ q ∈ sgT, kc = -1 - q.1 ∧ va = q.2)
/-- how deep the stack is then -/
def arS (kc : Int32) (d : Nat) : Option Nat := if (-1) - kc < 0 then some (d + 1) else if 19 ≤ (-1) - kc ∧ (-1) - kc ≤ 24 then some (d + 1) else if (-1) - kc = 18 then (if 1 ≤ d then some d else none) else if 2 ≤ d then some (d - 1) else none
def arK (kn : Nat → Int32) : Nat → Option Nat
  | 0 => some 0
  | i + 1 => (arK kn i).bind (arS (kn i))
theorem arK_len {nm kn : Nat → Int32} : ∀ (i d : Nat) (s : List Int64), arK kn i = some d → evL nm kn i = some s → s.length = d
  | 0, d, s, h, e => by
    cases h; cases e; rfl
  | i + 1, d, s, h, e => by
    rw [arK] at h
    obtain ⟨d0, h1, h2⟩ := Option.bind_eq_some_iff.mp h
    cases hs : evL nm kn i with
    | none => rw [evL_none hs 1] at e; cases e
    | some s0 =>
      have hl := arK_len i d0 s0 h1 hs
      rw [evL_s hs] at e
      unfold arS at h2
      unfold stepL at e
      by_cases c1 : (-1) - kn i < 0
      · rw [if_pos c1] at h2 e; cases h2; cases e; simp [hl]
      · rw [if_neg c1] at h2 e
        by_cases c2 : 19 ≤ (-1) - kn i ∧ (-1) - kn i ≤ 24
        · rw [if_pos c2] at h2 e; cases h2; cases e; simp [hl]
        · rw [if_neg c2] at h2 e
          cases s0 with
          | nil => cases e
          | cons x r =>
            by_cases c3 : (-1) - kn i = 18
            · simp only [if_pos c3] at h2 e
              cases e
              simp only [List.length_cons] at hl ⊢
              rw [if_pos (by omega)] at h2
              cases h2; omega
            · simp only [if_neg c3] at h2 e
              cases r with
              | nil => cases e
              | cons z r =>
                simp only [List.length_cons] at hl
                rw [if_pos (by omega)] at h2
                cases h2
                simp only at e
                split at e
                · cases e
                · cases e
                  simp only [List.length_cons]; omega
theorem arK_le {kn : Nat → Int32} : ∀ (i d : Nat), arK kn i = some d → d ≤ i
  | 0, d, h => by cases h; exact Nat.le_refl 0
  | i + 1, d, h => by
    rw [arK] at h
    obtain ⟨d0, h1, h2⟩ := Option.bind_eq_some_iff.mp h
    have := arK_le i d0 h1
    unfold arS at h2
    (repeat' split at h2) <;> first | (cases h2; omega) | cases h2
theorem step_num {nm : Nat → Int32} {v : Int32} {s : List Int64} (h : ¬ v < 0) : stepL nm v s = some (v.toInt64 :: s) := by
  unfold stepL
  have e : (-1) - v < 0 := by
    obtain ⟨j, hj, rfl⟩ := nI_of h
    rw [Int32.lt_iff_toInt_lt, Int32.toInt_sub, nI_toInt hj]
    show Int.bmod ((-1 : Int) - (j : Int)) (2 ^ 32) < 0
    rw [Int.bmod_eq_of_le (by omega) (by omega)]
    omega
  rw [if_pos e]
theorem step_name {nm : Nat → Int32} {s : List Int64} : ∀ {j : Nat}, j < 6 → stepL nm (-1 - nI (19 + j)) s = some ((nm j).toInt64 :: s)
  | 0, _ => rfl
  | 1, _ => rfl
  | 2, _ => rfl
  | 3, _ => rfl
  | 4, _ => rfl
  | 5, _ => rfl
  | n + 6, h => absurd h (by omega)
theorem step_not {nm : Nat → Int32} {y : Int64} {r : List Int64} : stepL nm (-19) (y :: r) = some ((if y = 0 then 1 else 0) :: r) := rfl
theorem step_bin {nm : Nat → Int32} {q : Int32 × Int32} {y x : Int64} {r : List Int64} (hq : q ∈ sgT) : (jnB (jnL q.1 x y) → stepL nm (-1 - q.1) (y :: x :: r) = none) ∧ (¬ jnB (jnL q.1 x y) → stepL nm (-1 - q.1) (y :: x :: r) = some (jnL q.1 x y :: r)) := by
  simp only [sgT, List.mem_cons, List.not_mem_nil, or_false] at hq
  rcases hq with rfl | rfl | rfl | rfl | rfl | rfl | rfl | rfl | rfl | rfl | rfl | rfl
  all_goals exact ⟨fun h => if_pos h, fun h => if_neg h⟩
theorem arS_not {d e : Nat} (h : arS (-19) d = some e) : 1 ≤ d := by
  by_cases c : 1 ≤ d
  · exact c
  · have : arS (-19) d = none := if_neg c
    rw [this] at h; cases h
theorem arS_bin {q : Int32 × Int32} {d e : Nat} (hq : q ∈ sgT) (h : arS (-1 - q.1) d = some e) : 2 ≤ d := by
  by_cases c : 2 ≤ d
  · exact c
  · have : arS (-1 - q.1) d = none := by
      simp only [sgT, List.mem_cons, List.not_mem_nil, or_false] at hq
      rcases hq with rfl | rfl | rfl | rfl | rfl | rfl | rfl | rfl | rfl | rfl | rfl | rfl
      all_goals exact if_neg c
    rw [this] at h; cases h
theorem arK_pre {kn : Nat → Int32} {n d : Nat} (h : arK kn n = some d) : ∀ i, i ≤ n → ∃ e, arK kn i = some e := by
  intro i hi
  obtain ⟨k, rfl⟩ : ∃ k, n = i + k := ⟨n - i, by omega⟩
  clear hi
  induction k generalizing d with
  | zero => exact ⟨d, h⟩
  | succ k ih =>
    rw [show i + (k + 1) = (i + k) + 1 by omega, arK] at h
    obtain ⟨d0, h1, -⟩ := Option.bind_eq_some_iff.mp h
    exact ih h1
/-- a law of the reference is a law of the class: from f0 on -/
def lwR (I : Nat → Nat → Int32) (k : Nat) (kn : Nat → Int32) (sz f0 : Nat) : Prop := I 165 k = nI f0 ∧ I 166 k = nI (f0 + sz) ∧ f0 + sz ≤ 64 ∧ (∀ i, i < sz → knR (kn i) (I 167 (f0 + i)) (I 168 (f0 + i))) ∧ (sz = 0 ∨ arK kn sz = some 1)
def wkF (M N : Mm) : Prop := (N.2.2 = M.2.2 ∧ (∀ k, k ≠ 149 → N.1 k = M.1 k) ∧ (∀ j, j ≠ 54 → N.1 149 j = M.1 149 j) ∧ (∀ k, k ≠ 185 → N.2.1 k = M.2.1 k))
theorem wkF.tr {M N K : Mm} (h : wkF M N) (g : wkF N K) : wkF M K := ⟨g.1.trans h.1, fun k a => (g.2.1 k a).trans (h.2.1 k a), fun j a => (g.2.2.1 j a).trans (h.2.2.1 j a), fun k a => (g.2.2.2 k a).trans (h.2.2.2 k a)⟩
theorem wkF.rf {M : Mm} : wkF M M := ⟨rfl, fun _ _ => rfl, fun _ _ => rfl, fun _ _ => rfl⟩
theorem tX12_goes {G : Gx} {l : Launch} {ly : Ly} {M : Mm} {k sz f0 : Nat} {nm kn : Nat → Int32} (hk : k < 10) (hlw : lwR M.1 k kn sz f0) (hsz : ¬ sz = 0) (hnm : ∀ j, j < 6 → M.2.1 184 j = (nm j).toInt64) (hR : RW ly M.2.2) {Q : Qt} (hQ : (evL nm kn sz = none → ∀ K, wkF M K → Q (some (.int 0)) ly K) ∧ (∀ v, evL nm kn sz = some [v] → ∀ K, wkF M K → K.2.1 185 0 = v → Q (some (.int 1)) ly K)) : Mt G l mX12_goes (3, 0, 0, false) [.ref 149, .int (nI k)] ly M Q := by
  obtain ⟨hf, ht, h64, hkn, har⟩ := hlw
  have har1 : arK kn sz = some 1 := har.resolve_left hsz
  refine Mt.of (lv := [some (.ref 149), some (.int (nI k)), none]) rfl ?_
  refine Rn.aload_n dX12_goes_0 rfl ?_
  refine Rn.iconstv (v := 0) dX12_goes_1 ic_0 ?_
  refine Rn.putI dX12_goes_2 fX12_354 rfl rfl rfl (rc149 hR) ?_
  refine Rn.aload_n dX12_goes_5 rfl ?_
  refine Rn.getR dX12_goes_6 fX12_57 rfl (rc149 hR) (show M.2.2 149 17 = some 165 from (rpt17 hR)) ?_
  refine Rn.iload_n dX12_goes_9 rfl ?_
  refine Rn.ialdN (k0 := k) dX12_goes_10 (rc165 hR) (by omega) (by decide) ?_
  refine Rn.topI (y := nI f0) (hf) ?_
  refine Rn.istore_n (lv' := [some (.ref 149), some (.int (nI k)), some (.int (nI f0))]) dX12_goes_11 (by decide) rfl ?_
  have loop : ∀ (k0 i : Nat) (N : Mm) (s : List Int64), i + k0 = sz → wkF M N → evL nm kn i = some s → N.1 149 54 = nI s.length → rp (N.2.1 185) s → Rn G l mX12_goes (3, 0, 0, false) 12 [some (.ref 149), some (.int (nI k)), some (.int (nI (f0 + i)))] [] ly N Q := by
    intro k0
    induction k0 with
    | zero =>
      intro i N s hi hF hev h54 hrp
      have hRN : RW ly N.2.2 := by rw [hF.1]; exact hR
      refine Rn.iload_n dX12_goes_12 rfl ?_
      refine Rn.aload_n dX12_goes_13 rfl ?_
      refine Rn.getR dX12_goes_14 fX12_60 rfl (rc149 hRN) (show N.2.2 149 18 = some 166 from (rpt18 hRN)) ?_
      refine Rn.iload_n dX12_goes_17 rfl ?_
      refine Rn.ialdN (k0 := k) dX12_goes_18 (rc166 hRN) (by omega) (by decide) ?_
      refine Rn.topI (y := nI (f0 + sz)) ((congrFun (hF.2.1 166 (by decide)) k).trans ht) ?_
      refine Rn.icmp_ge dX12_goes_19 (fun hc => ?_) (fun hc => ?_)
      · skip
        have e0 : i = sz := by omega
        rw [e0] at hev
        have hl := arK_len (nm := nm) sz 1 s har1 hev
        obtain ⟨v, rfl⟩ := List.length_eq_one_iff.mp hl
        refine Rn.iconstv (v := 1) dX12_goes_102 ic_1 ?_
        exact Rn.iret (ty := .boolean) dX12_goes_103 rfl rfl (hQ.2 v hev N hF hrp.1)
      · skip
        exact absurd (nI_le (a := f0 + sz) (b := f0 + i) (by omega) (by omega)) hc
    | succ k0 ih =>
      intro i N s hi hF hev h54 hrp
      have hRN : RW ly N.2.2 := by rw [hF.1]; exact hR
      refine Rn.iload_n dX12_goes_12 rfl ?_
      refine Rn.aload_n dX12_goes_13 rfl ?_
      refine Rn.getR dX12_goes_14 fX12_60 rfl (rc149 hRN) (show N.2.2 149 18 = some 166 from (rpt18 hRN)) ?_
      refine Rn.iload_n dX12_goes_17 rfl ?_
      refine Rn.ialdN (k0 := k) dX12_goes_18 (rc166 hRN) (by omega) (by decide) ?_
      refine Rn.topI (y := nI (f0 + sz)) ((congrFun (hF.2.1 166 (by decide)) k).trans ht) ?_
      refine Rn.icmp_ge dX12_goes_19 (fun hc => ?_) (fun hc => ?_)
      · skip
        exact absurd hc (nI_ge (a := f0 + i) (b := f0 + sz) (by omega) (by omega))
      · skip
        obtain ⟨d, hd⟩ := arK_pre har1 i (by omega)
        have hl := arK_len (nm := nm) i d s hd hev
        have hdi := arK_le i d hd
        obtain ⟨d2, hd2⟩ := arK_pre har1 (i + 1) (by omega)
        have hd3 : arS (kn i) d = some d2 := by have h : (arK kn i).bind (arS (kn i)) = some d2 := hd2; rw [hd, Option.bind_some] at h; exact h
        have hes : evL nm kn (i + 1) = stepL nm (kn i) s := evL_s hev
        have e167 : N.1 167 (f0 + i) = M.1 167 (f0 + i) := congrFun (hF.2.1 167 (by decide)) _
        have e168 : N.1 168 (f0 + i) = M.1 168 (f0 + i) := congrFun (hF.2.1 168 (by decide)) _
        have hlen : s.length ≤ 63 := by omega
        rcases hkn i (by omega) with ⟨h1, h2, h3⟩ | ⟨h1, j, h2, h3, h4⟩ | ⟨h1, h2, h3⟩ | ⟨h1, q, h2, h3, h4⟩
        · skip
          rw [h2, step_num h3] at hes
          refine Rn.aload_n dX12_goes_22 rfl ?_
          refine Rn.getR dX12_goes_23 fX12_63 rfl (rc149 hRN) (show N.2.2 149 19 = some 167 from (rpt19 hRN)) ?_
          refine Rn.iload_n dX12_goes_26 rfl ?_
          refine Rn.ialdN (k0 := (f0 + i)) dX12_goes_27 (rc167 hRN) (by omega) (by decide) ?_
          refine Rn.topI (y := 0) (e167.trans h1) ?_
          refine Rn.iconstv (v := 2) dX12_goes_28 ic_2 ?_
          refine Rn.icmp_ne dX12_goes_29 (fun x1 => ?_) (fun x1 => ?_)
          · skip
            refine Rn.aload_n dX12_goes_47 rfl ?_
            refine Rn.getR dX12_goes_48 fX12_123 rfl (rc149 hRN) (show N.2.2 149 53 = some 185 from (rpt53 hRN)) ?_
            refine Rn.aload_n dX12_goes_51 rfl ?_
            refine Rn.getI dX12_goes_52 fX12_354 rfl (rc149 hRN) ?_
            refine Rn.topI (y := nI s.length) (h54) ?_
            refine Rn.aload_n dX12_goes_55 rfl ?_
            refine Rn.getR dX12_goes_56 fX12_63 rfl (rc149 hRN) (show N.2.2 149 19 = some 167 from (rpt19 hRN)) ?_
            refine Rn.iload_n dX12_goes_59 rfl ?_
            refine Rn.ialdN (k0 := (f0 + i)) dX12_goes_60 (rc167 hRN) (by omega) (by decide) ?_
            refine Rn.topI (y := 0) (e167.trans h1) ?_
            refine Rn.if_ne dX12_goes_61 (fun x2 => ?_) (fun x2 => ?_)
            · skip
              exact absurd rfl x2
            · skip
              refine Rn.aload_n dX12_goes_64 rfl ?_
              refine Rn.getR dX12_goes_65 fX12_66 rfl (rc149 hRN) (show N.2.2 149 20 = some 168 from (rpt20 hRN)) ?_
              refine Rn.iload_n dX12_goes_68 rfl ?_
              refine Rn.ialdN (k0 := (f0 + i)) dX12_goes_69 (rc168 hRN) (by omega) (by decide) ?_
              refine Rn.topI (y := M.1 168 (f0 + i)) (e168) ?_
              refine Rn.i2l dX12_goes_70 ?_
              refine Rn.goto dX12_goes_71 ?_
              refine Rn.lastN (k0 := s.length) dX12_goes_85 (rc185 hRN) (by omega) (by decide) ?_
              refine Rn.aload_n dX12_goes_86 rfl ?_
              refine Rn.dup dX12_goes_87 rfl ?_
              refine Rn.getI dX12_goes_88 fX12_354 rfl (rc149 hRN) ?_
              refine Rn.topI (y := nI s.length) (h54) ?_
              refine Rn.iconstv (v := 1) dX12_goes_91 ic_1 ?_
              refine Rn.iadd dX12_goes_92 ?_
              refine Rn.topI (y := nI (s.length + 1)) (nI_add s.length 1) ?_
              refine Rn.putI dX12_goes_93 fX12_354 rfl rfl rfl (rc149 hRN) ?_
              refine Rn.iincN (lv' := [some (.ref 149), some (.int (nI k)), some (.int (nI ((f0 + i) + 1)))]) dX12_goes_96 rfl (by decide) rfl ?_
              refine Rn.goto dX12_goes_99 ?_
              exact ih (i + 1) (sI (sL N 185 (vp_updL (N.2.1 185) s.length (Int32.toInt64 (M.1 168 (f0 + i))))) 149 (upd (N.1 149) 54 (nI (s.length + 1)))) _ (by omega) (hF.tr ⟨rfl, fun k h => sI_ne h, fun j h => pk_un h, fun k h => by show (if k = 185 then _ else N.2.1 k) = _; rw [if_neg h]⟩) hes (by show upd (N.1 149) 54 (nI (s.length + 1)) 54 = _; rw [pk_us]; rfl) (rp_push hrp)
          · skip
            exact absurd x1 (by decide)
        · skip
          rw [h3, step_name h2] at hes
          refine Rn.aload_n dX12_goes_22 rfl ?_
          refine Rn.getR dX12_goes_23 fX12_63 rfl (rc149 hRN) (show N.2.2 149 19 = some 167 from (rpt19 hRN)) ?_
          refine Rn.iload_n dX12_goes_26 rfl ?_
          refine Rn.ialdN (k0 := (f0 + i)) dX12_goes_27 (rc167 hRN) (by omega) (by decide) ?_
          refine Rn.topI (y := 1) (e167.trans h1) ?_
          refine Rn.iconstv (v := 2) dX12_goes_28 ic_2 ?_
          refine Rn.icmp_ne dX12_goes_29 (fun x1 => ?_) (fun x1 => ?_)
          · skip
            refine Rn.aload_n dX12_goes_47 rfl ?_
            refine Rn.getR dX12_goes_48 fX12_123 rfl (rc149 hRN) (show N.2.2 149 53 = some 185 from (rpt53 hRN)) ?_
            refine Rn.aload_n dX12_goes_51 rfl ?_
            refine Rn.getI dX12_goes_52 fX12_354 rfl (rc149 hRN) ?_
            refine Rn.topI (y := nI s.length) (h54) ?_
            refine Rn.aload_n dX12_goes_55 rfl ?_
            refine Rn.getR dX12_goes_56 fX12_63 rfl (rc149 hRN) (show N.2.2 149 19 = some 167 from (rpt19 hRN)) ?_
            refine Rn.iload_n dX12_goes_59 rfl ?_
            refine Rn.ialdN (k0 := (f0 + i)) dX12_goes_60 (rc167 hRN) (by omega) (by decide) ?_
            refine Rn.topI (y := 1) (e167.trans h1) ?_
            refine Rn.if_ne dX12_goes_61 (fun x2 => ?_) (fun x2 => ?_)
            · skip
              refine Rn.aload_n dX12_goes_74 rfl ?_
              refine Rn.getR dX12_goes_75 fX12_119 rfl (rc149 hRN) (show N.2.2 149 52 = some 184 from (rpt52 hRN)) ?_
              refine Rn.aload_n dX12_goes_78 rfl ?_
              refine Rn.getR dX12_goes_79 fX12_66 rfl (rc149 hRN) (show N.2.2 149 20 = some 168 from (rpt20 hRN)) ?_
              refine Rn.iload_n dX12_goes_82 rfl ?_
              refine Rn.ialdN (k0 := (f0 + i)) dX12_goes_83 (rc168 hRN) (by omega) (by decide) ?_
              refine Rn.topI (y := nI j) (e168.trans h4) ?_
              refine Rn.laldN (k0 := j) dX12_goes_84 (rc184 hRN) (by omega) (by decide) ?_
              refine Rn.topL (y := Int32.toInt64 (nm j)) ((congrFun (hF.2.2.2 184 (by decide)) j).trans (hnm j h2)) ?_
              refine Rn.lastN (k0 := s.length) dX12_goes_85 (rc185 hRN) (by omega) (by decide) ?_
              refine Rn.aload_n dX12_goes_86 rfl ?_
              refine Rn.dup dX12_goes_87 rfl ?_
              refine Rn.getI dX12_goes_88 fX12_354 rfl (rc149 hRN) ?_
              refine Rn.topI (y := nI s.length) (h54) ?_
              refine Rn.iconstv (v := 1) dX12_goes_91 ic_1 ?_
              refine Rn.iadd dX12_goes_92 ?_
              refine Rn.topI (y := nI (s.length + 1)) (nI_add s.length 1) ?_
              refine Rn.putI dX12_goes_93 fX12_354 rfl rfl rfl (rc149 hRN) ?_
              refine Rn.iincN (lv' := [some (.ref 149), some (.int (nI k)), some (.int (nI ((f0 + i) + 1)))]) dX12_goes_96 rfl (by decide) rfl ?_
              refine Rn.goto dX12_goes_99 ?_
              exact ih (i + 1) (sI (sL N 185 (vp_updL (N.2.1 185) s.length (Int32.toInt64 (nm j)))) 149 (upd (N.1 149) 54 (nI (s.length + 1)))) _ (by omega) (hF.tr ⟨rfl, fun k h => sI_ne h, fun j h => pk_un h, fun k h => by show (if k = 185 then _ else N.2.1 k) = _; rw [if_neg h]⟩) hes (by show upd (N.1 149) 54 (nI (s.length + 1)) 54 = _; rw [pk_us]; rfl) (rp_push hrp)
            · skip
              exact absurd x2 (by decide)
          · skip
            exact absurd x1 (by decide)
        · skip
          rw [h2] at hd3 hes
          have hd1 := arS_not hd3
          cases s with
          | nil => simp only [List.length_nil] at hl; omega
          | cons y r =>
            rw [step_not] at hes
            refine Rn.aload_n dX12_goes_22 rfl ?_
            refine Rn.getR dX12_goes_23 fX12_63 rfl (rc149 hRN) (show N.2.2 149 19 = some 167 from (rpt19 hRN)) ?_
            refine Rn.iload_n dX12_goes_26 rfl ?_
            refine Rn.ialdN (k0 := (f0 + i)) dX12_goes_27 (rc167 hRN) (by omega) (by decide) ?_
            refine Rn.topI (y := 2) (e167.trans h1) ?_
            refine Rn.iconstv (v := 2) dX12_goes_28 ic_2 ?_
            refine Rn.icmp_ne dX12_goes_29 (fun x1 => ?_) (fun x1 => ?_)
            · skip
              exact absurd rfl x1
            · skip
              refine Rn.aload_n dX12_goes_32 rfl ?_
              refine Rn.aload_n dX12_goes_33 rfl ?_
              refine Rn.getR dX12_goes_34 fX12_66 rfl (rc149 hRN) (show N.2.2 149 20 = some 168 from (rpt20 hRN)) ?_
              refine Rn.iload_n dX12_goes_37 rfl ?_
              refine Rn.ialdN (k0 := (f0 + i)) dX12_goes_38 (rc168 hRN) (by omega) (by decide) ?_
              refine Rn.topI (y := 260) (e168.trans h3) ?_
              refine Rn.callV1 dX12_goes_39 vX12_369 (rc149 hRN) (by decide) rfl (tX12_worksN (M := N) (Q := fun v0 ly0 K => v0 = some (.int 1) ∧ ly0 = ly ∧ wkF N K ∧ K.1 149 54 = nI (r.length + 1) ∧ rp (K.2.1 185) ((if y = 0 then 1 else 0) :: r)) rfl (by simp only [List.length_cons] at hlen; omega) h54 hrp hRN (fun K a b c d e f => ⟨rfl, rfl, ⟨a, b, c, d⟩, e, f⟩)) (by decide) ⟨(Nat.le_of_ble_eq_true rfl), (Nat.le_of_ble_eq_true rfl), (Nat.le_of_ble_eq_true rfl)⟩ (fun h => by cases h) (fun v1 ly1 N2 ⟨q1, q2, hF2, g54, grp⟩ => ?_)
              rw [q1, q2]
              refine Rn.if_ne dX12_goes_42 (fun x2 => ?_) (fun x2 => ?_)
              · skip
                refine Rn.iincN (lv' := [some (.ref 149), some (.int (nI k)), some (.int (nI ((f0 + i) + 1)))]) dX12_goes_96 rfl (by decide) rfl ?_
                refine Rn.goto dX12_goes_99 ?_
                exact ih (i + 1) N2 _ (by omega) (hF.tr hF2) hes g54 grp
              · skip
                exact absurd x2 (by decide)
        · skip
          rw [h3] at hd3 hes
          have hd1 := arS_bin h2 hd3
          obtain ⟨y, x, r, rfl⟩ : ∃ (y x : Int64) (r : List Int64), s = y :: x :: r := by
            cases s with
            | nil => simp only [List.length_nil] at hl; omega
            | cons y t => cases t with
              | nil => simp only [List.length_cons, List.length_nil] at hl; omega
              | cons x r => exact ⟨y, x, r, rfl⟩
          refine Rn.aload_n dX12_goes_22 rfl ?_
          refine Rn.getR dX12_goes_23 fX12_63 rfl (rc149 hRN) (show N.2.2 149 19 = some 167 from (rpt19 hRN)) ?_
          refine Rn.iload_n dX12_goes_26 rfl ?_
          refine Rn.ialdN (k0 := (f0 + i)) dX12_goes_27 (rc167 hRN) (by omega) (by decide) ?_
          refine Rn.topI (y := 2) (e167.trans h1) ?_
          refine Rn.iconstv (v := 2) dX12_goes_28 ic_2 ?_
          refine Rn.icmp_ne dX12_goes_29 (fun x1 => ?_) (fun x1 => ?_)
          · skip
            exact absurd rfl x1
          · skip
            refine Rn.aload_n dX12_goes_32 rfl ?_
            refine Rn.aload_n dX12_goes_33 rfl ?_
            refine Rn.getR dX12_goes_34 fX12_66 rfl (rc149 hRN) (show N.2.2 149 20 = some 168 from (rpt20 hRN)) ?_
            refine Rn.iload_n dX12_goes_37 rfl ?_
            refine Rn.ialdN (k0 := (f0 + i)) dX12_goes_38 (rc168 hRN) (by omega) (by decide) ?_
            refine Rn.topI (y := q.2) (e168.trans h4) ?_
            refine Rn.callV1 dX12_goes_39 vX12_369 (rc149 hRN) (by decide) rfl (tX12_worksB (M := N) (q := q) (Q := fun v0 ly0 K => ly0 = ly ∧ wkF N K ∧ ((v0 = some (.int 0) ∧ jnB (jnL q.1 x y)) ∨ (v0 = some (.int 1) ∧ ¬ jnB (jnL q.1 x y) ∧ K.1 149 54 = nI (r.length + 1) ∧ rp (K.2.1 185) (jnL q.1 x y :: r)))) h2 rfl (by simp only [List.length_cons] at hlen; omega) h54 hrp hRN ⟨fun hb K a b c d => ⟨rfl, ⟨a, b, c, d⟩, Or.inl ⟨rfl, hb⟩⟩, fun hb K a b c d e f => ⟨rfl, ⟨a, b, c, d⟩, Or.inr ⟨rfl, hb, e, f⟩⟩⟩) (by decide) ⟨(Nat.le_of_ble_eq_true rfl), (Nat.le_of_ble_eq_true rfl), (Nat.le_of_ble_eq_true rfl)⟩ (fun h => by cases h) (fun v1 ly1 N2 ⟨q2, hF2, hor⟩ => ?_)
            rw [q2]
            rcases hor with ⟨q1, hb⟩ | ⟨q1, hb, g54, grp⟩
            · skip
              rw [q1]
              rw [(step_bin h2).1 hb] at hes
              refine Rn.if_ne dX12_goes_42 (fun x2 => ?_) (fun x2 => ?_)
              · skip
                exact absurd rfl x2
              · skip
                refine Rn.iconstv (v := 0) dX12_goes_45 ic_0 ?_
                exact Rn.iret (ty := .boolean) dX12_goes_46 rfl rfl (hQ.1 (by have h := evL_none hes (sz - (i + 1)); rw [show i + 1 + (sz - (i + 1)) = sz by omega] at h; exact h) N2 (hF.tr hF2))
            · skip
              rw [q1]
              rw [(step_bin h2).2 hb] at hes
              refine Rn.if_ne dX12_goes_42 (fun x2 => ?_) (fun x2 => ?_)
              · skip
                refine Rn.iincN (lv' := [some (.ref 149), some (.int (nI k)), some (.int (nI ((f0 + i) + 1)))]) dX12_goes_96 rfl (by decide) rfl ?_
                refine Rn.goto dX12_goes_99 ?_
                exact ih (i + 1) N2 _ (by omega) (hF.tr hF2) hes g54 grp
              · skip
                exact absurd x2 (by decide)
  exact loop sz 0 (sI M 149 (upd (M.1 149) 54 0)) [] (by omega) ⟨rfl, fun k h => sI_ne h, fun j h => pk_un h, fun k h => rfl⟩ rfl rfl trivial
theorem i64_ne (x : Int32) : ¬ x.toInt64 = erL := by
  intro h
  have e := congrArg Int64.toInt h
  rw [Int32.toInt_toInt64] at e
  have h1 := Int32.le_toInt x
  have h2 : erL.toInt = -9223372036854775808 := by decide
  rw [h2] at e
  have h3 : Int32.minValue.toInt = -2147483648 := by decide
  omega
theorem step_ne {nm : Nat → Int32} {kc : Int32} {s s2 : List Int64} (hs : ∀ v ∈ s, ¬ v = erL) (h : stepL nm kc s = some s2) : ∀ v ∈ s2, ¬ v = erL := by
  unfold stepL at h
  split at h
  · cases h
    exact List.forall_mem_cons.mpr ⟨i64_ne _, hs⟩
  · split at h
    · cases h
      exact List.forall_mem_cons.mpr ⟨i64_ne _, hs⟩
    · cases s with
      | nil => cases h
      | cons x r =>
        obtain ⟨h1, h2⟩ := List.forall_mem_cons.mp hs
        simp only at h
        split at h
        · cases h
          refine List.forall_mem_cons.mpr ⟨?_, h2⟩
          split <;> decide
        · cases r with
          | nil => cases h
          | cons z r =>
            simp only at h
            split at h
            · cases h
            · rename_i hb
              cases h
              refine List.forall_mem_cons.mpr ⟨fun e => hb (by rw [e]; exact erL_bad), (List.forall_mem_cons.mp h2).2⟩
theorem evL_nes {nm kn : Nat → Int32} : ∀ (i : Nat) (s : List Int64), evL nm kn i = some s → ∀ v ∈ s, ¬ v = erL
  | 0, s, h => by cases h; intro v hv; cases hv
  | i + 1, s, h => by
    cases hs : evL nm kn i with
    | none => rw [evL_none hs 1] at h; cases h
    | some s0 => rw [evL_s hs] at h; exact step_ne (evL_nes i s0 hs) h
theorem evL_ne {nm kn : Nat → Int32} {i : Nat} {v : Int64} (h : evL nm kn i = some [v]) : ¬ v = erL := evL_nes i _ h v List.mem_cons_self
theorem valL_1 {nm kn : Nat → Int32} {n : Nat} {v : Int64} (h : evL nm kn n = some [v]) : valL nm kn n = v := by unfold valL; rw [h]
theorem tX12_asks {G : Gx} {l : Launch} {ly : Ly} {M : Mm} {k sz f0 : Nat} {nm kn : Nat → Int32} {z : Int32} (hk : k < 10) (hlw : lwR M.1 k kn sz f0) (hnm : ∀ j, j < 6 → M.2.1 184 j = (nm j).toInt64) (hR : RW ly M.2.2) {Q : Qt} (hQ : ∀ K, wkF M K → Q (some (.int (frc (valL nm kn sz) z))) ly K) : Mt G l mX12_asks (4, 0, 0, false) [.ref 149, .int (nI k), .int z] ly M Q := by
  refine Mt.of (lv := [some (.ref 149), some (.int (nI k)), some (.int z)]) rfl ?_
  refine Rn.aload_n dX12_asks_0 rfl ?_
  refine Rn.iload_n dX12_asks_1 rfl ?_
  refine Rn.callV1 dX12_asks_2 vX12_372 (rc149 hR) (by decide) rfl (tX12_hasLaw hk hR) (by decide) ⟨(Nat.le_of_ble_eq_true rfl), (Nat.le_of_ble_eq_true rfl), (Nat.le_of_ble_eq_true rfl)⟩ (fun h => by cases h) (fun v1 ly1 M1 ⟨q1, q2, q3⟩ => ?_)
  rw [q1, q2, q3]
  have ehl : hlR (M.1 166 k) (M.1 165 k) = if sz = 0 then 0 else 1 := by
    unfold hlR
    rw [hlw.1, hlw.2.1]
    by_cases h : sz = 0
    · rw [if_pos h, if_pos (nI_le (by omega) (by have := hlw.2.2.1; omega))]
    · rw [if_neg h, if_neg (nI_ge (by omega) (by have := hlw.2.2.1; omega))]
  by_cases hsz : sz = 0
  · skip
    refine Rn.topI (y := 0) (by rw [ehl, if_pos hsz]) ?_
    refine Rn.if_eq dX12_asks_5 (fun h1 => ?_) (fun h1 => ?_)
    · skip
      refine Rn.iload_n dX12_asks_16 rfl ?_
      have hv : frc (valL nm kn sz) z = z := by rw [hsz]; exact if_pos rfl
      rw [hv] at hQ
      exact Rn.iret (ty := .int) dX12_asks_17 rfl rfl (hQ M wkF.rf)
    · skip
      exact absurd rfl h1
  · skip
    refine Rn.topI (y := 1) (by rw [ehl, if_neg hsz]) ?_
    refine Rn.if_eq dX12_asks_5 (fun h1 => ?_) (fun h1 => ?_)
    · skip
      exact absurd h1 (by decide)
    · skip
      refine Rn.aload_n dX12_asks_8 rfl ?_
      refine Rn.iload_n dX12_asks_9 rfl ?_
      refine Rn.callV1 dX12_asks_10 vX12_375 (rc149 hR) (by decide) rfl (tX12_goes (nm := nm) (Q := fun v0 ly0 K => ly0 = ly ∧ wkF M K ∧ ((v0 = some (.int 0) ∧ evL nm kn sz = none) ∨ (v0 = some (.int 1) ∧ ∃ v, evL nm kn sz = some [v] ∧ K.2.1 185 0 = v))) hk hlw hsz hnm hR ⟨fun h K hF => ⟨rfl, hF, Or.inl ⟨rfl, h⟩⟩, fun v h K hF h0 => ⟨rfl, hF, Or.inr ⟨rfl, v, h, h0⟩⟩⟩) (by decide) ⟨(Nat.le_of_ble_eq_true rfl), (Nat.le_of_ble_eq_true rfl), (Nat.le_of_ble_eq_true rfl)⟩ (fun h => by cases h) (fun v1 ly1 N ⟨q2, hF, hor⟩ => ?_)
      rw [q2]
      rcases hor with ⟨q1, hv⟩ | ⟨q1, v, hv, h0⟩
      · skip
        rw [q1]
        refine Rn.if_ne dX12_asks_13 (fun h2 => ?_) (fun h2 => ?_)
        · skip
          exact absurd rfl h2
        · skip
          refine Rn.iload_n dX12_asks_16 rfl ?_
          have hv2 : frc (valL nm kn sz) z = z := by rw [valL_none hv (Nat.le_refl _)]; exact if_pos rfl
          rw [hv2] at hQ
          exact Rn.iret (ty := .int) dX12_asks_17 rfl rfl (hQ N hF)
      · skip
        rw [q1]
        have hRN : RW ly N.2.2 := by rw [hF.1]; exact hR
        refine Rn.if_ne dX12_asks_13 (fun h2 => ?_) (fun h2 => ?_)
        · skip
          refine Rn.ldc2 dX12_asks_18 kX12_378 ?_
          refine Rn.ldc2 dX12_asks_21 kX12_380 ?_
          refine Rn.aload_n dX12_asks_24 rfl ?_
          refine Rn.getR dX12_asks_25 fX12_123 rfl (rc149 hRN) (show N.2.2 149 53 = some 185 from (rpt53 hRN)) ?_
          refine Rn.iconstv (v := 0) dX12_asks_28 ic_0 ?_
          refine Rn.lald dX12_asks_29 (rc185 hRN) (by unfold vp_in; decide) ?_
          refine Rn.topL (y := N.2.1 185 0) (rfl) ?_
          refine Rn.topL (y := v) (h0) ?_
          refine Rn.mminL dX12_asks_30 jX12_382 jw_mminL ⟨(Nat.le_of_ble_eq_true rfl), (Nat.le_of_ble_eq_true rfl)⟩ ?_
          refine Rn.mmaxL dX12_asks_33 jX12_385 jw_mmaxL ⟨(Nat.le_of_ble_eq_true rfl), (Nat.le_of_ble_eq_true rfl)⟩ ?_
          refine Rn.l2i dX12_asks_36 ?_
          have hv2 : frc (valL nm kn sz) z = (mxL (-99) (mnL 99 v)).toInt32 := by rw [valL_1 hv]; exact if_neg (evL_ne hv)
          rw [hv2] at hQ
          exact Rn.iret (ty := .int) dX12_asks_37 rfl rfl (hQ N hF)
        · skip
          exact absurd h2 (by decide)
