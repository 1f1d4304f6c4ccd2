
/-- the greatest without sign of n -/
def gr (f : Nat → Int32) : Nat → Int32
  | 0 => 0
  | n + 1 => mx (gr f n) (ab (f n))
/-- a Sway at a: its three rows behind it -/
def iSway (ly : Ly) (M : Mm) (a : Nat) : Prop := ly[a]? = some (.inr 10) ∧ ly[a + 1]? = some (.inl (0, 12)) ∧ ly[a + 2]? = some (.inl (0, 12)) ∧ ly[a + 3]? = some (.inl (0, 12)) ∧ M.2.2 a 0 = some (a + 1) ∧ M.2.2 a 1 = some (a + 2) ∧ M.2.2 a 2 = some (a + 3)
/-- within 100000 of 0 -/
def wi (x : Int32) : Int32 := mx (-100000) (mn 100000 x)
def bsd (f : Nat → Int32) (n c : Nat) : Int32 := (if 0 < c then f (c - 1) else 0) + (if c + 1 < n then f (c + 1) else 0)
def vel (ou sp pu : Nat → Int32) (stf : Int32) (n c : Nat) : Int32 := sp c + stf * (bsd ou n c - 2 * ou c) / 16 + pu c
/-- the speed then -/
def nsp (ou sp pu ca : Nat → Int32) (stf : Int32) (n c : Nat) : Int32 := wi (vel ou sp pu stf n c - vel ou sp pu stf n c * ca c / 100)
/-- how far out then -/
def nou (ou sp pu ca : Nat → Int32) (stf : Int32) (n c : Nat) : Int32 := wi (ou c + nsp ou sp pu ca stf n c)

theorem tJ7_fill {G : Gx} {l : Launch} {ly : Ly} {M : Mm} {a N : Nat} {v : Int32} (ha : ly[a]? = some (.inl (0, N))) (hN : N < 2 ^ 31) : Mt G l mJ7_fill_53178 (1, 0, 0, false) [.ref a, .int v] ly M (Is none ly (sI M a (pre N (fun _ => v) (M.1 a)))) := by
  refine Mt.of (lv := [some (.ref (a)), some (.int (v)), none, none]) rfl ?_
  refine Rn.iconstv (v := 0) dJ7_fill_53178_0 ic_0 ?_
  refine Rn.istore_n (lv' := [some (.ref (a)), some (.int (v)), some (.int (0)), none]) dJ7_fill_53178_1 (by decide) rfl ?_
  refine Rn.aload_n dJ7_fill_53178_2 rfl ?_
  refine Rn.alen dJ7_fill_53178_3 ha (by decide) ?_
  refine Rn.istore_n (lv' := [some (.ref (a)), some (.int (v)), some (.int (0)), some (.int (nI N))]) dJ7_fill_53178_4 (by decide) rfl ?_
  have loop : ∀ (k i : Nat) , i + k = N → Rn G l mJ7_fill_53178 (1, 0, 0, false) 5 [some (.ref (a)), some (.int (v)), some (.int (nI i)), some (.int (nI N))] [] ly (sI M a (pre i (fun _ => v) (M.1 a))) (Is none ly (sI M a (pre N (fun _ => v) (M.1 a)))) := by
    intro k
    induction k with
    | zero =>
      intro i  hi 
      refine Rn.iload_n dJ7_fill_53178_5 rfl ?_
      refine Rn.iload_n dJ7_fill_53178_6 rfl ?_
      refine Rn.icmp_ge dJ7_fill_53178_7 (fun hc => ?_) (fun hc => ?_)
      · skip
        have hi : i = N := by omega
        subst hi
        exact Rn.vret dJ7_fill_53178_20 rfl ⟨rfl, rfl, rfl⟩
      · exact absurd (nI_le (by omega) (by omega)) hc
    | succ k ih =>
      intro i  hi 
      refine Rn.iload_n dJ7_fill_53178_5 rfl ?_
      refine Rn.iload_n dJ7_fill_53178_6 rfl ?_
      refine Rn.icmp_ge dJ7_fill_53178_7 (fun hc => ?_) (fun hc => ?_)
      · exact absurd hc (nI_ge (by omega) (by omega))
      · skip
        refine Rn.aload_n dJ7_fill_53178_10 rfl ?_
        refine Rn.iload_n dJ7_fill_53178_11 rfl ?_
        refine Rn.iload_n dJ7_fill_53178_12 rfl ?_
        refine Rn.iastN (k0 := i) dJ7_fill_53178_13 ha (by omega) hN ?_
        refine Rn.meq (M2 := sI M a (pre (i + 1) (fun _ => v) (M.1 a))) (by rw [sI_sI, sI_at, ← pre_up]) ?_
        refine Rn.iincN (lv' := [some (.ref (a)), some (.int (v)), some (.int (nI (i + 1))), some (.int (nI N))]) dJ7_fill_53178_14 rfl (by decide) rfl ?_
        refine Rn.goto dJ7_fill_53178_17 ?_
        exact ih (i + 1) (by omega)
  refine Rn.meq (M2 := sI M a (pre 0 (fun _ => v) (M.1 a))) (by rw [pre_0, sI_self]) ?_
  exact loop N 0 (by omega)
theorem tX11_within {G : Gx} {l : Launch} {ly : Ly} {M : Mm} {x b : Int32} : Mt G l mX11_within (1, 0, 0, false) [.int x, .int b] ly M (Is (some (.int (mx (-b) (mn b x)))) ly M) := by
  refine Mt.of (lv := [some (.int (x)), some (.int (b))]) rfl ?_
  refine Rn.iload_n dX11_within_0 rfl ?_
  refine Rn.ineg dX11_within_1 ?_
  refine Rn.iload_n dX11_within_2 rfl ?_
  refine Rn.iload_n dX11_within_3 rfl ?_
  refine Rn.mmin dX11_within_4 jX11_413 jw_mmin ⟨(Nat.le_of_ble_eq_true rfl), (Nat.le_of_ble_eq_true rfl)⟩ ?_
  refine Rn.mmax dX11_within_7 jX11_342 jw_mmax ⟨(Nat.le_of_ble_eq_true rfl), (Nat.le_of_ble_eq_true rfl)⟩ ?_
  exact Rn.iret (ty := .int) dX11_within_10 rfl rfl ⟨rfl, rfl, rfl⟩
theorem tX10_greatest {G : Gx} {l : Launch} {ly : Ly} {M : Mm} {a n : Nat} (hS : iSway ly M a) (hn : n ≤ 12) : Mt G l mX10_greatest (2, 0, 0, false) [.ref a, .int (nI n)] ly M (Is (some (.int (gr (M.1 (a + 1)) n))) ly M) := by
  obtain ⟨h0, h1, h2, h3, p0, p1, p2⟩ := hS
  refine Mt.of (lv := [some (.ref (a)), some (.int (nI n)), none, none]) rfl ?_
  refine Rn.iconstv (v := 0) dX10_greatest_0 ic_0 ?_
  refine Rn.istore_n (lv' := [some (.ref (a)), some (.int (nI n)), some (.int (0)), none]) dX10_greatest_1 (by decide) rfl ?_
  refine Rn.iconstv (v := 0) dX10_greatest_2 ic_0 ?_
  refine Rn.istore_n (lv' := [some (.ref (a)), some (.int (nI n)), some (.int (0)), some (.int (0))]) dX10_greatest_3 (by decide) rfl ?_
  have loop : ∀ (k i : Nat) , i + k = n → Rn G l mX10_greatest (2, 0, 0, false) 4 [some (.ref (a)), some (.int (nI n)), some (.int (gr (M.1 (a + 1)) i)), some (.int (nI i))] [] ly (M) (Is (some (.int (gr (M.1 (a + 1)) n))) ly M) := by
    intro k
    induction k with
    | zero =>
      intro i  hi 
      refine Rn.iload_n dX10_greatest_4 rfl ?_
      refine Rn.iload_n dX10_greatest_5 rfl ?_
      refine Rn.icmp_ge dX10_greatest_6 (fun hc => ?_) (fun hc => ?_)
      · skip
        have hi : i = n := by omega
        subst hi
        refine Rn.iload_n dX10_greatest_29 rfl ?_
        exact Rn.iret (ty := .int) dX10_greatest_30 rfl rfl ⟨rfl, rfl, rfl⟩
      · exact absurd (nI_le (by omega) (by omega)) hc
    | succ k ih =>
      intro i  hi 
      refine Rn.iload_n dX10_greatest_4 rfl ?_
      refine Rn.iload_n dX10_greatest_5 rfl ?_
      refine Rn.icmp_ge dX10_greatest_6 (fun hc => ?_) (fun hc => ?_)
      · exact absurd hc (nI_ge (by omega) (by omega))
      · skip
        refine Rn.iload_n dX10_greatest_9 rfl ?_
        refine Rn.aload_n dX10_greatest_10 rfl ?_
        refine Rn.getR dX10_greatest_11 fX10_9 rfl h0 p0 ?_
        refine Rn.iload_n dX10_greatest_14 rfl ?_
        refine Rn.ialdN (k0 := i) dX10_greatest_15 h1 (by omega) (by decide) ?_
        refine Rn.mabs dX10_greatest_16 jX10_38 jw_mabs ⟨(Nat.le_of_ble_eq_true rfl), (Nat.le_of_ble_eq_true rfl)⟩ ?_
        refine Rn.mmax dX10_greatest_19 jX10_44 jw_mmax ⟨(Nat.le_of_ble_eq_true rfl), (Nat.le_of_ble_eq_true rfl)⟩ ?_
        refine Rn.istore_n (lv' := [some (.ref (a)), some (.int (nI n)), some (.int ((mx (gr (M.1 (a + 1)) i) (ab ((M).1 (a + 1) i))))), some (.int (nI i))]) dX10_greatest_22 (by decide) rfl ?_
        refine Rn.iincN (lv' := [some (.ref (a)), some (.int (nI n)), some (.int ((mx (gr (M.1 (a + 1)) i) (ab ((M).1 (a + 1) i))))), some (.int (nI (i + 1)))]) dX10_greatest_23 rfl (by decide) rfl ?_
        refine Rn.goto dX10_greatest_26 ?_
        exact ih (i + 1) (by omega)
  exact loop n 0 (by omega)
theorem tX10_rest {G : Gx} {l : Launch} {ly : Ly} {M : Mm} {a : Nat} (hS : iSway ly M a) : Mt G l mX10_rest (2, 0, 0, false) [.ref a] ly M (Is none ly (sI (sI (sI M (a + 1) (pre 12 (fun _ => 0) (M.1 (a + 1)))) (a + 2) (pre 12 (fun _ => 0) (M.1 (a + 2)))) (a + 3) (pre 12 (fun _ => 0) (M.1 (a + 3))))) := by
  obtain ⟨h0, h1, h2, h3, p0, p1, p2⟩ := hS
  refine Mt.of (lv := [some (.ref (a))]) rfl ?_
  refine Rn.aload_n dX10_rest_0 rfl ?_
  refine Rn.getR dX10_rest_1 fX10_9 rfl h0 p0 ?_
  refine Rn.iconstv (v := 0) dX10_rest_4 ic_0 ?_
  refine Rn.callS2 dX10_rest_5 vX10_21 (tJ7_fill h1 (by decide)) (by decide) ⟨(Nat.le_of_ble_eq_true rfl), (Nat.le_of_ble_eq_true rfl), (Nat.le_of_ble_eq_true rfl)⟩ (fun h => by cases h) (fun v1 ly1 M1 hq => ?_)
  obtain ⟨rfl, rfl, rfl⟩ := hq
  refine Rn.aload_n dX10_rest_8 rfl ?_
  refine Rn.getR dX10_rest_9 fX10_15 rfl h0 p1 ?_
  refine Rn.iconstv (v := 0) dX10_rest_12 ic_0 ?_
  refine Rn.callS2 dX10_rest_13 vX10_21 (tJ7_fill h2 (by decide)) (by decide) ⟨(Nat.le_of_ble_eq_true rfl), (Nat.le_of_ble_eq_true rfl), (Nat.le_of_ble_eq_true rfl)⟩ (fun h => by cases h) (fun v1 ly1 M1 hq => ?_)
  obtain ⟨rfl, rfl, rfl⟩ := hq
  refine Rn.aload_n dX10_rest_16 rfl ?_
  refine Rn.getR dX10_rest_17 fX10_18 rfl h0 p2 ?_
  refine Rn.iconstv (v := 0) dX10_rest_20 ic_0 ?_
  refine Rn.callS2 dX10_rest_21 vX10_21 (tJ7_fill h3 (by decide)) (by decide) ⟨(Nat.le_of_ble_eq_true rfl), (Nat.le_of_ble_eq_true rfl), (Nat.le_of_ble_eq_true rfl)⟩ (fun h => by cases h) (fun v1 ly1 M1 hq => ?_)
  obtain ⟨rfl, rfl, rfl⟩ := hq
  refine Rn.meq (M2 := sI (sI (sI M (a + 1) (pre 12 (fun _ => 0) (M.1 (a + 1)))) (a + 2) (pre 12 (fun _ => 0) (M.1 (a + 2)))) (a + 3) (pre 12 (fun _ => 0) (M.1 (a + 3)))) (by rw [sI_ne (show a + 3 ≠ a + 2 by omega), sI_ne (show a + 3 ≠ a + 1 by omega), sI_ne (show a + 2 ≠ a + 1 by omega)]) ?_
  exact Rn.vret dX10_rest_24 rfl ⟨rfl, rfl, rfl⟩
theorem tX10_copy {G : Gx} {l : Launch} {ly : Ly} {M : Mm} {a c : Nat} (hS : iSway ly M a) (hT : iSway ly M c) (hac : a + 3 < c ∨ c + 3 < a) : Mt G l mX10_copy (2, 0, 0, false) [.ref a, .ref c] ly M (Is none ly (sI (sI (sI M (a + 1) (pre 12 (M.1 (c + 1)) (M.1 (a + 1)))) (a + 2) (pre 12 (M.1 (c + 2)) (M.1 (a + 2)))) (a + 3) (pre 12 (M.1 (c + 3)) (M.1 (a + 3))))) := by
  obtain ⟨h0, h1, h2, h3, p0, p1, p2⟩ := hS
  obtain ⟨i0, i1, i2, i3, r0, r1, r2⟩ := hT
  refine Mt.of (lv := [some (.ref (a)), some (.ref (c))]) rfl ?_
  refine Rn.aload_n dX10_copy_0 rfl ?_
  refine Rn.getR dX10_copy_1 fX10_9 rfl i0 r0 ?_
  refine Rn.iconstv (v := 0) dX10_copy_4 ic_0 ?_
  refine Rn.aload_n dX10_copy_5 rfl ?_
  refine Rn.getR dX10_copy_6 fX10_9 rfl h0 p0 ?_
  refine Rn.iconstv (v := 0) dX10_copy_9 ic_0 ?_
  refine Rn.bipushv (v := 12) dX10_copy_10 bp_12 ?_
  refine Rn.copy dX10_copy_12 jX10_27 jw_copy i1 h1 (by decide) (by decide) (by decide) (by decide) (by decide) ⟨(Nat.le_of_ble_eq_true rfl), (Nat.le_of_ble_eq_true rfl)⟩ ?_
  refine Rn.aload_n dX10_copy_15 rfl ?_
  refine Rn.getR dX10_copy_16 fX10_15 rfl i0 r1 ?_
  refine Rn.iconstv (v := 0) dX10_copy_19 ic_0 ?_
  refine Rn.aload_n dX10_copy_20 rfl ?_
  refine Rn.getR dX10_copy_21 fX10_15 rfl h0 p1 ?_
  refine Rn.iconstv (v := 0) dX10_copy_24 ic_0 ?_
  refine Rn.bipushv (v := 12) dX10_copy_25 bp_12 ?_
  refine Rn.copy dX10_copy_27 jX10_27 jw_copy i2 h2 (by decide) (by decide) (by decide) (by decide) (by decide) ⟨(Nat.le_of_ble_eq_true rfl), (Nat.le_of_ble_eq_true rfl)⟩ ?_
  refine Rn.aload_n dX10_copy_30 rfl ?_
  refine Rn.getR dX10_copy_31 fX10_18 rfl i0 r2 ?_
  refine Rn.iconstv (v := 0) dX10_copy_34 ic_0 ?_
  refine Rn.aload_n dX10_copy_35 rfl ?_
  refine Rn.getR dX10_copy_36 fX10_18 rfl h0 p2 ?_
  refine Rn.iconstv (v := 0) dX10_copy_39 ic_0 ?_
  refine Rn.bipushv (v := 12) dX10_copy_40 bp_12 ?_
  refine Rn.copy dX10_copy_42 jX10_27 jw_copy i3 h3 (by decide) (by decide) (by decide) (by decide) (by decide) ⟨(Nat.le_of_ble_eq_true rfl), (Nat.le_of_ble_eq_true rfl)⟩ ?_
  refine Rn.meq (M2 := sI (sI (sI M (a + 1) (pre 12 (M.1 (c + 1)) (M.1 (a + 1)))) (a + 2) (pre 12 (M.1 (c + 2)) (M.1 (a + 2)))) (a + 3) (pre 12 (M.1 (c + 3)) (M.1 (a + 3)))) ?_ ?_
  · rw [show (0 : Int32).toNatClampNeg = 0 from rfl, show (12 : Int32).toNatClampNeg = 12 from rfl, cpy_pre, cpy_pre, cpy_pre, sI_ne (show a + 3 ≠ a + 2 by omega), sI_ne (show a + 3 ≠ a + 1 by omega), sI_ne (show a + 2 ≠ a + 1 by omega), sI_ne (show c + 3 ≠ a + 2 by omega), sI_ne (show c + 3 ≠ a + 1 by omega), sI_ne (show c + 2 ≠ a + 1 by omega)]
  exact Rn.vret dX10_copy_45 rfl ⟨rfl, rfl, rfl⟩
theorem tX10_move {G : Gx} {l : Launch} {ly : Ly} {M : Mm} {a q n : Nat} {s : Int32} (hS : iSway ly M a) (hq : ly[q]? = some (.inl (0, 12))) (hqa : q < a + 1 ∨ a + 3 < q) (hn : n ≤ 12) : Mt G l mX10_move (3, 0, 0, false) [.ref a, .int (nI n), .int s, .ref q] ly M (Is none ly (sI (sI (sI M (a + 2) (pre n (nsp (M.1 (a + 1)) (M.1 (a + 2)) (M.1 (a + 3)) (M.1 q) s n) (M.1 (a + 2)))) (a + 3) (pre n (fun _ => 0) (M.1 (a + 3)))) (a + 1) (pre n (nou (M.1 (a + 1)) (M.1 (a + 2)) (M.1 (a + 3)) (M.1 q) s n) (M.1 (a + 1))))) := by
  obtain ⟨h0, h1, h2, h3, p0, p1, p2⟩ := hS
  refine Mt.of (lv := [some (.ref (a)), some (.int (nI n)), some (.int (s)), some (.ref (q)), none, none, none]) rfl ?_
  refine Rn.iconstv (v := 0) dX10_move_0 ic_0 ?_
  refine Rn.istore (lv' := [some (.ref (a)), some (.int (nI n)), some (.int (s)), some (.ref (q)), some (.int (0)), none, none]) dX10_move_1 (by decide) rfl ?_
  have second : Rn G l mX10_move (3, 0, 0, false) 125 [some (.ref (a)), some (.int (nI n)), some (.int (s)), some (.ref (q)), some (.int (nI n)), none, none] [] ly (sI (sI M (a + 2) (pre n (nsp (M.1 (a + 1)) (M.1 (a + 2)) (M.1 (a + 3)) (M.1 q) s n) (M.1 (a + 2)))) (a + 3) (pre n (fun _ => 0) (M.1 (a + 3)))) (Is none ly (sI (sI (sI M (a + 2) (pre n (nsp (M.1 (a + 1)) (M.1 (a + 2)) (M.1 (a + 3)) (M.1 q) s n) (M.1 (a + 2)))) (a + 3) (pre n (fun _ => 0) (M.1 (a + 3)))) (a + 1) (pre n (nou (M.1 (a + 1)) (M.1 (a + 2)) (M.1 (a + 3)) (M.1 q) s n) (M.1 (a + 1))))) := by
    refine Rn.iconstv (v := 0) dX10_move_125 ic_0 ?_
    refine Rn.istore (lv' := [some (.ref (a)), some (.int (nI n)), some (.int (s)), some (.ref (q)), some (.int (0)), none, none]) dX10_move_126 (by decide) rfl ?_
    have loop : ∀ (k i : Nat) , i + k = n → Rn G l mX10_move (3, 0, 0, false) 128 [some (.ref (a)), some (.int (nI n)), some (.int (s)), some (.ref (q)), some (.int (nI i)), none, none] [] ly (sI (sI (sI M (a + 2) (pre n (nsp (M.1 (a + 1)) (M.1 (a + 2)) (M.1 (a + 3)) (M.1 q) s n) (M.1 (a + 2)))) (a + 3) (pre n (fun _ => 0) (M.1 (a + 3)))) (a + 1) (pre i (nou (M.1 (a + 1)) (M.1 (a + 2)) (M.1 (a + 3)) (M.1 q) s n) (M.1 (a + 1)))) (Is none ly (sI (sI (sI M (a + 2) (pre n (nsp (M.1 (a + 1)) (M.1 (a + 2)) (M.1 (a + 3)) (M.1 q) s n) (M.1 (a + 2)))) (a + 3) (pre n (fun _ => 0) (M.1 (a + 3)))) (a + 1) (pre n (nou (M.1 (a + 1)) (M.1 (a + 2)) (M.1 (a + 3)) (M.1 q) s n) (M.1 (a + 1))))) := by
      intro k
      induction k with
      | zero =>
        intro i  hi 
        refine Rn.iload dX10_move_128 rfl ?_
        refine Rn.iload_n dX10_move_130 rfl ?_
        refine Rn.icmp_ge dX10_move_131 (fun hc => ?_) (fun hc => ?_)
        · skip
          have hi : i = n := by omega
          subst hi
          exact Rn.vret dX10_move_167 rfl ⟨rfl, rfl, rfl⟩
        · exact absurd (nI_le (by omega) (by omega)) hc
      | succ k ih =>
        intro i  hi 
        refine Rn.iload dX10_move_128 rfl ?_
        refine Rn.iload_n dX10_move_130 rfl ?_
        refine Rn.icmp_ge dX10_move_131 (fun hc => ?_) (fun hc => ?_)
        · exact absurd hc (nI_ge (by omega) (by omega))
        · skip
          refine Rn.aload_n dX10_move_134 rfl ?_
          refine Rn.getR dX10_move_135 fX10_9 rfl h0 p0 ?_
          refine Rn.iload dX10_move_138 rfl ?_
          refine Rn.aload_n dX10_move_140 rfl ?_
          refine Rn.getR dX10_move_141 fX10_9 rfl h0 p0 ?_
          refine Rn.iload dX10_move_144 rfl ?_
          refine Rn.ialdN (k0 := i) dX10_move_146 h1 (by omega) (by decide) ?_
          refine Rn.topI (y := M.1 (a + 1) i) (by rw [sI_at, pre_ge (Nat.le_refl i)]) ?_
          refine Rn.aload_n dX10_move_147 rfl ?_
          refine Rn.getR dX10_move_148 fX10_15 rfl h0 p1 ?_
          refine Rn.iload dX10_move_151 rfl ?_
          refine Rn.ialdN (k0 := i) dX10_move_153 h2 (by omega) (by decide) ?_
          refine Rn.topI (y := nsp (M.1 (a + 1)) (M.1 (a + 2)) (M.1 (a + 3)) (M.1 q) s n i) (by rw [sI_ne (show a + 2 ≠ a + 1 by omega), sI_ne (show a + 2 ≠ a + 3 by omega), sI_at, pre_lt (by omega)]) ?_
          refine Rn.iadd dX10_move_154 ?_
          refine Rn.ldc dX10_move_155 kX10_33 ?_
          refine Rn.callSN2 dX10_move_157 vX10_34 (tX11_within) (by decide) ⟨(Nat.le_of_ble_eq_true rfl), (Nat.le_of_ble_eq_true rfl), (Nat.le_of_ble_eq_true rfl)⟩ (fun h => by cases h) (fun v1 ly1 M1 hq => ?_)
          obtain ⟨rfl, rfl, rfl⟩ := hq
          refine Rn.topI (y := nou (M.1 (a + 1)) (M.1 (a + 2)) (M.1 (a + 3)) (M.1 q) s n i) rfl ?_
          refine Rn.iastN (k0 := i) dX10_move_160 h1 (by omega) (by decide) ?_
          refine Rn.meq (M2 := sI (sI (sI M (a + 2) (pre n (nsp (M.1 (a + 1)) (M.1 (a + 2)) (M.1 (a + 3)) (M.1 q) s n) (M.1 (a + 2)))) (a + 3) (pre n (fun _ => 0) (M.1 (a + 3)))) (a + 1) (pre (i + 1) (nou (M.1 (a + 1)) (M.1 (a + 2)) (M.1 (a + 3)) (M.1 q) s n) (M.1 (a + 1)))) (by rw [sI_sI, sI_at, pre_up]) ?_
          refine Rn.iincN (lv' := [some (.ref (a)), some (.int (nI n)), some (.int (s)), some (.ref (q)), some (.int (nI (i + 1))), none, none]) dX10_move_161 rfl (by decide) rfl ?_
          refine Rn.goto dX10_move_164 ?_
          exact ih (i + 1) (by omega)
    refine Rn.meq (M2 := sI (sI (sI M (a + 2) (pre n (nsp (M.1 (a + 1)) (M.1 (a + 2)) (M.1 (a + 3)) (M.1 q) s n) (M.1 (a + 2)))) (a + 3) (pre n (fun _ => 0) (M.1 (a + 3)))) (a + 1) (pre 0 (nou (M.1 (a + 1)) (M.1 (a + 2)) (M.1 (a + 3)) (M.1 q) s n) (M.1 (a + 1)))) ?_ (loop n 0 (by omega))
    rw [pre_0]
    exact (sI_selfN (show a + 1 ≠ a + 3 by omega) (show a + 1 ≠ a + 2 by omega)).symm
  have loop : ∀ (k i : Nat) , i + k = n → Rn G l mX10_move (3, 0, 0, false) 3 [some (.ref (a)), some (.int (nI n)), some (.int (s)), some (.ref (q)), some (.int (nI i)), none, none] [] ly (sI (sI M (a + 2) (pre i (nsp (M.1 (a + 1)) (M.1 (a + 2)) (M.1 (a + 3)) (M.1 q) s n) (M.1 (a + 2)))) (a + 3) (pre i (fun _ => 0) (M.1 (a + 3)))) (Is none ly (sI (sI (sI M (a + 2) (pre n (nsp (M.1 (a + 1)) (M.1 (a + 2)) (M.1 (a + 3)) (M.1 q) s n) (M.1 (a + 2)))) (a + 3) (pre n (fun _ => 0) (M.1 (a + 3)))) (a + 1) (pre n (nou (M.1 (a + 1)) (M.1 (a + 2)) (M.1 (a + 3)) (M.1 q) s n) (M.1 (a + 1))))) := by
    intro k
    induction k with
    | zero =>
      intro i  hi 
      refine Rn.iload dX10_move_3 rfl ?_
      refine Rn.iload_n dX10_move_5 rfl ?_
      refine Rn.icmp_ge dX10_move_6 (fun hc => ?_) (fun hc => ?_)
      · skip
        have hi : i = n := by omega
        subst hi
        exact second
      · exact absurd (nI_le (by omega) (by omega)) hc
    | succ k ih =>
      intro i  hi 
      refine Rn.iload dX10_move_3 rfl ?_
      refine Rn.iload_n dX10_move_5 rfl ?_
      refine Rn.icmp_ge dX10_move_6 (fun hc => ?_) (fun hc => ?_)
      · exact absurd hc (nI_ge (by omega) (by omega))
      · skip
        refine Rn.iload dX10_move_9 rfl ?_
        have join1 : ∀ z : Int32, z = (if 0 < i then M.1 (a + 1) (i - 1) else 0) → Rn G l mX10_move (3, 0, 0, false) 27 [some (.ref (a)), some (.int (nI n)), some (.int (s)), some (.ref (q)), some (.int (nI i)), none, none] [.int (z)] ly (sI (sI M (a + 2) (pre i (nsp (M.1 (a + 1)) (M.1 (a + 2)) (M.1 (a + 3)) (M.1 q) s n) (M.1 (a + 2)))) (a + 3) (pre i (fun _ => 0) (M.1 (a + 3)))) (Is none ly (sI (sI (sI M (a + 2) (pre n (nsp (M.1 (a + 1)) (M.1 (a + 2)) (M.1 (a + 3)) (M.1 q) s n) (M.1 (a + 2)))) (a + 3) (pre n (fun _ => 0) (M.1 (a + 3)))) (a + 1) (pre n (nou (M.1 (a + 1)) (M.1 (a + 2)) (M.1 (a + 3)) (M.1 q) s n) (M.1 (a + 1))))) := by
          intro z hz
          refine Rn.iload dX10_move_27 rfl ?_
          refine Rn.iconstv (v := 1) dX10_move_29 ic_1 ?_
          refine Rn.iadd dX10_move_30 ?_
          refine Rn.iload_n dX10_move_31 rfl ?_
          have join2 : ∀ y : Int32, y = (if i + 1 < n then M.1 (a + 1) (i + 1) else 0) → Rn G l mX10_move (3, 0, 0, false) 48 [some (.ref (a)), some (.int (nI n)), some (.int (s)), some (.ref (q)), some (.int (nI i)), none, none] [.int (y), .int (z)] ly (sI (sI M (a + 2) (pre i (nsp (M.1 (a + 1)) (M.1 (a + 2)) (M.1 (a + 3)) (M.1 q) s n) (M.1 (a + 2)))) (a + 3) (pre i (fun _ => 0) (M.1 (a + 3)))) (Is none ly (sI (sI (sI M (a + 2) (pre n (nsp (M.1 (a + 1)) (M.1 (a + 2)) (M.1 (a + 3)) (M.1 q) s n) (M.1 (a + 2)))) (a + 3) (pre n (fun _ => 0) (M.1 (a + 3)))) (a + 1) (pre n (nou (M.1 (a + 1)) (M.1 (a + 2)) (M.1 (a + 3)) (M.1 q) s n) (M.1 (a + 1))))) := by
            intro y hy
            refine Rn.iadd dX10_move_48 ?_
            refine Rn.topI (y := bsd (M.1 (a + 1)) n i) (by rw [hz, hy]; rfl) ?_
            refine Rn.istore (lv' := [some (.ref (a)), some (.int (nI n)), some (.int (s)), some (.ref (q)), some (.int (nI i)), some (.int (bsd (M.1 (a + 1)) n i)), none]) dX10_move_49 (by decide) rfl ?_
            refine Rn.aload_n dX10_move_51 rfl ?_
            refine Rn.getR dX10_move_52 fX10_15 rfl h0 p1 ?_
            refine Rn.iload dX10_move_55 rfl ?_
            refine Rn.ialdN (k0 := i) dX10_move_57 h2 (by omega) (by decide) ?_
            refine Rn.topI (y := M.1 (a + 2) i) (by rw [sI_ne (show a + 2 ≠ a + 3 by omega), sI_at, pre_ge (Nat.le_refl i)]) ?_
            refine Rn.iload_n dX10_move_58 rfl ?_
            refine Rn.iload dX10_move_59 rfl ?_
            refine Rn.iconstv (v := 2) dX10_move_61 ic_2 ?_
            refine Rn.aload_n dX10_move_62 rfl ?_
            refine Rn.getR dX10_move_63 fX10_9 rfl h0 p0 ?_
            refine Rn.iload dX10_move_66 rfl ?_
            refine Rn.ialdN (k0 := i) dX10_move_68 h1 (by omega) (by decide) ?_
            refine Rn.topI (y := M.1 (a + 1) i) (by rw [sI_ne (show a + 1 ≠ a + 3 by omega), sI_ne (show a + 1 ≠ a + 2 by omega)]) ?_
            refine Rn.imul dX10_move_69 ?_
            refine Rn.isub dX10_move_70 ?_
            refine Rn.imul dX10_move_71 ?_
            refine Rn.bipushv (v := 16) dX10_move_72 bp_16 ?_
            refine Rn.idiv dX10_move_74 (by decide) ?_
            refine Rn.iadd dX10_move_75 ?_
            refine Rn.aload_n dX10_move_76 rfl ?_
            refine Rn.getR dX10_move_77 fX10_18 rfl h0 p2 ?_
            refine Rn.iload dX10_move_80 rfl ?_
            refine Rn.ialdN (k0 := i) dX10_move_82 h3 (by omega) (by decide) ?_
            refine Rn.topI (y := M.1 (a + 3) i) (by rw [sI_at, pre_ge (Nat.le_refl i)]) ?_
            refine Rn.iadd dX10_move_83 ?_
            refine Rn.topI (y := vel (M.1 (a + 1)) (M.1 (a + 2)) (M.1 (a + 3)) s n i) rfl ?_
            refine Rn.istore (lv' := [some (.ref (a)), some (.int (nI n)), some (.int (s)), some (.ref (q)), some (.int (nI i)), some (.int (bsd (M.1 (a + 1)) n i)), some (.int (vel (M.1 (a + 1)) (M.1 (a + 2)) (M.1 (a + 3)) s n i))]) dX10_move_84 (by decide) rfl ?_
            refine Rn.aload_n dX10_move_86 rfl ?_
            refine Rn.getR dX10_move_87 fX10_15 rfl h0 p1 ?_
            refine Rn.iload dX10_move_90 rfl ?_
            refine Rn.iload dX10_move_92 rfl ?_
            refine Rn.iload dX10_move_94 rfl ?_
            refine Rn.aload_n dX10_move_96 rfl ?_
            refine Rn.iload dX10_move_97 rfl ?_
            refine Rn.ialdN (k0 := i) dX10_move_99 hq (by omega) (by decide) ?_
            refine Rn.topI (y := M.1 q i) (by rw [sI_ne (show q ≠ a + 3 by omega), sI_ne (show q ≠ a + 2 by omega)]) ?_
            refine Rn.imul dX10_move_100 ?_
            refine Rn.bipushv (v := 100) dX10_move_101 bp_100 ?_
            refine Rn.idiv dX10_move_103 (by decide) ?_
            refine Rn.isub dX10_move_104 ?_
            refine Rn.ldc dX10_move_105 kX10_33 ?_
            refine Rn.callSN2 dX10_move_107 vX10_34 (tX11_within) (by decide) ⟨(Nat.le_of_ble_eq_true rfl), (Nat.le_of_ble_eq_true rfl), (Nat.le_of_ble_eq_true rfl)⟩ (fun h => by cases h) (fun v1 ly1 M1 hq => ?_)
            obtain ⟨rfl, rfl, rfl⟩ := hq
            refine Rn.topI (y := nsp (M.1 (a + 1)) (M.1 (a + 2)) (M.1 (a + 3)) (M.1 q) s n i) rfl ?_
            refine Rn.iastN (k0 := i) dX10_move_110 h2 (by omega) (by decide) ?_
            refine Rn.aload_n dX10_move_111 rfl ?_
            refine Rn.getR dX10_move_112 fX10_18 rfl h0 p2 ?_
            refine Rn.iload dX10_move_115 rfl ?_
            refine Rn.iconstv (v := 0) dX10_move_117 ic_0 ?_
            refine Rn.iastN (k0 := i) dX10_move_118 h3 (by omega) (by decide) ?_
            refine Rn.meq (M2 := sI (sI M (a + 2) (pre (i + 1) (nsp (M.1 (a + 1)) (M.1 (a + 2)) (M.1 (a + 3)) (M.1 q) s n) (M.1 (a + 2)))) (a + 3) (pre (i + 1) (fun _ => 0) (M.1 (a + 3)))) ?_ ?_
            · rw [sI_ne (show a + 2 ≠ a + 3 by omega), sI_at, pre_up, sI_ne (show a + 3 ≠ a + 2 by omega), sI_at, sI_comm (show a + 3 ≠ a + 2 by omega), sI_sI, sI_sI]
              rw [show upd (pre i (fun _ => (0 : Int32)) (M.1 (a + 3))) i 0 = pre (i + 1) (fun _ => 0) (M.1 (a + 3)) from pre_up i (fun _ => 0) (M.1 (a + 3))]
            refine Rn.iincN (lv' := [some (.ref (a)), some (.int (nI n)), some (.int (s)), some (.ref (q)), some (.int (nI (i + 1))), some (.int (bsd (M.1 (a + 1)) n i)), some (.int (vel (M.1 (a + 1)) (M.1 (a + 2)) (M.1 (a + 3)) s n i))]) dX10_move_119 rfl (by decide) rfl ?_
            refine Rn.goto dX10_move_122 ?_
            refine Rn.forget (lv' := [some (.ref (a)), some (.int (nI n)), some (.int (s)), some (.ref (q)), some (.int (nI (i + 1))), none, none]) (⟨rfl, ⟨rfl, ⟨rfl, ⟨rfl, ⟨rfl, trivial⟩⟩⟩⟩⟩) ?_
            exact ih (i + 1) (by omega)
          refine Rn.icmp_ge dX10_move_32 (fun h2 => ?_) (fun h2 => ?_)
          · skip
            refine Rn.iconstv (v := 0) dX10_move_47 ic_0 ?_
            exact join2 0 (by rw [if_neg (fun h => absurd (le_of_nI1 h2 (by omega) (by omega)) (by omega))])
          · skip
            have h2 : i + 1 < n := lt_of_nI1 h2 (by omega) (by omega)
            refine Rn.aload_n dX10_move_35 rfl ?_
            refine Rn.getR dX10_move_36 fX10_9 rfl h0 p0 ?_
            refine Rn.iload dX10_move_39 rfl ?_
            refine Rn.iconstv (v := 1) dX10_move_41 ic_1 ?_
            refine Rn.iadd dX10_move_42 ?_
            refine Rn.topI (y := nI (i + 1)) (nI_succ i).symm ?_
            refine Rn.ialdN (k0 := (i + 1)) dX10_move_43 h1 (by omega) (by decide) ?_
            refine Rn.topI (y := M.1 (a + 1) (i + 1)) (by rw [sI_ne (show a + 1 ≠ a + 3 by omega), sI_ne (show a + 1 ≠ a + 2 by omega)]) ?_
            refine Rn.goto dX10_move_44 ?_
            exact join2 _ (by rw [if_pos h2])
        refine Rn.if_le dX10_move_11 (fun g1 => ?_) (fun g1 => ?_)
        · skip
          refine Rn.iconstv (v := 0) dX10_move_26 ic_0 ?_
          exact join1 0 (by rw [if_neg (fun h => nI_nle h (by omega) g1)])
        · skip
          have g1 : 0 < i := by rcases Nat.eq_zero_or_pos i with rfl | h; exact absurd (by decide) g1; exact h
          obtain ⟨i, rfl⟩ : ∃ j, i = j + 1 := ⟨i - 1, by omega⟩
          refine Rn.aload_n dX10_move_14 rfl ?_
          refine Rn.getR dX10_move_15 fX10_9 rfl h0 p0 ?_
          refine Rn.iload dX10_move_18 rfl ?_
          refine Rn.iconstv (v := 1) dX10_move_20 ic_1 ?_
          refine Rn.isub dX10_move_21 ?_
          refine Rn.topI (y := nI i) (nI_pred i) ?_
          refine Rn.ialdN (k0 := i) dX10_move_22 h1 (by omega) (by decide) ?_
          refine Rn.topI (y := M.1 (a + 1) i) (by rw [sI_ne (show a + 1 ≠ a + 3 by omega), sI_ne (show a + 1 ≠ a + 2 by omega)]) ?_
          refine Rn.goto dX10_move_23 ?_
          exact join1 _ (by rw [if_pos g1]; rfl)
  refine Rn.meq (M2 := sI (sI M (a + 2) (pre 0 (nsp (M.1 (a + 1)) (M.1 (a + 2)) (M.1 (a + 3)) (M.1 q) s n) (M.1 (a + 2)))) (a + 3) (pre 0 (fun _ => 0) (M.1 (a + 3)))) (by rw [pre_0, pre_0, sI_self, sI_self]) ?_
  exact loop n 0 (by omega)
