theorem xins : ∀ ci : Nat, ci < 13 → Cond.instantiable (RXf ci) (NXf ci) ∈ lw_tbl
  | 0, _ => TA1 (List.mem_of_getElem? (i := 200) rfl)
  | 1, _ => TA3 (List.mem_of_getElem? (i := 48) rfl)
  | 2, _ => TA1 (List.mem_of_getElem? (i := 232) rfl)
  | 3, _ => TA1 (List.mem_of_getElem? (i := 134) rfl)
  | 4, _ => TA3 (List.mem_of_getElem? (i := 17) rfl)
  | 5, _ => TA2 (List.mem_of_getElem? (i := 13) rfl)
  | 6, _ => TA1 (List.mem_of_getElem? (i := 37) rfl)
  | 7, _ => TA1 (List.mem_of_getElem? (i := 192) rfl)
  | 8, _ => TA1 (List.mem_of_getElem? (i := 43) rfl)
  | 9, _ => TA2 (List.mem_of_getElem? (i := 128) rfl)
  | 10, _ => TA2 (List.mem_of_getElem? (i := 134) rfl)
  | 11, _ => TA1 (List.mem_of_getElem? (i := 29) rfl)
  | 12, _ => TA6 (List.mem_of_getElem? (i := 61) rfl)
  | n + 13, h => absurd h (by omega)
/-- what the words of the start say of it: the classes, the outer things -/
theorem start_G {s : State} {b L : Nat} {xs : Nat → Int32} (hts : ∀ w ∈ lw_tbl, w.before #[Value.ref b] s = true) (hX : va_X b L xs s s.heap) (hbl : b < s.heap.size) (hL : L ≤ 3072) (hgv : (Jvm.Cond.and given_1 narrow_1).before #[Value.ref b] s = true) : ∃ G : Gx, G.1 = s.heap.size ∧ G.2.2.2.1 0 = b ∧ G.2.2.2.2.1 = L ∧ Sp G s ∧ va_K G.2.1 vwCl (tyG G) s := by
  have hn : ∀ {k : Nat} {w : Cond}, (cjs narrow_1)[k]? = some w → w.before #[Value.ref b] s = true := fun {k w} hw => by
    have h1 := hgv
    rw [Cond.before_and, Bool.and_eq_true] at h1
    exact cjs_of narrow_1 h1.2 w (List.mem_of_getElem? hw)
  have hA : ∀ a : Nat, a < s.heap.size → ¬ (fun q : Nat => s.heap.size ≤ q) a := fun a h1 h2 => Nat.not_le.mpr h1 h2
  have hKn : ∀ ci : Nat, ci < 13 → ∃ (cC : ClassId) (iS : Nat → Nat), u_Kn s (RXf ci) (TXf ci) (NXf ci) cC iS := fun ci hci => u_known (ws := TB) (fun w hw => hts w (TB_in hw)) (clq_all ci hci).2.1 (hts _ (xins ci hci))
  obtain ⟨D, hD⟩ : ∃ D : va_G, ∀ ci : Nat, ci < 13 → u_Kn s (RXf ci) (TXf ci) (NXf ci) (D.1 ci) (D.2 ci) := by
    refine ⟨(fun ci => if h : ci < 13 then Classical.choose (hKn ci h) else 0, fun ci => if h : ci < 13 then Classical.choose (Classical.choose_spec (hKn ci h)) else fun _ => 0), fun ci hci => ?_⟩
    simp only [dif_pos hci]
    exact Classical.choose_spec (Classical.choose_spec (hKn ci hci))
  obtain ⟨cI, kI, oI, i1, i2, i3⟩ := Cond.arrayClass_spec (hts (.arrayClass .int) (TA1 (List.mem_of_getElem? (i := 132) rfl)))
  obtain ⟨cB, kB, oB, b1, b2, b3⟩ := Cond.arrayClass_spec (hts (.arrayClass .byte) (TA1 (List.mem_of_getElem? (i := 131) rfl)))
  obtain ⟨cZ, kZ, oZ, z1, z2, z3⟩ := Cond.arrayClass_spec (hts (.arrayClass .boolean) (TA3 (List.mem_of_getElem? (i := 46) rfl)))
  obtain ⟨cJ, kJ, oJ, j1, j2, j3⟩ := Cond.arrayClass_spec (hts (.arrayClass .long) (TA2 (List.mem_of_getElem? (i := 30) rfl)))
  obtain ⟨oA, cA, kA, -, -, a2, a3, a1⟩ := arrayOverA_spec (hts (.arrayOver (.array .int)) (TA1 (List.mem_of_getElem? (i := 198) rfl)))
  obtain ⟨oL, cL, kL, l0, -, l2, l3, l1⟩ := Cond.arrayOver_spec (hts (.arrayOver (.object "WalkingBridge$Law")) (TA2 (List.mem_of_getElem? (i := 31) rfl)))
  obtain ⟨t1, h1, -⟩ := va_Tof (tm := (Term.static "WalkingBridge" "MOST_TOLD" "[I")) (ty := .int) (N := 4) (f := fun j => .int (toldN j)) (A := fun q => s.heap.size ≤ q) (by decide) (hn (k := 8) rfl) (va_eqt (hn (k := 9) rfl)) (fun j hj => va_eqt (hn (told_el j hj))) hA
  obtain ⟨t2, -, -, -, h2, -⟩ := Cond.exactly_spec (args := #[Value.ref b]) (first := s) (o := none) (s := s) (idx := []) (t := (Term.string "WalkingBridge$Reader" 19)) (cls := "java/lang/String") (hn (k := 44) rfl)
  obtain ⟨t3, -, -, -, h3, -⟩ := Cond.exactly_spec (args := #[Value.ref b]) (first := s) (o := none) (s := s) (idx := []) (t := (Term.string "WalkingBridgeModel" 211)) (cls := "java/lang/String") (hn (k := 212) rfl)
  obtain ⟨t4, h4, -⟩ := va_Tof (tm := (Term.field (Term.string "WalkingBridge$Reader" 19) "java/lang/String" "value" "[B")) (ty := .byte) (N := 127) (f := fun j => .int (lgB j)) (A := fun q => s.heap.size ≤ q) (by decide) (hn (k := 46) rfl) (va_eqt (hn (k := 47) rfl)) (fun j hj => va_eqt (hn (lg_atR hj))) hA
  obtain ⟨t5, h5, -⟩ := va_Tof (tm := (Term.field (Term.string "WalkingBridgeModel" 211) "java/lang/String" "value" "[B")) (ty := .byte) (N := 127) (f := fun j => .int (lgB j)) (A := fun q => s.heap.size ≤ q) (by decide) (hn (k := 214) rfl) (va_eqt (hn (k := 215) rfl)) (fun j hj => va_eqt (hn (lg_atM hj))) hA
  obtain ⟨v6, h6, h6r⟩ := Cond.isRef_spec (args := #[Value.ref b]) (first := s) (o := none) (s := s) (idx := []) (t := (Term.static "jdk/internal/util/Preconditions" "SIOOBE_FORMATTER" "Ljava/util/function/BiFunction;")) (hn (k := 3) rfl)
  obtain ⟨t6, h6⟩ : ∃ t6 : Nat, (Term.static "jdk/internal/util/Preconditions" "SIOOBE_FORMATTER" "Ljava/util/function/BiFunction;").eval #[] s none [] s = some .null ∨ (Term.static "jdk/internal/util/Preconditions" "SIOOBE_FORMATTER" "Ljava/util/function/BiFunction;").eval #[] s none [] s = some (.ref t6) := by
    cases v6 with
    | null => exact ⟨0, Or.inl h6⟩
    | ref t => exact ⟨t, Or.inr h6⟩
    | _ => cases h6r
  refine ⟨(s.heap.size, D, (fun k => ([cI, cB, cZ, cJ, cA, cL] : List ClassId).getD k 0), (fun x => ([b, t1, t2, t3, t4, t5, t6] : List Nat).getD x.toNat 0), L, xs), rfl, rfl, rfl, ⟨s, ⟨hX, hL, hts, hgv, rfl, hbl, h1, h2, h3, h4, h5, h6⟩, State.WarmedH.refl s, fun _ _ => rfl⟩, ?_, ?_⟩
  · intro ci q hq
    by_cases hci : ci < 13
    · have e := (clq_all ci hci).1
      cases Option.some.inj (hq.symm.trans e)
      exact hD ci hci
    · exact absurd hq (by rw [List.getElem?_eq_none (show vwCl.length ≤ ci from Nat.le_trans (Nat.le_of_ble_eq_true rfl) (Nat.le_of_not_lt hci))]; exact fun h => by cases h)
  · have ar : ∀ {cc : ClassId} {kk : Class} {oo : ClassId} {ty : FieldType}, s.vm.classes[cc]? = some kk → kk.kind = .array oo ty → ArrOfT s cc ty := fun {cc kk oo ty} f2 f3 n z => ⟨(fun k h => by cases h), kk, f2, oo, f3⟩
    intro k q hq
    match k, hq with
    | 0, hq => cases hq; exact ⟨ar i2 i3, i1⟩
    | 1, hq => cases hq; exact ⟨ar b2 b3, b1⟩
    | 2, hq => cases hq; exact ⟨ar z2 z3, z1⟩
    | 3, hq => cases hq; exact ⟨ar j2 j3, j1⟩
    | 4, hq => cases hq; exact ⟨ar a2 a3, a1⟩
    | 5, hq => cases hq; exact ⟨ar l2 l3, kL, oL, l2, l3, l0, l1⟩
    | k + 6, hq => exact absurd hq (by simp [tyG])
