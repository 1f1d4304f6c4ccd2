def xIO : String := "java/lang/IndexOutOfBoundsException"
def xNS : String := "java/util/NoSuchElementException"
def xw1 : List Cond := Cond.classLink "WalkingBridge" 129 xIO :: Cond.initialized xIO :: (xi_at "WalkingBridge" 133 xIO "java/lang/RuntimeException" 7 prog_19_method_2_code ["java/lang/Exception"]).filter vx_no
def xw2 : List Cond := Cond.classLink "WalkingBridge" 154 xNS :: Cond.initialized xNS :: (xi_at "WalkingBridge" 158 xNS "java/lang/RuntimeException" 13 prog_32_method_4_code ["java/lang/Exception"]).filter vx_no
theorem xw1_ok : ∀ w ∈ xw1, (w.onTables && w.keepsFace) = true := by decide +kernel
theorem xw2_ok : ∀ w ∈ xw2, (w.onTables && w.keepsFace) = true := by decide +kernel
theorem xw1_in : ∀ w ∈ xw1, w ∈ tables_1_1 ++ (tables_1_5 ++ tables_1_6) := by decide +kernel
theorem xw2_in : ∀ w ∈ xw2, w ∈ tables_1_1 ++ (tables_1_5 ++ tables_1_6) := by decide +kernel
/-- a word of the tables that warmer tables keep -/
theorem Sp.face {G : Gx} {s : State} {args : Array Value} {w : Cond} (h : Sp G s) (hw : w ∈ lw_tbl) (h1 : (w.onTables && w.keepsFace) = true) : w.before args s = true := by
  obtain ⟨s0, h0, hW, -⟩ := h
  simp only [Bool.and_eq_true] at h1
  have a2 := Cond.before_shiftedFace (State.Shifted.of_warmed hW) w h1.2 (h0.tb hw)
  rw [Cond.onTables_vm (A' := args) (U' := s) s.vm w h1.1, State.setVm_self] at a2
  exact a2
theorem x156 {w : Cond} (h : w ∈ tables_1_1 ++ (tables_1_5 ++ tables_1_6)) : w ∈ lw_tbl := by
  rcases List.mem_append.mp h with h | h
  · exact TA1 h
  · rcases List.mem_append.mp h with h | h
    · exact TA5 h
    · exact TA6 h
theorem Sp.xw1 {G : Gx} {s : State} {args : Array Value} (h : Sp G s) : ∀ w ∈ xw1, w.before args s = true := fun w hw => h.face (x156 (xw1_in w hw)) (xw1_ok w hw)
theorem Sp.xw2 {G : Gx} {s : State} {args : Array Value} (h : Sp G s) : ∀ w ∈ xw2, w.before args s = true := fun w hw => h.face (x156 (xw2_in w hw)) (xw2_ok w hw)
theorem xot {w : Cond} (h : (w.onTables && w.keepsFace) = true) : vx_ot w = true := by
  simp only [Bool.and_eq_true] at h
  simp only [vx_ot, h.1, Bool.true_or]
theorem Sp.zqU {G : Gx} {s : State} (h : Sp G s) : vx_Zq Bundle.tN "UNASSIGNED_STACK" Bundle.steD (GA G) s s.heap := by
  obtain ⟨s0, h0, hW, hq⟩ := h
  exact (vx_Zq.moved hW.alike (vx_Zqof (h0.tb (TA6 (List.mem_of_getElem? (i := 5) rfl))) (h0.tb (TA1 (List.mem_of_getElem? (i := 21) rfl))) (h0.nar (k := 14) rfl) h0.A)).kept (Sp.kept h0 hq)
theorem Sp.zqS {G : Gx} {s : State} (h : Sp G s) : vx_Zq Bundle.tN "SUPPRESSED_SENTINEL" Bundle.listD (GA G) s s.heap := by
  obtain ⟨s0, h0, hW, hq⟩ := h
  exact (vx_Zq.moved hW.alike (vx_Zqof (h0.tb (TA6 (List.mem_of_getElem? (i := 7) rfl))) (h0.tb (TA1 (List.mem_of_getElem? (i := 21) rfl))) (h0.nar (k := 15) rfl) h0.A)).kept (Sp.kept h0 hq)
theorem Sp.xs1 {G : Gx} {s : State} (h : Sp G s) : ∃ sa : Nat, vk_R "WalkingBridge" 131 "no such walker" sa s := by
  obtain ⟨s0, h0, hW, hq⟩ := h
  obtain ⟨a, c, cA, kA, q1, -⟩ := Cond.exactly_spec (args := #[Value.ref (G.2.2.2.1 0)]) (first := s0) (o := none) (s := s0) (idx := []) (t := (Term.string "WalkingBridge" 131)) (cls := "java/lang/String") (h0.nar (k := 175) rfl)
  exact ⟨a, vk_R.warm hW (vk_R.of (h0.tb (TA6 (List.mem_of_getElem? (i := 18) rfl))) q1)⟩
theorem Sp.xs2 {G : Gx} {s : State} (h : Sp G s) : ∃ sa : Nat, vk_R "WalkingBridge" 156 "no such what" sa s := by
  obtain ⟨s0, h0, hW, hq⟩ := h
  obtain ⟨a, c, cA, kA, q1, -⟩ := Cond.exactly_spec (args := #[Value.ref (G.2.2.2.1 0)]) (first := s0) (o := none) (s := s0) (idx := []) (t := (Term.string "WalkingBridge" 156)) (cls := "java/lang/String") (h0.nar (k := 194) rfl)
  exact ⟨a, vk_R.warm hW (vk_R.of (h0.tb (TA6 (List.mem_of_getElem? (i := 53) rfl))) q1)⟩
theorem Sp.noNS {G : Gx} {s : State} (h : Sp G s) : va_Nc xNS xIO s := by
  obtain ⟨s0, h0, hW, hq⟩ := h
  exact va_Nc.moved hW.alike (va_Nc.of (h0.nar (k := 29) rfl))
