/-- the words of a conjunction -/
def cjs : Cond → List Cond
  | .and a b => cjs a ++ cjs b
  | c => [c]
theorem cjs_of : ∀ (c : Cond) {a : Array Value} {s : State}, c.before a s = true → ∀ w ∈ cjs c, w.before a s = true := by
  intro c a s
  fun_induction cjs c with
  | case1 x y ih1 ih2 =>
    intro h w hw
    rw [Cond.before_and, Bool.and_eq_true] at h
    exact (List.mem_append.mp hw).elim (ih1 h.1 w) (ih2 h.2 w)
  | case2 c _ =>
    intro h w hw
    rw [List.mem_singleton.mp hw]; exact h
theorem Sp0.nar {G : Gx} {s0 : State} (h : Sp0 G s0) {k : Nat} {w : Cond} (hw : (cjs narrow_1)[k]? = some w) : w.before #[Value.ref (G.2.2.2.1 0)] s0 = true := by
  have h1 := h.2.2.2.1
  rw [Cond.before_and, Bool.and_eq_true] at h1
  exact cjs_of narrow_1 h1.2 w (List.mem_of_getElem? hw)
theorem Sp0.tb {G : Gx} {s0 : State} (h : Sp0 G s0) {w : Cond} (hw : w ∈ lw_tbl) : w.before #[Value.ref (G.2.2.2.1 0)] s0 = true := h.2.2.1 w hw
theorem Sp0.A {G : Gx} {s0 : State} (h : Sp0 G s0) : ∀ a : Nat, a < s0.heap.size → ¬ GA G a := by
  intro a ha hg
  have h5 := h.2.2.2.2.1
  unfold GA at hg
  omega
def toldN (j : Nat) : Int32 := ([6, 4, 4, 3] : List Int32).getD j 0
def lgL : List Int32 := [98, 114, 105, 100, 103, 101, 32, 99, 97, 108, 109, 32, 104, 101, 97, 116, 32, 104, 111, 108, 100, 32, 119, 97, 108, 107, 101, 114, 32, 102, 97, 116, 32, 115, 108, 101, 101, 112, 32, 103, 97, 108, 101, 32, 115, 101, 101, 100, 32, 109, 97, 121, 32, 108, 97, 119, 32, 114, 105, 103, 104, 116, 32, 108, 101, 102, 116, 32, 115, 116, 97, 121, 32, 112, 117, 115, 104, 32, 115, 105, 100, 101, 32, 111, 114, 32, 97, 110, 100, 32, 110, 111, 116, 32, 119, 101, 105, 103, 104, 116, 32, 116, 105, 109, 101, 32, 112, 108, 97, 99, 101, 32, 115, 119, 97, 121, 32, 102, 111, 111, 116, 32, 119, 97, 114, 109, 32]
def lgB (j : Nat) : Int32 := lgL.getD j 0
theorem Sp.kept {G : Gx} {s s0 : State} (h0 : Sp0 G s0) (hq : ∀ q : Nat, q < G.1 → s.heap[q]? = s0.heap[q]?) : ∀ a : Nat, a < s0.heap.size → ¬ GA G a → s.heap[a]? = s0.heap[a]? := fun a ha _ => hq a (by have := h0.2.2.2.2.1; omega)
theorem told_el : ∀ j : Nat, j < 4 → (cjs narrow_1)[10 + j]? = some (Cond.eq (Term.elem (Term.static "WalkingBridge" "MOST_TOLD" "[I") (.int (Int32.ofNat j))) (.int (toldN j)))
  | 0, _ => rfl
  | 1, _ => rfl
  | 2, _ => rfl
  | 3, _ => rfl
  | j + 4, h => absurd h (by omega)
theorem Sp.told {G : Gx} {s : State} (h : Sp G s) : va_Z "WalkingBridge" "MOST_TOLD" "[I" (.ref (G.2.2.2.1 1)) (GA G) s s.heap ∧ va_T .int (G.2.2.2.1 1) 4 (fun j => .int (toldN j)) (GA G) s s.heap := by
  obtain ⟨s0, h0, hW, hq⟩ := h
  have hv : (Term.static "WalkingBridge" "MOST_TOLD" "[I").eval #[Value.ref (G.2.2.2.1 0)] s0 none [] s0 = some (.ref (G.2.2.2.1 1)) := h0.2.2.2.2.2.2.1
  have hZ := va_Zof (A := GA G) (h0.tb (TA3 (List.mem_of_getElem? (i := 228) rfl))) (h0.tb (TA1 (List.mem_of_getElem? (i := 1) rfl))) hv h0.A
  obtain ⟨t, ht, hT⟩ := va_Tof (tm := (Term.static "WalkingBridge" "MOST_TOLD" "[I")) (ty := .int) (N := 4) (f := fun j => .int (toldN j)) (A := GA G) (by decide) (h0.nar (k := 8) rfl) (va_eqt (h0.nar (k := 9) rfl)) (fun j hj => va_eqt (h0.nar (told_el j hj))) h0.A
  cases hv.symm.trans ht
  exact ⟨(hZ.moved hW.alike).kept (Sp.kept h0 hq), (hT.moved hW.alike).kept (Sp.kept h0 hq)⟩
/-- a String constant outside -/
def StrX (G : Gx) (x y : UInt32) (s : State) : Prop := va_O "java/lang/String" (G.2.2.2.1 x) (GA G) s s.heap ∧ va_OF "java/lang/String" "coder" "B" (.int 0) (G.2.2.2.1 x) (GA G) s s.heap ∧ va_OF "java/lang/String" "value" "[B" (.ref (G.2.2.2.1 y)) (G.2.2.2.1 x) (GA G) s s.heap ∧ va_T .byte (G.2.2.2.1 y) 127 (fun j => .int (lgB j)) (GA G) s s.heap
theorem lg_elR : ((cjs narrow_1).drop 48).take 127 = (List.range 127).map (fun j => Cond.eq (Term.elem (Term.field (Term.string "WalkingBridge$Reader" 19) "java/lang/String" "value" "[B") (.int (Int32.ofNat j))) (.int (lgB j))) := by decide +kernel
theorem lg_atR {j : Nat} (h : j < 127) : (cjs narrow_1)[48 + j]? = some (Cond.eq (Term.elem (Term.field (Term.string "WalkingBridge$Reader" 19) "java/lang/String" "value" "[B") (.int (Int32.ofNat j))) (.int (lgB j))) := by
  have e := congrArg (fun l => l[j]?) lg_elR
  simp only [List.getElem?_take, h, if_true, List.getElem?_drop, List.getElem?_map, List.getElem?_range h, Option.map_some] at e
  exact e
theorem Sp.strR {G : Gx} {s : State} (h : Sp G s) : StrX G 2 4 s := by
  obtain ⟨s0, h0, hW, hq⟩ := h
  have hv : (Term.string "WalkingBridge$Reader" 19).eval #[Value.ref (G.2.2.2.1 0)] s0 none [] s0 = some (.ref (G.2.2.2.1 2)) := h0.2.2.2.2.2.2.2.1
  have hw : (Term.field (Term.string "WalkingBridge$Reader" 19) "java/lang/String" "value" "[B").eval #[Value.ref (G.2.2.2.1 0)] s0 none [] s0 = some (.ref (G.2.2.2.1 4)) := h0.2.2.2.2.2.2.2.2.2.1
  obtain ⟨a, c, cA, kA, q1, q2, q3, q4, q5, q6, -⟩ := Cond.exactly_spec (args := #[Value.ref (G.2.2.2.1 0)]) (first := s0) (o := none) (s := s0) (idx := []) (t := (Term.string "WalkingBridge$Reader" 19)) (cls := "java/lang/String") (h0.nar (k := 44) rfl)
  cases hv.symm.trans q1
  obtain ⟨t9, ht, hT⟩ := va_Tof (tm := (Term.field (Term.string "WalkingBridge$Reader" 19) "java/lang/String" "value" "[B")) (ty := .byte) (N := 127) (f := fun j => .int (lgB j)) (A := GA G) (by decide) (h0.nar (k := 46) rfl) (va_eqt (h0.nar (k := 47) rfl)) (fun j hj => va_eqt (h0.nar (lg_atR hj))) h0.A
  cases hw.symm.trans ht
  have hO : va_O "java/lang/String" (G.2.2.2.1 2) (GA G) s0 s0.heap := ⟨cA, q3, q5, by rw [q6]; exact q2, h0.A _ (Array.getElem?_eq_some_iff.mp q3).1⟩
  have hc := vk_OFof (A := GA G) hv (va_eqt (h0.nar (k := 45) rfl)) h0.A
  have hf := vk_OFof (A := GA G) hv hw h0.A
  exact ⟨(hO.moved hW.alike).kept (Sp.kept h0 hq), (hc.moved hW.alike).kept (Sp.kept h0 hq), (hf.moved hW.alike).kept (Sp.kept h0 hq), (hT.moved hW.alike).kept (Sp.kept h0 hq)⟩
theorem Sp.refR {G : Gx} {s : State} (h : Sp G s) : vk_R "WalkingBridge$Reader" 19 "bridge calm heat hold walker fat sleep gale seed may law right left stay push side or and not weight time place sway foot warm " (G.2.2.2.1 2) s := by
  obtain ⟨s0, h0, hW, hq⟩ := h
  exact vk_R.warm hW (vk_R.of (h0.tb (TA1 (List.mem_of_getElem? (i := 48) rfl))) (show (Term.string "WalkingBridge$Reader" 19).eval #[Value.ref (G.2.2.2.1 0)] s0 none [] s0 = some (.ref (G.2.2.2.1 2)) from h0.2.2.2.2.2.2.2.1))
theorem lg_elM : ((cjs narrow_1).drop 216).take 127 = (List.range 127).map (fun j => Cond.eq (Term.elem (Term.field (Term.string "WalkingBridgeModel" 211) "java/lang/String" "value" "[B") (.int (Int32.ofNat j))) (.int (lgB j))) := by decide +kernel
theorem lg_atM {j : Nat} (h : j < 127) : (cjs narrow_1)[216 + j]? = some (Cond.eq (Term.elem (Term.field (Term.string "WalkingBridgeModel" 211) "java/lang/String" "value" "[B") (.int (Int32.ofNat j))) (.int (lgB j))) := by
  have e := congrArg (fun l => l[j]?) lg_elM
  simp only [List.getElem?_take, h, if_true, List.getElem?_drop, List.getElem?_map, List.getElem?_range h, Option.map_some] at e
  exact e
theorem Sp.strM {G : Gx} {s : State} (h : Sp G s) : StrX G 3 5 s := by
  obtain ⟨s0, h0, hW, hq⟩ := h
  have hv : (Term.string "WalkingBridgeModel" 211).eval #[Value.ref (G.2.2.2.1 0)] s0 none [] s0 = some (.ref (G.2.2.2.1 3)) := h0.2.2.2.2.2.2.2.2.1
  have hw : (Term.field (Term.string "WalkingBridgeModel" 211) "java/lang/String" "value" "[B").eval #[Value.ref (G.2.2.2.1 0)] s0 none [] s0 = some (.ref (G.2.2.2.1 5)) := h0.2.2.2.2.2.2.2.2.2.2.1
  obtain ⟨a, c, cA, kA, q1, q2, q3, q4, q5, q6, -⟩ := Cond.exactly_spec (args := #[Value.ref (G.2.2.2.1 0)]) (first := s0) (o := none) (s := s0) (idx := []) (t := (Term.string "WalkingBridgeModel" 211)) (cls := "java/lang/String") (h0.nar (k := 212) rfl)
  cases hv.symm.trans q1
  obtain ⟨t9, ht, hT⟩ := va_Tof (tm := (Term.field (Term.string "WalkingBridgeModel" 211) "java/lang/String" "value" "[B")) (ty := .byte) (N := 127) (f := fun j => .int (lgB j)) (A := GA G) (by decide) (h0.nar (k := 214) rfl) (va_eqt (h0.nar (k := 215) rfl)) (fun j hj => va_eqt (h0.nar (lg_atM hj))) h0.A
  cases hw.symm.trans ht
  have hO : va_O "java/lang/String" (G.2.2.2.1 3) (GA G) s0 s0.heap := ⟨cA, q3, q5, by rw [q6]; exact q2, h0.A _ (Array.getElem?_eq_some_iff.mp q3).1⟩
  have hc := vk_OFof (A := GA G) hv (va_eqt (h0.nar (k := 213) rfl)) h0.A
  have hf := vk_OFof (A := GA G) hv hw h0.A
  exact ⟨(hO.moved hW.alike).kept (Sp.kept h0 hq), (hc.moved hW.alike).kept (Sp.kept h0 hq), (hf.moved hW.alike).kept (Sp.kept h0 hq), (hT.moved hW.alike).kept (Sp.kept h0 hq)⟩
theorem Sp.refM {G : Gx} {s : State} (h : Sp G s) : vk_R "WalkingBridgeModel" 211 "bridge calm heat hold walker fat sleep gale seed may law right left stay push side or and not weight time place sway foot warm " (G.2.2.2.1 3) s := by
  obtain ⟨s0, h0, hW, hq⟩ := h
  exact vk_R.warm hW (vk_R.of (h0.tb (TA7 (List.mem_of_getElem? (i := 96) rfl))) (show (Term.string "WalkingBridgeModel" 211).eval #[Value.ref (G.2.2.2.1 0)] s0 none [] s0 = some (.ref (G.2.2.2.1 3)) from h0.2.2.2.2.2.2.2.2.1))
theorem Sp.cmp {G : Gx} {s : State} (h : Sp G s) : va_Z "java/lang/String" "COMPACT_STRINGS" "Z" (.int 1) (GA G) s s.heap := by
  obtain ⟨s0, h0, hW, hq⟩ := h
  have hZ := va_Zof (A := GA G) (h0.tb (TA1 (List.mem_of_getElem? (i := 58) rfl))) (h0.tb (TA1 (List.mem_of_getElem? (i := 4) rfl))) (va_eqi (h0.nar (k := 2) rfl)) h0.A
  exact (hZ.moved hW.alike).kept (Sp.kept h0 hq)
theorem Sp.fmt {G : Gx} {s : State} (h : Sp G s) : ∃ v : Value, (v = .null ∨ v = .float 6) ∧ va_Z "jdk/internal/util/Preconditions" "SIOOBE_FORMATTER" "Ljava/util/function/BiFunction;" (tv G v) (GA G) s s.heap := by
  obtain ⟨s0, h0, hW, hq⟩ := h
  rcases h0.2.2.2.2.2.2.2.2.2.2.2 with hv | hv
  · have hZ := va_Zof (args := #[Value.ref (G.2.2.2.1 0)]) (A := GA G) (h0.tb (TA1 (List.mem_of_getElem? (i := 74) rfl))) (h0.tb (TA1 (List.mem_of_getElem? (i := 6) rfl))) (show (Term.static "jdk/internal/util/Preconditions" "SIOOBE_FORMATTER" "Ljava/util/function/BiFunction;").eval #[Value.ref (G.2.2.2.1 0)] s0 none [] s0 = some .null from hv) h0.A
    exact ⟨.null, Or.inl rfl, (hZ.moved hW.alike).kept (Sp.kept h0 hq)⟩
  · have hZ := va_Zof (args := #[Value.ref (G.2.2.2.1 0)]) (A := GA G) (h0.tb (TA1 (List.mem_of_getElem? (i := 74) rfl))) (h0.tb (TA1 (List.mem_of_getElem? (i := 6) rfl))) (show (Term.static "jdk/internal/util/Preconditions" "SIOOBE_FORMATTER" "Ljava/util/function/BiFunction;").eval #[Value.ref (G.2.2.2.1 0)] s0 none [] s0 = some (.ref (G.2.2.2.1 6)) from hv) h0.A
    exact ⟨.float 6, Or.inr rfl, (hZ.moved hW.alike).kept (Sp.kept h0 hq)⟩
section RNE
variable {G : Gx} {l : Launch} {d : Md} {b : Bq} {pc n : Nat} {lv : List (Option Value)} {st : List Value} {ly : Ly} {M : Mm} {Q : Qt}
theorem Rn.getsT {idx : Nat} (hd : Dc d.2.1 pc n (.getstatic idx) 3) (hw : Cond.fieldLinkNest d.1.cls idx "WalkingBridge" "MOST_TOLD" "[I" "WalkingBridge" ∈ lw_tbl) (k : Rn G l d b n lv (.float 1 :: st) ly M Q) : Rn G l d b pc lv st ly M Q := by
  obtain ⟨hd, rfl⟩ := hd
  intro p e R s m args below meth c H locs cells slots ls Z hC hH hB hl hK
  have hn : va_Nw (.fieldLinkNest d.1.cls idx "WalkingBridge" "MOST_TOLD" "[I" "WalkingBridge") s := by
    obtain ⟨s0, h0, hW, -⟩ := hC.hsp
    exact va_Nw.warmF hW (va_Nw.of rfl (h0.2.2.1 _ hw))
  exact va_getsN hC.hx hC.hb (Sp.told hC.hsp).1 hH.2.1 hC.hown (va_Nw.use rfl hn) (fun _ h => h) hd (k p e R s m args below meth c H locs cells slots ls Z hC hH hB hl hK)
theorem Rn.ialdT {i : Int32} (hd : Dc d.2.1 pc n (.iaload) 1) (hin : vp_in i 4) (k : Rn G l d b n lv (.int (toldN i.toNatClampNeg) :: st) ly M Q) : Rn G l d b pc lv (.int i :: .float 1 :: st) ly M Q := by
  obtain ⟨hd, rfl⟩ := hd
  intro p e R s m args below meth c H locs cells slots ls Z hC hH hB hl hK
  exact va_ti hC.hx hC.hb (Sp.told hC.hsp).2 hH.2.1 hin rfl hd (k p e R s m args below meth c H locs cells slots ls Z hC hH hB hl hK)
theorem Rn.ldcR (hd : Dc d.2.1 pc n (.ldc 19) 2) (ho : d.1.cls = "WalkingBridge$Reader") (k : Rn G l d b n lv (.float 2 :: st) ly M Q) : Rn G l d b pc lv st ly M Q := by
  obtain ⟨hd, rfl⟩ := hd
  intro p e R s m args below meth c H locs cells slots ls Z hC hH hB hl hK
  have h1 := hC.hown
  rw [ho] at h1
  exact va_ldcS hC.hx hC.hb h1 (Sp.refR hC.hsp) hd (k p e R s m args below meth c H locs cells slots ls Z hC hH hB hl hK)
theorem Rn.ldcM (hd : Dc d.2.1 pc n (.ldc 211) 2) (ho : d.1.cls = "WalkingBridgeModel") (k : Rn G l d b n lv (.float 3 :: st) ly M Q) : Rn G l d b pc lv st ly M Q := by
  obtain ⟨hd, rfl⟩ := hd
  intro p e R s m args below meth c H locs cells slots ls Z hC hH hB hl hK
  have h1 := hC.hown
  rw [ho] at h1
  exact va_ldcS hC.hx hC.hb h1 (Sp.refM hC.hsp) hd (k p e R s m args below meth c H locs cells slots ls Z hC hH hB hl hK)
theorem Rn.getsC {idx : Nat} (hd : Dc d.2.1 pc n (.getstatic idx) 3) (hw : Cond.fieldLink d.1.cls idx "java/lang/String" "COMPACT_STRINGS" "Z" ∈ TB) (k : Rn G l d b n lv (.int 1 :: st) ly M Q) : Rn G l d b pc lv st ly M Q := by
  obtain ⟨hd, rfl⟩ := hd
  intro p e R s m args below meth c H locs cells slots ls Z hC hH hB hl hK
  exact va_gets hC.hx hC.hb (Sp.cmp hC.hsp) hH.2.1 hC.hown (hC.hts _ hw) (fun _ h => h) hd (k p e R s m args below meth c H locs cells slots ls Z hC hH hB hl hK)
theorem Rn.getsF {idx : Nat} (hd : Dc d.2.1 pc n (.getstatic idx) 3) (hw : Cond.fieldLink d.1.cls idx "jdk/internal/util/Preconditions" "SIOOBE_FORMATTER" "Ljava/util/function/BiFunction;" ∈ TB) (k : ∀ v : Value, v = .null ∨ v = .float 6 → Rn G l d b n lv (v :: st) ly M Q) : Rn G l d b pc lv st ly M Q := by
  obtain ⟨hd, rfl⟩ := hd
  intro p e R s m args below meth c H locs cells slots ls Z hC hH hB hl hK
  obtain ⟨v, hv, hZ⟩ := Sp.fmt hC.hsp
  exact va_gets hC.hx hC.hb hZ hH.2.1 hC.hown (hC.hts _ hw) (fun _ h => h) hd (k v hv p e R s m args below meth c H locs cells slots ls Z hC hH hB hl hK)
theorem Sp.strX {G : Gx} {s : State} (h : Sp G s) {x : UInt32} (hx : x = 2 ∨ x = 3) : StrX G x (x + 2) s := by
  rcases hx with rfl | rfl
  · exact Sp.strR h
  · exact Sp.strM h
theorem Rn.getSV {idx : Nat} {x : UInt32} (hd : Dc d.2.1 pc n (.getfield idx) 3) (hw : Cond.fieldLink d.1.cls idx "java/lang/String" "value" "[B" ∈ TB) (hx : x = 2 ∨ x = 3) (k : Rn G l d b n lv (.float (x + 2) :: st) ly M Q) : Rn G l d b pc lv (.float x :: st) ly M Q := by
  obtain ⟨hd, rfl⟩ := hd
  intro p e R s m args below meth c H locs cells slots ls Z hC hH hB hl hK
  exact vk_getf hC.hx hC.hb (Sp.strX hC.hsp hx).2.2.1 hH.2.1 hC.hown (hC.hts _ hw) (fun _ h => h) hd (k p e R s m args below meth c H locs cells slots ls Z hC hH hB hl hK)
theorem Rn.getSC {idx : Nat} {x : UInt32} (hd : Dc d.2.1 pc n (.getfield idx) 3) (hw : Cond.fieldLink d.1.cls idx "java/lang/String" "coder" "B" ∈ TB) (hx : x = 2 ∨ x = 3) (k : Rn G l d b n lv (.int 0 :: st) ly M Q) : Rn G l d b pc lv (.float x :: st) ly M Q := by
  obtain ⟨hd, rfl⟩ := hd
  intro p e R s m args below meth c H locs cells slots ls Z hC hH hB hl hK
  exact vk_getf hC.hx hC.hb (Sp.strX hC.hsp hx).2.1 hH.2.1 hC.hown (hC.hts _ hw) (fun _ h => h) hd (k p e R s m args below meth c H locs cells slots ls Z hC hH hB hl hK)
theorem Rn.alenT {x : UInt32} (hd : Dc d.2.1 pc n (.arraylength) 1) (hx : x = 2 ∨ x = 3) (k : Rn G l d b n lv (.int 127 :: st) ly M Q) : Rn G l d b pc lv (.float (x + 2) :: st) ly M Q := by
  obtain ⟨hd, rfl⟩ := hd
  intro p e R s m args below meth c H locs cells slots ls Z hC hH hB hl hK
  exact va_tlen hC.hx hC.hb (Sp.strX hC.hsp hx).2.2.2 hH.2.1 rfl hd (k p e R s m args below meth c H locs cells slots ls Z hC hH hB hl hK)
theorem Rn.baldT {x : UInt32} {i : Int32} (hd : Dc d.2.1 pc n (.baload) 1) (hx : x = 2 ∨ x = 3) (hin : vp_in i 127) (k : Rn G l d b n lv (.int (lgB i.toNatClampNeg) :: st) ly M Q) : Rn G l d b pc lv (.int i :: .float (x + 2) :: st) ly M Q := by
  obtain ⟨hd, rfl⟩ := hd
  intro p e R s m args below meth c H locs cells slots ls Z hC hH hB hl hK
  exact va_tb hC.hx hC.hb (Sp.strX hC.hsp hx).2.2.2 hH.2.1 hin rfl hd (k p e R s m args below meth c H locs cells slots ls Z hC hH hB hl hK)
theorem Rn.i2c {x : Int32} (hd : Dc d.2.1 pc n (.i2c) 1) (k : Rn G l d b n lv (.int (x.toUInt32 % 65536).toInt32 :: st) ly M Q) : Rn G l d b pc lv (.int x :: st) ly M Q := by
  obtain ⟨hd, rfl⟩ := hd
  intro p e R s m args below meth c H locs cells slots ls Z hC hH hB hl hK
  exact lv_i2c hC.hx hC.hb hd rfl (k p e R s m args below meth c H locs cells slots ls Z hC hH hB hl hK)
theorem Rn.alda {a N a2 : Nat} {i : Int32} (hd : Dc d.2.1 pc n (.aaload) 1) (ho : ly[a]? = some (.inl (4, N))) (hin : vp_in i N) (hv : M.2.2 a i.toNatClampNeg = some a2) (k : Rn G l d b n lv (.ref a2 :: st) ly M Q) : Rn G l d b pc lv (.int i :: .ref a :: st) ly M Q := by
  obtain ⟨hd, rfl⟩ := hd
  intro p e R s m args below meth c H locs cells slots ls Z hC hH hB hl hK
  have hlt : i.toNatClampNeg < N := Nat.not_le.mp fun q => hin (Or.inr q)
  have hk := k p e R s m args below meth c H locs cells slots ls Z hC hH hB hl hK
  have ha : (wG G ly M)[a]? = some (G.1 + a, .inl (G.2.2.1 4, N, .inr (.inr (.inr (.inr (fun j => rG G (M.2.2 a j))))))) := wG_get ho
  refine W.aald (v := va_rf (rG G (M.2.2 a i.toNatClampNeg))) (ty := .array .int) hC.hx hC.hb (hH.1 a _ ha) ((hC.hK.2 4 _ rfl).1 N (fun j => va_rf (rG G (M.2.2 a j)))) rfl (fun q => by cases q) (by show ¬ (i < 0 ∨ (arrV _ _ _).slots.size ≤ _); rw [arrV_size]; exact hin) (by show (arrV _ _ _).slots[_]? = _; rw [arrV_read _ _ hlt]) rfl rfl hd ?_
  simp only [hv, rG, Option.map_some, va_rf]
  exact hk
end RNE
section RNV
variable {G : Gx} {l : Launch} {d : Md} {pc n : Nat} {lv : List (Option Value)} {st : List Value} {ly : Ly} {M : Mm} {Q : Qt}
theorem Rn.callVE0 {d' : Md} {idx dep dep' ca sa : Nat} {ex : Bool} {Q' : Qt} {x : UInt32} (hd : Dc d.2.1 pc n (.invokevirtual idx) 3) (hw : VL d.1.cls idx d' 0) (hx : x = 2 ∨ x = 3) (hcc : "java/lang/String" = d'.1.cls) (callee : Mt G l d' (dep', 0, 0, false) (.float x :: []) ly M Q') (hdep : dep' + 1 ≤ dep) (hmx : (lg_sl (.float x :: [])).length ≤ d'.2.2.1 ∧ d'.2.2.1 ≤ 40 ∧ (st.map fun v => v.category).sum ≤ 8) (hex : ex = true → ∀ v ly' M', Q' v ly' M' → ly'.length = ly.length) 
    (k : ∀ v ly' M', Q' v ly' M' → Rn G l d (dep, ca, sa, ex) n lv (v.toList ++ st) ly' M' Q) : Rn G l d (dep, ca, sa, ex) pc lv (.float x :: st) ly M Q := by
  obtain ⟨hd, rfl⟩ := hd
  intro p e R s m args below meth c H locs cells slots ls Z hC hH hB hl hK
  have hM := callee.met hw.2.2.2.2.2.2 (by rw [sl_len]; exact hmx.1)
  refine W.size hC hH (fun hz => ?_)
  have hmd := hw.2.2.2
  have hR : (rmB (dep', 0, 0, false)).frames + 1 ≤ R.frames ∧ 8 + (d'.2.2.1 + 11) + (rmB (dep', 0, 0, false)).locals ≤ R.locals := ⟨Nat.le_trans hdep hB.1, by have := hB.2.1; have := hmx.2.1; show 8 + (d'.2.2.1 + 11) + 64 * dep' ≤ R.locals; dsimp only at *; omega⟩
  have cb := callB_of (R := R) (s := s) (args := args) (own := d.1.cls) (index := idx) (rm := rmB (dep', 0, 0, false)) 0 hC.hts (code_in hmd) rfl rfl rfl (hC.hts _ hmd.2.1) (hC.hts _ hw.1) hmd.2.2.1 hR
  have hf : cells + 0 ≤ R.cells ∧ slots + 0 ≤ R.slots := by
    have := hB.2.2
    dsimp only at this
    omega
  have recvE : ∃ cell : Cell, H[G.2.2.2.1 x]? = some cell ∧ cell.vm.isStatics = false ∧ s.vm.findClass "java/lang/String" = some cell.cls := by
    obtain ⟨cell, h1, h2, h3, -⟩ := (Sp.strX hC.hsp hx).1.kept hH.2.1.2.1
    exact ⟨cell, h1, h2, h3⟩
  have hr := va_runV (C := d'.1.cls) (b := G.2.2.2.1 x) (e := e) (below := below) (meth := meth) (locs := locs) (cells := cells) (slots := slots) (g := F0 m pc ls ((.float x :: st).map (tv G))) (As := ([]).map (tv G)) (rest := st.map (tv G)) ⟨hC.hx, hC.hb, hC.hml, hC.hown, hC.hts⟩ hM ⟨cb, hC.hts _ hw.2.1, hC.hts _ hw.2.2.1⟩ ⟨Pm.blind _ _ _ _ _, hcc ▸ recvE, fun U hU hW => ⟨rfl, Pm.at (ex' := false) hC hH hz (fun h => by cases h) U hU hW⟩⟩ rfl rfl hl.1 rfl (lv_room (by rw [cat_map]; exact hmx.2.2)) hd hf
  exact W.back (b := (0, 0, 0, false)) (k1 := 0) (ca := ca) (sa := sa) (ca' := 0) (sa' := 0) hr hC hH hB hl hK (by intro q; exact hex q) k
theorem Rn.callVE1 {d' : Md} {idx dep dep' ca sa : Nat} {ex : Bool} {Q' : Qt} {x0 : Value} {x : UInt32} (hd : Dc d.2.1 pc n (.invokevirtual idx) 3) (hw : VL d.1.cls idx d' 1) (hx : x = 2 ∨ x = 3) (hcc : "java/lang/String" = d'.1.cls) (callee : Mt G l d' (dep', 0, 0, false) (.float x :: [x0]) ly M Q') (hdep : dep' + 1 ≤ dep) (hmx : (lg_sl (.float x :: [x0])).length ≤ d'.2.2.1 ∧ d'.2.2.1 ≤ 40 ∧ (st.map fun v => v.category).sum ≤ 8) (hex : ex = true → ∀ v ly' M', Q' v ly' M' → ly'.length = ly.length) 
    (k : ∀ v ly' M', Q' v ly' M' → Rn G l d (dep, ca, sa, ex) n lv (v.toList ++ st) ly' M' Q) : Rn G l d (dep, ca, sa, ex) pc lv (x0 :: .float x :: st) ly M Q := by
  obtain ⟨hd, rfl⟩ := hd
  intro p e R s m args below meth c H locs cells slots ls Z hC hH hB hl hK
  have hM := callee.met hw.2.2.2.2.2.2 (by rw [sl_len]; exact hmx.1)
  refine W.size hC hH (fun hz => ?_)
  have hmd := hw.2.2.2
  have hR : (rmB (dep', 0, 0, false)).frames + 1 ≤ R.frames ∧ 8 + (d'.2.2.1 + 11) + (rmB (dep', 0, 0, false)).locals ≤ R.locals := ⟨Nat.le_trans hdep hB.1, by have := hB.2.1; have := hmx.2.1; show 8 + (d'.2.2.1 + 11) + 64 * dep' ≤ R.locals; dsimp only at *; omega⟩
  have cb := callB_of (R := R) (s := s) (args := args) (own := d.1.cls) (index := idx) (rm := rmB (dep', 0, 0, false)) 1 hC.hts (code_in hmd) rfl rfl rfl (hC.hts _ hmd.2.1) (hC.hts _ hw.1) hmd.2.2.1 hR
  have hf : cells + 0 ≤ R.cells ∧ slots + 0 ≤ R.slots := by
    have := hB.2.2
    dsimp only at this
    omega
  have recvE : ∃ cell : Cell, H[G.2.2.2.1 x]? = some cell ∧ cell.vm.isStatics = false ∧ s.vm.findClass "java/lang/String" = some cell.cls := by
    obtain ⟨cell, h1, h2, h3, -⟩ := (Sp.strX hC.hsp hx).1.kept hH.2.1.2.1
    exact ⟨cell, h1, h2, h3⟩
  have hr := va_runV (C := d'.1.cls) (b := G.2.2.2.1 x) (e := e) (below := below) (meth := meth) (locs := locs) (cells := cells) (slots := slots) (g := F0 m pc ls ((x0 :: .float x :: st).map (tv G))) (As := ([x0]).map (tv G)) (rest := st.map (tv G)) ⟨hC.hx, hC.hb, hC.hml, hC.hown, hC.hts⟩ hM ⟨cb, hC.hts _ hw.2.1, hC.hts _ hw.2.2.1⟩ ⟨Pm.blind _ _ _ _ _, hcc ▸ recvE, fun U hU hW => ⟨rfl, Pm.at (ex' := false) hC hH hz (fun h => by cases h) U hU hW⟩⟩ rfl rfl hl.1 rfl (lv_room (by rw [cat_map]; exact hmx.2.2)) hd hf
  exact W.back (b := (0, 0, 0, false)) (k1 := 0) (ca := ca) (sa := sa) (ca' := 0) (sa' := 0) hr hC hH hB hl hK (by intro q; exact hex q) k
end RNV
