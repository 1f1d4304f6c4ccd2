
/-- the start, as the law's entry has it -/
def Sp0 (G : Gx) (s0 : State) : Prop := va_X (G.2.2.2.1 0) G.2.2.2.2.1 G.2.2.2.2.2 s0 s0.heap ∧ G.2.2.2.2.1 ≤ 3072 ∧ (∀ w ∈ lw_tbl, w.before #[Value.ref (G.2.2.2.1 0)] s0 = true) ∧ (Jvm.Cond.and given_1 narrow_1).before #[Value.ref (G.2.2.2.1 0)] s0 = true ∧ G.1 = s0.heap.size ∧ G.2.2.2.1 0 < G.1 ∧
  (Term.static "WalkingBridge" "MOST_TOLD" "[I").eval #[] s0 none [] s0 = some (.ref (G.2.2.2.1 1)) ∧ (Term.string "WalkingBridge$Reader" 19).eval #[] s0 none [] s0 = some (.ref (G.2.2.2.1 2)) ∧ (Term.string "WalkingBridgeModel" 211).eval #[] s0 none [] s0 = some (.ref (G.2.2.2.1 3)) ∧ (Term.field (Term.string "WalkingBridge$Reader" 19) "java/lang/String" "value" "[B").eval #[] s0 none [] s0 = some (.ref (G.2.2.2.1 4)) ∧ (Term.field (Term.string "WalkingBridgeModel" 211) "java/lang/String" "value" "[B").eval #[] s0 none [] s0 = some (.ref (G.2.2.2.1 5)) ∧ ((Term.static "jdk/internal/util/Preconditions" "SIOOBE_FORMATTER" "Ljava/util/function/BiFunction;").eval #[] s0 none [] s0 = some .null ∨ (Term.static "jdk/internal/util/Preconditions" "SIOOBE_FORMATTER" "Ljava/util/function/BiFunction;").eval #[] s0 none [] s0 = some (.ref (G.2.2.2.1 6)))
def Sp (G : Gx) (s : State) : Prop := ∃ s0 : State, Sp0 G s0 ∧ s0.WarmedH s.vm ∧ ∀ q : Nat, q < G.1 → s.heap[q]? = s0.heap[q]?
theorem Sp.moved {G : Gx} {s U : State} (h : Sp G s) (hW : s.WarmedH U.vm) (hq : ∀ q : Nat, q < G.1 → U.heap[q]? = s.heap[q]?) : Sp G U := by
  obtain ⟨s0, h1, h2, h3⟩ := h
  exact ⟨s0, h1, State.WarmedH.trans h2 hW, fun q h => (hq q h).trans (h3 q h)⟩
/-- what holds at a frame of the method d -/
def Cx (G : Gx) (d : Md) (p : Program) (s : State) (m : MethodId) (args : Array Value) (meth : Method) (c : Code) : Prop :=
  p.tables.exec = Jvm.exec ∧ c.code = d.2.1 ∧ c.maxLocals = d.2.2.1 ∧ s.vm.findClass d.1.cls = some m.cls ∧ (∀ w ∈ TB, w.before args s = true) ∧ meth.locks = false ∧ meth.sig.returnType = d.2.2.2 ∧ va_K G.2.1 vwCl (tyG G) s ∧ G.1 ≤ s.heap.size ∧ meth.name = d.1.name ∧ Sp G s
section CX
variable {G : Gx} {d : Md} {p : Program} {s : State} {m : MethodId} {args : Array Value} {meth : Method} {c : Code}
theorem Cx.hx (h : Cx G d p s m args meth c) : p.tables.exec = Jvm.exec := h.1
theorem Cx.hb (h : Cx G d p s m args meth c) : c.code = d.2.1 := h.2.1
theorem Cx.hml (h : Cx G d p s m args meth c) : c.maxLocals = d.2.2.1 := h.2.2.1
theorem Cx.hown (h : Cx G d p s m args meth c) : s.vm.findClass d.1.cls = some m.cls := h.2.2.2.1
theorem Cx.hts (h : Cx G d p s m args meth c) : ∀ w ∈ TB, w.before args s = true := h.2.2.2.2.1
theorem Cx.hlk (h : Cx G d p s m args meth c) : meth.locks = false := h.2.2.2.2.2.1
theorem Cx.hr (h : Cx G d p s m args meth c) : meth.sig.returnType = d.2.2.2 := h.2.2.2.2.2.2.1
theorem Cx.hK (h : Cx G d p s m args meth c) : va_K G.2.1 vwCl (tyG G) s := h.2.2.2.2.2.2.2.1
theorem Cx.hsz (h : Cx G d p s m args meth c) : G.1 ≤ s.heap.size := h.2.2.2.2.2.2.2.2.1
theorem Cx.hnm (h : Cx G d p s m args meth c) : meth.name = d.1.name := h.2.2.2.2.2.2.2.2.2.1
theorem Cx.hsp (h : Cx G d p s m args meth c) : Sp G s := h.2.2.2.2.2.2.2.2.2.2
theorem Cx.hA (h : Cx G d p s m args meth c) : ∀ q : Nat, s.heap.size ≤ q → GA G q := fun _ hq => Nat.le_trans h.hsz hq
end CX
/-- the memory in the heap; 'true': no cell but these is new -/
def Hp (G : Gx) (ly : Ly) (M : Mm) (s : State) (H : Heap) (locs : List Loc) (cells : Nat) (ex : Bool) : Prop := va_P G.2.1 vwCl (wG G ly M) H ∧ va_S (GA G) s.heap H locs ∧ (ex = true → G.1 + ly.length = s.heap.size + cells)
/-- where a method may return v -/
def rtAt (d : Md) (pc : Nat) (v : Option Value) : Prop := match v with
  | none => decode d.2.1 pc = .ok (.return_, 1) ∧ d.2.2.2 = none
  | some (.int x) => decode d.2.1 pc = .ok (.ireturn, 1) ∧ ∃ ty, d.2.2.2 = some ty ∧ narrow ty (.int x) = .int x
  | some (.long _) => decode d.2.1 pc = .ok (.lreturn, 1) ∧ d.2.2.2 = some .long
  | _ => False
abbrev Bq : Type := Nat × Nat × Nat × Bool
def Kr (G : Gx) (d : Md) (Q : Qt) (ex : Bool) (p : Program) (l : Launch) (e : Env) (R : Room) (s : State) (m : MethodId) (args : Array Value) (below : List Frame) (meth : Method) (c : Code) (Z : State → Prop) : Prop :=
  ∀ (v : Option Value) (ly : Ly) (M : Mm) (H : Heap) (locs : List Loc) (cells slots : Nat) (ls : Array Slot) (pc : Nat), Q v ly M → Hp G ly M s H locs cells ex → cells ≤ R.cells → slots ≤ R.slots → rtAt d pc v → W p l e R s m args below meth c H locs cells slots Z (F0 m pc ls (v.toList.map (tv G)))
def lvG (G : Gx) : Nat → List (Option Value) → List (Nat × Value)
  | _, [] => []
  | i, some v :: r => (i, tv G v) :: lvG G (i + 1) r
  | i, none :: r => lvG G (i + 1) r
def Rn (G : Gx) (l : Launch) (d : Md) (b : Bq) (pc : Nat) (lv : List (Option Value)) (st : List Value) (ly : Ly) (M : Mm) (Q : Qt) : Prop :=
  ∀ (p : Program) (e : Env) (R : Room) (s : State) (m : MethodId) (args : Array Value) (below : List Frame) (meth : Method) (c : Code) (H : Heap) (locs : List Loc) (cells slots : Nat) (ls : Array Slot) (Z : State → Prop),
    Cx G d p s m args meth c → Hp G ly M s H locs cells b.2.2.2 → (b.1 ≤ R.frames ∧ 64 * b.1 ≤ R.locals ∧ cells + b.2.1 ≤ R.cells ∧ slots + b.2.2.1 ≤ R.slots) → lv_has ls d.2.2.1 (lvG G 0 lv) → Kr G d Q b.2.2.2 p l e R s m args below meth c Z →
    W p l e R s m args below meth c H locs cells slots Z (F0 m pc ls (st.map (tv G)))
section RN
variable {G : Gx} {l : Launch} {d : Md} {b : Bq} {pc n : Nat} {lv : List (Option Value)} {st : List Value} {ly : Ly} {M : Mm} {Q : Qt}
theorem lvG_mem {v : Value} : ∀ (lv : List (Option Value)) (i k : Nat), lv[k]? = some (some v) → (i + k, tv G v) ∈ lvG G i lv
  | [], i, k, h => by simp at h
  | some w :: r, i, 0, h => by
    simp at h
    subst h
    exact List.mem_cons_self
  | some w :: r, i, k + 1, h => by
    have := lvG_mem r (i + 1) k (by simpa using h)
    rw [show i + 1 + k = i + (k + 1) by omega] at this
    exact List.mem_cons_of_mem _ this
  | none :: r, i, 0, h => by simp at h
  | none :: r, i, k + 1, h => by
    have := lvG_mem r (i + 1) k (by simpa using h)
    rw [show i + 1 + k = i + (k + 1) by omega] at this
    exact this
theorem lvG_of : ∀ (lv : List (Option Value)) (i : Nat) (q : Nat × Value), q ∈ lvG G i lv → ∃ (k : Nat) (v : Value), lv[k]? = some (some v) ∧ q = (i + k, tv G v)
  | [], i, q, h => by simp [lvG] at h
  | some w :: r, i, q, h => by
    rcases List.mem_cons.mp h with rfl | h
    · exact ⟨0, w, rfl, rfl⟩
    · obtain ⟨k, v, h1, h2⟩ := lvG_of r (i + 1) q h
      exact ⟨k + 1, v, by simpa using h1, by rw [h2]; congr 1; omega⟩
  | none :: r, i, q, h => by
    obtain ⟨k, v, h1, h2⟩ := lvG_of r (i + 1) q h
    exact ⟨k + 1, v, by simpa using h1, by rw [h2]; congr 1; omega⟩
theorem tv_cat (G : Gx) (v : Value) : (tv G v).category = v.category := by cases v <;> rfl
/-- a local is read -/
theorem lv_get {ls : Array Slot} {nL i : Nat} {v : Value} (h : lv_has ls nL (lvG G 0 lv)) (hv : lv[i]? = some (some v)) : ls[i]? = some (.val (tv G v)) := by
  have := h.2.2 _ (lvG_mem lv 0 i hv)
  simpa using this
def k2o (v : Option Value) : Option Value := match v with
  | some (.long _) => none
  | some (.double _) => none
  | v => v
/-- a value of one slot comes to i -/
def st1 (lv : List (Option Value)) (i : Nat) (v : Value) : List (Option Value) := match lv, i with
  | [], _ => []
  | _ :: r, 0 => some v :: r
  | a :: r, 1 => k2o a :: st1 r 0 v
  | a :: r, k + 2 => a :: st1 r (k + 1) v
theorem st1_get {v : Value} : ∀ (lv : List (Option Value)) (i k : Nat) (w : Value), (st1 lv i v)[k]? = some (some w) → (k = i ∧ w = v) ∨ (k ≠ i ∧ lv[k]? = some (some w) ∧ ¬ (k + 1 = i ∧ w.category = 2))
  | [], i, k, w, h => by simp [st1] at h
  | a :: r, 0, k, w, h => by
    cases k with
    | zero =>
      simp [st1] at h
      exact Or.inl ⟨rfl, h.symm⟩
    | succ k =>
      simp [st1] at h
      exact Or.inr ⟨by omega, by simpa using h, by omega⟩
  | a :: r, 1, k, w, h => by
    cases k with
    | zero =>
      simp only [st1, List.getElem?_cons_zero, Option.some.injEq] at h
      refine Or.inr ⟨by omega, ?_, ?_⟩
      · cases a with
        | none => simp [k2o] at h
        | some x => cases x <;> simp_all [k2o]
      · intro hc
        cases a with
        | none => simp [k2o] at h
        | some x =>
          have hc := hc.2
          cases x <;> simp_all [k2o, Value.category] <;> (subst h; simp at hc)
    | succ k =>
      simp only [st1, List.getElem?_cons_succ] at h
      rcases st1_get r 0 k w h with ⟨h1, h2⟩ | ⟨h1, h2, h3⟩
      · exact Or.inl ⟨by omega, h2⟩
      · exact Or.inr ⟨by omega, by simpa using h2, by omega⟩
  | a :: r, i + 2, k, w, h => by
    cases k with
    | zero =>
      simp only [st1, List.getElem?_cons_zero] at h
      exact Or.inr ⟨by omega, by simpa using h, by omega⟩
    | succ k =>
      simp only [st1, List.getElem?_cons_succ] at h
      rcases st1_get r (i + 1) k w h with ⟨h1, h2⟩ | ⟨h1, h2, h3⟩
      · exact Or.inl ⟨by omega, h2⟩
      · exact Or.inr ⟨by omega, by simpa using h2, by omega⟩
theorem lvG_st1 {i : Nat} {v : Value} : ∀ q ∈ lvG G 0 (st1 lv i v), q ∈ (i, tv G v) :: (lvG G 0 lv).filter (fun q => !(q.1 == i) && !(q.1 + 1 == i && q.2.category == 2)) := by
  intro q hq
  obtain ⟨k, w, h1, rfl⟩ := lvG_of _ 0 q hq
  rcases st1_get lv i k w h1 with ⟨rfl, rfl⟩ | ⟨h2, h3, h4⟩
  · simp
  · refine List.mem_cons_of_mem _ (List.mem_filter.mpr ⟨lvG_mem lv 0 k h3, ?_⟩)
    simp only [Nat.zero_add, tv_cat]
    simp only [Bool.and_eq_true, Bool.not_eq_true', beq_eq_false_iff_ne, ne_eq, Bool.and_eq_false_imp, beq_iff_eq]
    exact ⟨h2, fun h5 h6 => h4 ⟨h5, h6⟩⟩
/-- a long comes to i -/
def st2 (lv : List (Option Value)) (i : Nat) (v : Value) : List (Option Value) := match lv, i with
  | [], _ => []
  | _ :: [], 0 => some v :: []
  | _ :: _ :: r, 0 => some v :: none :: r
  | a :: r, 1 => k2o a :: st2 r 0 v
  | a :: r, k + 2 => a :: st2 r (k + 1) v
theorem st2_get {v : Value} : ∀ (lv : List (Option Value)) (i k : Nat) (w : Value), (st2 lv i v)[k]? = some (some w) → (k = i ∧ w = v) ∨ (k ≠ i ∧ k ≠ i + 1 ∧ lv[k]? = some (some w) ∧ ¬ (k + 1 = i ∧ w.category = 2))
  | [], i, k, w, h => by simp [st2] at h
  | [a], 0, k, w, h => by
    cases k with
    | zero =>
      simp [st2] at h
      exact Or.inl ⟨rfl, h.symm⟩
    | succ k => simp [st2] at h
  | a :: a2 :: r, 0, k, w, h => by
    cases k with
    | zero =>
      simp [st2] at h
      exact Or.inl ⟨rfl, h.symm⟩
    | succ k =>
      cases k with
      | zero => simp [st2] at h
      | succ k =>
        simp [st2] at h
        exact Or.inr ⟨by omega, by omega, by simpa using h, by omega⟩
  | a :: r, 1, k, w, h => by
    cases k with
    | zero =>
      simp only [st2, List.getElem?_cons_zero, Option.some.injEq] at h
      refine Or.inr ⟨by omega, by omega, ?_, ?_⟩
      · cases a with
        | none => simp [k2o] at h
        | some x => cases x <;> simp_all [k2o]
      · intro hc
        cases a with
        | none => simp [k2o] at h
        | some x =>
          have hc := hc.2
          cases x <;> simp_all [k2o, Value.category] <;> (subst h; simp at hc)
    | succ k =>
      simp only [st2, List.getElem?_cons_succ] at h
      rcases st2_get r 0 k w h with ⟨h1, h2⟩ | ⟨h1, h2, h3, h4⟩
      · exact Or.inl ⟨by omega, h2⟩
      · exact Or.inr ⟨by omega, by omega, by simpa using h3, by omega⟩
  | a :: r, i + 2, k, w, h => by
    cases k with
    | zero =>
      simp only [st2, List.getElem?_cons_zero] at h
      exact Or.inr ⟨by omega, by omega, by simpa using h, by omega⟩
    | succ k =>
      simp only [st2, List.getElem?_cons_succ] at h
      rcases st2_get r (i + 1) k w h with ⟨h1, h2⟩ | ⟨h1, h2, h3, h4⟩
      · exact Or.inl ⟨by omega, h2⟩
      · exact Or.inr ⟨by omega, by omega, by simpa using h3, by omega⟩
theorem lvG_st2 {i : Nat} {v : Value} : ∀ q ∈ lvG G 0 (st2 lv i v), q ∈ (i, tv G v) :: (lvG G 0 lv).filter (fun q => !(q.1 == i) && (!(q.1 == i + 1) && !(q.1 + 1 == i && q.2.category == 2))) := by
  intro q hq
  obtain ⟨k, w, h1, rfl⟩ := lvG_of _ 0 q hq
  rcases st2_get lv i k w h1 with ⟨rfl, rfl⟩ | ⟨h2, h2', h3, h4⟩
  · simp
  · refine List.mem_cons_of_mem _ (List.mem_filter.mpr ⟨lvG_mem lv 0 k h3, ?_⟩)
    simp only [Nat.zero_add, tv_cat]
    simp only [Bool.and_eq_true, Bool.not_eq_true', beq_eq_false_iff_ne, ne_eq, Bool.and_eq_false_imp, beq_iff_eq]
    exact ⟨h2, h2', fun h5 h6 => h4 ⟨h5, h6⟩⟩
theorem lv_less {ls : Array Slot} {nL : Nat} {l1 l2 : List (Nat × Value)} (h : lv_has ls nL l1) (hs : ∀ q ∈ l2, q ∈ l1) : lv_has ls nL l2 := ⟨h.1, h.2.1, fun q hq => h.2.2 q (hs q hq)⟩

theorem Rn.iconst {i : Int} (hd : Dc d.2.1 pc n (.iconst i) 1) (k : Rn G l d b n lv (.int (Int32.ofInt i) :: st) ly M Q) : Rn G l d b pc lv (st) ly M Q := by
  obtain ⟨hd, rfl⟩ := hd
  intro p e R s m args below meth c H locs cells slots ls Z hC hH hB hl hK
  exact lv_iconst hC.hx hC.hb hd rfl (k p e R s m args below meth c H locs cells slots ls Z hC hH hB hl hK)
theorem Rn.bipush {i : Int} (hd : Dc d.2.1 pc n (.bipush i) 2) (k : Rn G l d b n lv (.int (Int8.ofInt i).toInt32 :: st) ly M Q) : Rn G l d b pc lv (st) ly M Q := by
  obtain ⟨hd, rfl⟩ := hd
  intro p e R s m args below meth c H locs cells slots ls Z hC hH hB hl hK
  exact lv_bipush hC.hx hC.hb hd rfl (k p e R s m args below meth c H locs cells slots ls Z hC hH hB hl hK)
theorem Rn.sipush {i : Int} (hd : Dc d.2.1 pc n (.sipush i) 3) (k : Rn G l d b n lv (.int (Int16.ofInt i).toInt32 :: st) ly M Q) : Rn G l d b pc lv (st) ly M Q := by
  obtain ⟨hd, rfl⟩ := hd
  intro p e R s m args below meth c H locs cells slots ls Z hC hH hB hl hK
  exact lv_sipush hC.hx hC.hb hd rfl (k p e R s m args below meth c H locs cells slots ls Z hC hH hB hl hK)
theorem Rn.iconstv {i : Int} {v : Int32} (hd : Dc d.2.1 pc n (.iconst i) 1) (hv : Int32.ofInt i = v) (k : Rn G l d b n lv (.int v :: st) ly M Q) : Rn G l d b pc lv (st) ly M Q := by
  obtain ⟨hd, rfl⟩ := hd
  intro p e R s m args below meth c H locs cells slots ls Z hC hH hB hl hK
  exact lv_iconst hC.hx hC.hb hd hv (k p e R s m args below meth c H locs cells slots ls Z hC hH hB hl hK)
theorem Rn.bipushv {i : Int} {v : Int32} (hd : Dc d.2.1 pc n (.bipush i) 2) (hv : (Int8.ofInt i).toInt32 = v) (k : Rn G l d b n lv (.int v :: st) ly M Q) : Rn G l d b pc lv (st) ly M Q := by
  obtain ⟨hd, rfl⟩ := hd
  intro p e R s m args below meth c H locs cells slots ls Z hC hH hB hl hK
  exact lv_bipush hC.hx hC.hb hd hv (k p e R s m args below meth c H locs cells slots ls Z hC hH hB hl hK)
theorem Rn.sipushv {i : Int} {v : Int32} (hd : Dc d.2.1 pc n (.sipush i) 3) (hv : (Int16.ofInt i).toInt32 = v) (k : Rn G l d b n lv (.int v :: st) ly M Q) : Rn G l d b pc lv (st) ly M Q := by
  obtain ⟨hd, rfl⟩ := hd
  intro p e R s m args below meth c H locs cells slots ls Z hC hH hB hl hK
  exact lv_sipush hC.hx hC.hb hd hv (k p e R s m args below meth c H locs cells slots ls Z hC hH hB hl hK)
theorem Rn.lconstv {i : Fin 2} {v : Int64} (hd : Dc d.2.1 pc n (.lconst i) 1) (hv : Int64.ofNat (i : Nat) = v) (k : Rn G l d b n lv (.long v :: st) ly M Q) : Rn G l d b pc lv (st) ly M Q := by
  obtain ⟨hd, rfl⟩ := hd
  intro p e R s m args below meth c H locs cells slots ls Z hC hH hB hl hK
  exact lv_lconst hC.hx hC.hb hd hv (k p e R s m args below meth c H locs cells slots ls Z hC hH hB hl hK)
theorem Rn.ldc {i : Nat} {v : Int32} (hd : Dc d.2.1 pc n (.ldc i) 2) (hw : Cond.constant d.1.cls i v ∈ TB) (k : Rn G l d b n lv (.int v :: st) ly M Q) : Rn G l d b pc lv (st) ly M Q := by
  obtain ⟨hd, rfl⟩ := hd
  intro p e R s m args below meth c H locs cells slots ls Z hC hH hB hl hK
  exact lv_ldc hC.hx hC.hb hC.hown (hC.hts _ hw) hd (k p e R s m args below meth c H locs cells slots ls Z hC hH hB hl hK)
theorem Rn.ldcw {i : Nat} {v : Int32} (hd : Dc d.2.1 pc n (.ldc_w i) 3) (hw : Cond.constant d.1.cls i v ∈ TB) (k : Rn G l d b n lv (.int v :: st) ly M Q) : Rn G l d b pc lv (st) ly M Q := by
  obtain ⟨hd, rfl⟩ := hd
  intro p e R s m args below meth c H locs cells slots ls Z hC hH hB hl hK
  exact lv_ldcw hC.hx hC.hb hC.hown (hC.hts _ hw) hd (k p e R s m args below meth c H locs cells slots ls Z hC hH hB hl hK)
theorem Rn.ldc2 {i : Nat} {v : Int64} (hd : Dc d.2.1 pc n (.ldc2_w i) 3) (hw : Cond.constantLong d.1.cls i v ∈ TB) (k : Rn G l d b n lv (.long v :: st) ly M Q) : Rn G l d b pc lv (st) ly M Q := by
  obtain ⟨hd, rfl⟩ := hd
  intro p e R s m args below meth c H locs cells slots ls Z hC hH hB hl hK
  exact lv_ldc2 hC.hx hC.hb hC.hown (hC.hts _ hw) hd (k p e R s m args below meth c H locs cells slots ls Z hC hH hB hl hK)
theorem Rn.iadd {x y : Int32} (hd : Dc d.2.1 pc n (.iadd) 1) (k : Rn G l d b n lv (.int (x + y) :: st) ly M Q) : Rn G l d b pc lv (.int y :: .int x :: st) ly M Q := by
  obtain ⟨hd, rfl⟩ := hd
  intro p e R s m args below meth c H locs cells slots ls Z hC hH hB hl hK
  exact lv_iadd hC.hx hC.hb hd (k p e R s m args below meth c H locs cells slots ls Z hC hH hB hl hK)
theorem Rn.isub {x y : Int32} (hd : Dc d.2.1 pc n (.isub) 1) (k : Rn G l d b n lv (.int (x - y) :: st) ly M Q) : Rn G l d b pc lv (.int y :: .int x :: st) ly M Q := by
  obtain ⟨hd, rfl⟩ := hd
  intro p e R s m args below meth c H locs cells slots ls Z hC hH hB hl hK
  exact lv_isub hC.hx hC.hb hd (k p e R s m args below meth c H locs cells slots ls Z hC hH hB hl hK)
theorem Rn.imul {x y : Int32} (hd : Dc d.2.1 pc n (.imul) 1) (k : Rn G l d b n lv (.int (x * y) :: st) ly M Q) : Rn G l d b pc lv (.int y :: .int x :: st) ly M Q := by
  obtain ⟨hd, rfl⟩ := hd
  intro p e R s m args below meth c H locs cells slots ls Z hC hH hB hl hK
  exact lv_imul hC.hx hC.hb hd (k p e R s m args below meth c H locs cells slots ls Z hC hH hB hl hK)
theorem Rn.iand {x y : Int32} (hd : Dc d.2.1 pc n (.iand) 1) (k : Rn G l d b n lv (.int (x &&& y) :: st) ly M Q) : Rn G l d b pc lv (.int y :: .int x :: st) ly M Q := by
  obtain ⟨hd, rfl⟩ := hd
  intro p e R s m args below meth c H locs cells slots ls Z hC hH hB hl hK
  exact lv_iand hC.hx hC.hb hd (k p e R s m args below meth c H locs cells slots ls Z hC hH hB hl hK)
theorem Rn.ior {x y : Int32} (hd : Dc d.2.1 pc n (.ior) 1) (k : Rn G l d b n lv (.int (x ||| y) :: st) ly M Q) : Rn G l d b pc lv (.int y :: .int x :: st) ly M Q := by
  obtain ⟨hd, rfl⟩ := hd
  intro p e R s m args below meth c H locs cells slots ls Z hC hH hB hl hK
  exact lv_ior hC.hx hC.hb hd (k p e R s m args below meth c H locs cells slots ls Z hC hH hB hl hK)
theorem Rn.ixor {x y : Int32} (hd : Dc d.2.1 pc n (.ixor) 1) (k : Rn G l d b n lv (.int (x ^^^ y) :: st) ly M Q) : Rn G l d b pc lv (.int y :: .int x :: st) ly M Q := by
  obtain ⟨hd, rfl⟩ := hd
  intro p e R s m args below meth c H locs cells slots ls Z hC hH hB hl hK
  exact lv_ixor hC.hx hC.hb hd (k p e R s m args below meth c H locs cells slots ls Z hC hH hB hl hK)
theorem Rn.ishl {x y : Int32} (hd : Dc d.2.1 pc n (.ishl) 1) (k : Rn G l d b n lv (.int (x <<< (y &&& 31)) :: st) ly M Q) : Rn G l d b pc lv (.int y :: .int x :: st) ly M Q := by
  obtain ⟨hd, rfl⟩ := hd
  intro p e R s m args below meth c H locs cells slots ls Z hC hH hB hl hK
  exact lv_ishl hC.hx hC.hb hd (k p e R s m args below meth c H locs cells slots ls Z hC hH hB hl hK)
theorem Rn.ishr {x y : Int32} (hd : Dc d.2.1 pc n (.ishr) 1) (k : Rn G l d b n lv (.int (x >>> (y &&& 31)) :: st) ly M Q) : Rn G l d b pc lv (.int y :: .int x :: st) ly M Q := by
  obtain ⟨hd, rfl⟩ := hd
  intro p e R s m args below meth c H locs cells slots ls Z hC hH hB hl hK
  exact lv_ishr hC.hx hC.hb hd (k p e R s m args below meth c H locs cells slots ls Z hC hH hB hl hK)
theorem Rn.idiv {x y : Int32} (hd : Dc d.2.1 pc n (.idiv) 1) (hne : ¬ y = 0) (k : Rn G l d b n lv (.int (x / y) :: st) ly M Q) : Rn G l d b pc lv (.int y :: .int x :: st) ly M Q := by
  obtain ⟨hd, rfl⟩ := hd
  intro p e R s m args below meth c H locs cells slots ls Z hC hH hB hl hK
  exact lv_idiv hC.hx hC.hb hd hne (k p e R s m args below meth c H locs cells slots ls Z hC hH hB hl hK)
theorem Rn.irem {x y : Int32} (hd : Dc d.2.1 pc n (.irem) 1) (hne : ¬ y = 0) (k : Rn G l d b n lv (.int (x - x / y * y) :: st) ly M Q) : Rn G l d b pc lv (.int y :: .int x :: st) ly M Q := by
  obtain ⟨hd, rfl⟩ := hd
  intro p e R s m args below meth c H locs cells slots ls Z hC hH hB hl hK
  exact lv_irem hC.hx hC.hb hd hne (k p e R s m args below meth c H locs cells slots ls Z hC hH hB hl hK)
theorem Rn.ineg {x : Int32} (hd : Dc d.2.1 pc n (.ineg) 1) (k : Rn G l d b n lv (.int (-x) :: st) ly M Q) : Rn G l d b pc lv (.int x :: st) ly M Q := by
  obtain ⟨hd, rfl⟩ := hd
  intro p e R s m args below meth c H locs cells slots ls Z hC hH hB hl hK
  exact lv_ineg hC.hx hC.hb hd (k p e R s m args below meth c H locs cells slots ls Z hC hH hB hl hK)
theorem Rn.ladd {x y : Int64} (hd : Dc d.2.1 pc n (.ladd) 1) (k : Rn G l d b n lv (.long (x + y) :: st) ly M Q) : Rn G l d b pc lv (.long y :: .long x :: st) ly M Q := by
  obtain ⟨hd, rfl⟩ := hd
  intro p e R s m args below meth c H locs cells slots ls Z hC hH hB hl hK
  exact lv_ladd hC.hx hC.hb hd (k p e R s m args below meth c H locs cells slots ls Z hC hH hB hl hK)
theorem Rn.lsub {x y : Int64} (hd : Dc d.2.1 pc n (.lsub) 1) (k : Rn G l d b n lv (.long (x - y) :: st) ly M Q) : Rn G l d b pc lv (.long y :: .long x :: st) ly M Q := by
  obtain ⟨hd, rfl⟩ := hd
  intro p e R s m args below meth c H locs cells slots ls Z hC hH hB hl hK
  exact lv_lsub hC.hx hC.hb hd (k p e R s m args below meth c H locs cells slots ls Z hC hH hB hl hK)
theorem Rn.lmul {x y : Int64} (hd : Dc d.2.1 pc n (.lmul) 1) (k : Rn G l d b n lv (.long (x * y) :: st) ly M Q) : Rn G l d b pc lv (.long y :: .long x :: st) ly M Q := by
  obtain ⟨hd, rfl⟩ := hd
  intro p e R s m args below meth c H locs cells slots ls Z hC hH hB hl hK
  exact lv_lmul hC.hx hC.hb hd (k p e R s m args below meth c H locs cells slots ls Z hC hH hB hl hK)
theorem Rn.land {x y : Int64} (hd : Dc d.2.1 pc n (.land) 1) (k : Rn G l d b n lv (.long (x &&& y) :: st) ly M Q) : Rn G l d b pc lv (.long y :: .long x :: st) ly M Q := by
  obtain ⟨hd, rfl⟩ := hd
  intro p e R s m args below meth c H locs cells slots ls Z hC hH hB hl hK
  exact lv_land hC.hx hC.hb hd (k p e R s m args below meth c H locs cells slots ls Z hC hH hB hl hK)
theorem Rn.lor {x y : Int64} (hd : Dc d.2.1 pc n (.lor) 1) (k : Rn G l d b n lv (.long (x ||| y) :: st) ly M Q) : Rn G l d b pc lv (.long y :: .long x :: st) ly M Q := by
  obtain ⟨hd, rfl⟩ := hd
  intro p e R s m args below meth c H locs cells slots ls Z hC hH hB hl hK
  exact lv_lor hC.hx hC.hb hd (k p e R s m args below meth c H locs cells slots ls Z hC hH hB hl hK)
theorem Rn.ldiv {x y : Int64} (hd : Dc d.2.1 pc n (.ldiv) 1) (hne : ¬ y = 0) (k : Rn G l d b n lv (.long (x / y) :: st) ly M Q) : Rn G l d b pc lv (.long y :: .long x :: st) ly M Q := by
  obtain ⟨hd, rfl⟩ := hd
  intro p e R s m args below meth c H locs cells slots ls Z hC hH hB hl hK
  exact lv_ldiv hC.hx hC.hb hd hne (k p e R s m args below meth c H locs cells slots ls Z hC hH hB hl hK)
theorem Rn.lcmp {x y : Int64} (hd : Dc d.2.1 pc n (.lcmp) 1) (k : Rn G l d b n lv (.int (lg_cmp x y) :: st) ly M Q) : Rn G l d b pc lv (.long y :: .long x :: st) ly M Q := by
  obtain ⟨hd, rfl⟩ := hd
  intro p e R s m args below meth c H locs cells slots ls Z hC hH hB hl hK
  exact W.lcmp hC.hx hC.hb hd (k p e R s m args below meth c H locs cells slots ls Z hC hH hB hl hK)
theorem Rn.i2l {x : Int32} (hd : Dc d.2.1 pc n (.i2l) 1) (k : Rn G l d b n lv (.long x.toInt64 :: st) ly M Q) : Rn G l d b pc lv (.int x :: st) ly M Q := by
  obtain ⟨hd, rfl⟩ := hd
  intro p e R s m args below meth c H locs cells slots ls Z hC hH hB hl hK
  exact lv_i2l hC.hx hC.hb hd rfl (k p e R s m args below meth c H locs cells slots ls Z hC hH hB hl hK)
theorem Rn.l2i {x : Int64} (hd : Dc d.2.1 pc n (.l2i) 1) (k : Rn G l d b n lv (.int x.toInt32 :: st) ly M Q) : Rn G l d b pc lv (.long x :: st) ly M Q := by
  obtain ⟨hd, rfl⟩ := hd
  intro p e R s m args below meth c H locs cells slots ls Z hC hH hB hl hK
  exact lv_l2i hC.hx hC.hb hd rfl (k p e R s m args below meth c H locs cells slots ls Z hC hH hB hl hK)
theorem Rn.i2b {x : Int32} (hd : Dc d.2.1 pc n (.i2b) 1) (k : Rn G l d b n lv (.int x.toInt8.toInt32 :: st) ly M Q) : Rn G l d b pc lv (.int x :: st) ly M Q := by
  obtain ⟨hd, rfl⟩ := hd
  intro p e R s m args below meth c H locs cells slots ls Z hC hH hB hl hK
  exact lv_i2b hC.hx hC.hb hd rfl (k p e R s m args below meth c H locs cells slots ls Z hC hH hB hl hK)
theorem Rn.iushr {x y : Int32} (hd : Dc d.2.1 pc n (.iushr) 1) (k : Rn G l d b n lv (.int (x.toUInt32 >>> (y.toUInt32 &&& Int32.toUInt32 31)).toInt32 :: st) ly M Q) : Rn G l d b pc lv (.int y :: .int x :: st) ly M Q := by
  obtain ⟨hd, rfl⟩ := hd
  intro p e R s m args below meth c H locs cells slots ls Z hC hH hB hl hK
  exact lv_iushr hC.hx hC.hb hd rfl (k p e R s m args below meth c H locs cells slots ls Z hC hH hB hl hK)
theorem Rn.lushr {x : Int64} {y : Int32} (hd : Dc d.2.1 pc n (.lushr) 1) (k : Rn G l d b n lv (.long (x.toUInt64 >>> (y.toInt64.toUInt64 &&& Int64.toUInt64 63)).toInt64 :: st) ly M Q) : Rn G l d b pc lv (.int y :: .long x :: st) ly M Q := by
  obtain ⟨hd, rfl⟩ := hd
  intro p e R s m args below meth c H locs cells slots ls Z hC hH hB hl hK
  exact lv_lushr hC.hx hC.hb hd rfl (k p e R s m args below meth c H locs cells slots ls Z hC hH hB hl hK)
theorem Rn.lshl {x : Int64} {y : Int32} (hd : Dc d.2.1 pc n (.lshl) 1) (k : Rn G l d b n lv (.long (x <<< (y.toInt64 &&& 63)) :: st) ly M Q) : Rn G l d b pc lv (.int y :: .long x :: st) ly M Q := by
  obtain ⟨hd, rfl⟩ := hd
  intro p e R s m args below meth c H locs cells slots ls Z hC hH hB hl hK
  exact lv_lshl hC.hx hC.hb hd rfl (k p e R s m args below meth c H locs cells slots ls Z hC hH hB hl hK)
theorem Rn.dup {v : Value} (hd : Dc d.2.1 pc n (.dup) 1) (hc : v.category = 1) (k : Rn G l d b n lv (v :: v :: st) ly M Q) : Rn G l d b pc lv (v :: st) ly M Q := by
  obtain ⟨hd, rfl⟩ := hd
  intro p e R s m args below meth c H locs cells slots ls Z hC hH hB hl hK
  exact lv_dup hC.hx hC.hb hd ((tv_cat G v).trans hc) (k p e R s m args below meth c H locs cells slots ls Z hC hH hB hl hK)
theorem Rn.dup2 {v w : Value} (hd : Dc d.2.1 pc n (.dup2) 1) (hc : v.category = 1) (hc2 : w.category = 1) (k : Rn G l d b n lv (v :: w :: v :: w :: st) ly M Q) : Rn G l d b pc lv (v :: w :: st) ly M Q := by
  obtain ⟨hd, rfl⟩ := hd
  intro p e R s m args below meth c H locs cells slots ls Z hC hH hB hl hK
  exact lv_dup2_11 hC.hx hC.hb hd ((tv_cat G v).trans hc) ((tv_cat G w).trans hc2) (k p e R s m args below meth c H locs cells slots ls Z hC hH hB hl hK)
theorem Rn.pop {v : Value} (hd : Dc d.2.1 pc n (.pop) 1) (hc : v.category = 1) (k : Rn G l d b n lv (st) ly M Q) : Rn G l d b pc lv (v :: st) ly M Q := by
  obtain ⟨hd, rfl⟩ := hd
  intro p e R s m args below meth c H locs cells slots ls Z hC hH hB hl hK
  exact lv_pop hC.hx hC.hb hd ((tv_cat G v).trans hc) (k p e R s m args below meth c H locs cells slots ls Z hC hH hB hl hK)
theorem Rn.iload_n {k0 : Fin 4} {x : Int32} (hd : Dc d.2.1 pc n (.iload_n k0) 1) (hv : lv[(k0 : Nat)]? = some (some (.int x))) (k : Rn G l d b n lv (.int x :: st) ly M Q) : Rn G l d b pc lv st ly M Q := by
  obtain ⟨hd, rfl⟩ := hd
  intro p e R s m args below meth c H locs cells slots ls Z hC hH hB hl hK
  exact lv_iload_n hC.hx hC.hb hd rfl (lv_get hl hv) (k p e R s m args below meth c H locs cells slots ls Z hC hH hB hl hK)
theorem Rn.iload {i : Nat} {x : Int32} (hd : Dc d.2.1 pc n (.iload i) 2) (hv : lv[i]? = some (some (.int x))) (k : Rn G l d b n lv (.int x :: st) ly M Q) : Rn G l d b pc lv st ly M Q := by
  obtain ⟨hd, rfl⟩ := hd
  intro p e R s m args below meth c H locs cells slots ls Z hC hH hB hl hK
  exact lv_iload hC.hx hC.hb hd (lv_get hl hv) (k p e R s m args below meth c H locs cells slots ls Z hC hH hB hl hK)
theorem Rn.istore_n {k0 : Fin 4} {x : Int32} {lv' : List (Option Value)} (hd : Dc d.2.1 pc n (.istore_n k0) 1) (hn : (k0 : Nat) < d.2.2.1) (hs : st1 lv k0 (.int x) = lv') (k : Rn G l d b n lv' st ly M Q) : Rn G l d b pc lv (.int x :: st) ly M Q := by
  obtain ⟨hd, rfl⟩ := hd
  subst hs
  intro p e R s m args below meth c H locs cells slots ls Z hC hH hB hl hK
  exact lv_istore_n hC.hx hC.hb hd rfl hl hn rfl (fun ls hl => k p e R s m args below meth c H locs cells slots ls Z hC hH hB (lv_less hl lvG_st1) hK)
theorem Rn.istore {i : Nat} {x : Int32} {lv' : List (Option Value)} (hd : Dc d.2.1 pc n (.istore i) 2) (hn : i < d.2.2.1) (hs : st1 lv i (.int x) = lv') (k : Rn G l d b n lv' st ly M Q) : Rn G l d b pc lv (.int x :: st) ly M Q := by
  obtain ⟨hd, rfl⟩ := hd
  subst hs
  intro p e R s m args below meth c H locs cells slots ls Z hC hH hB hl hK
  exact lv_istore hC.hx hC.hb hd hl hn rfl (fun ls hl => k p e R s m args below meth c H locs cells slots ls Z hC hH hB (lv_less hl lvG_st1) hK)
theorem Rn.lload_n {k0 : Fin 4} {x : Int64} (hd : Dc d.2.1 pc n (.lload_n k0) 1) (hv : lv[(k0 : Nat)]? = some (some (.long x))) (k : Rn G l d b n lv (.long x :: st) ly M Q) : Rn G l d b pc lv st ly M Q := by
  obtain ⟨hd, rfl⟩ := hd
  intro p e R s m args below meth c H locs cells slots ls Z hC hH hB hl hK
  exact lv_lload_n hC.hx hC.hb hd rfl (lv_get hl hv) (k p e R s m args below meth c H locs cells slots ls Z hC hH hB hl hK)
theorem Rn.lload {i : Nat} {x : Int64} (hd : Dc d.2.1 pc n (.lload i) 2) (hv : lv[i]? = some (some (.long x))) (k : Rn G l d b n lv (.long x :: st) ly M Q) : Rn G l d b pc lv st ly M Q := by
  obtain ⟨hd, rfl⟩ := hd
  intro p e R s m args below meth c H locs cells slots ls Z hC hH hB hl hK
  exact lv_lload hC.hx hC.hb hd (lv_get hl hv) (k p e R s m args below meth c H locs cells slots ls Z hC hH hB hl hK)
theorem Rn.lstore_n {k0 : Fin 4} {x : Int64} {lv' : List (Option Value)} (hd : Dc d.2.1 pc n (.lstore_n k0) 1) (hn : (k0 : Nat) + 1 < d.2.2.1) (hs : st2 lv k0 (.long x) = lv') (k : Rn G l d b n lv' st ly M Q) : Rn G l d b pc lv (.long x :: st) ly M Q := by
  obtain ⟨hd, rfl⟩ := hd
  subst hs
  intro p e R s m args below meth c H locs cells slots ls Z hC hH hB hl hK
  exact lv_lstore_n hC.hx hC.hb hd rfl hl hn rfl (fun ls hl => k p e R s m args below meth c H locs cells slots ls Z hC hH hB (lv_less hl lvG_st2) hK)
theorem Rn.lstore {i : Nat} {x : Int64} {lv' : List (Option Value)} (hd : Dc d.2.1 pc n (.lstore i) 2) (hn : i + 1 < d.2.2.1) (hs : st2 lv i (.long x) = lv') (k : Rn G l d b n lv' st ly M Q) : Rn G l d b pc lv (.long x :: st) ly M Q := by
  obtain ⟨hd, rfl⟩ := hd
  subst hs
  intro p e R s m args below meth c H locs cells slots ls Z hC hH hB hl hK
  exact lv_lstore hC.hx hC.hb hd hl hn rfl (fun ls hl => k p e R s m args below meth c H locs cells slots ls Z hC hH hB (lv_less hl lvG_st2) hK)
theorem Rn.aload_n {k0 : Fin 4} {x : Nat} (hd : Dc d.2.1 pc n (.aload_n k0) 1) (hv : lv[(k0 : Nat)]? = some (some (.ref x))) (k : Rn G l d b n lv (.ref x :: st) ly M Q) : Rn G l d b pc lv st ly M Q := by
  obtain ⟨hd, rfl⟩ := hd
  intro p e R s m args below meth c H locs cells slots ls Z hC hH hB hl hK
  exact lv_aload_n hC.hx hC.hb hd rfl (lv_get hl hv) (k p e R s m args below meth c H locs cells slots ls Z hC hH hB hl hK)
theorem Rn.aload {i : Nat} {x : Nat} (hd : Dc d.2.1 pc n (.aload i) 2) (hv : lv[i]? = some (some (.ref x))) (k : Rn G l d b n lv (.ref x :: st) ly M Q) : Rn G l d b pc lv st ly M Q := by
  obtain ⟨hd, rfl⟩ := hd
  intro p e R s m args below meth c H locs cells slots ls Z hC hH hB hl hK
  exact lv_aload hC.hx hC.hb hd (lv_get hl hv) (k p e R s m args below meth c H locs cells slots ls Z hC hH hB hl hK)
theorem Rn.astore_n {k0 : Fin 4} {x : Nat} {lv' : List (Option Value)} (hd : Dc d.2.1 pc n (.astore_n k0) 1) (hn : (k0 : Nat) < d.2.2.1) (hs : st1 lv k0 (.ref x) = lv') (k : Rn G l d b n lv' st ly M Q) : Rn G l d b pc lv (.ref x :: st) ly M Q := by
  obtain ⟨hd, rfl⟩ := hd
  subst hs
  intro p e R s m args below meth c H locs cells slots ls Z hC hH hB hl hK
  exact lv_astore_n hC.hx hC.hb hd rfl hl hn rfl (fun ls hl => k p e R s m args below meth c H locs cells slots ls Z hC hH hB (lv_less hl lvG_st1) hK)
theorem Rn.astore {i : Nat} {x : Nat} {lv' : List (Option Value)} (hd : Dc d.2.1 pc n (.astore i) 2) (hn : i < d.2.2.1) (hs : st1 lv i (.ref x) = lv') (k : Rn G l d b n lv' st ly M Q) : Rn G l d b pc lv (.ref x :: st) ly M Q := by
  obtain ⟨hd, rfl⟩ := hd
  subst hs
  intro p e R s m args below meth c H locs cells slots ls Z hC hH hB hl hK
  exact lv_astore hC.hx hC.hb hd hl hn rfl (fun ls hl => k p e R s m args below meth c H locs cells slots ls Z hC hH hB (lv_less hl lvG_st1) hK)
theorem Rn.iinc {i : Nat} {j : Int} {x : Int32} {lv' : List (Option Value)} (hd : Dc d.2.1 pc n (.iinc i j) 3) (hv : lv[i]? = some (some (.int x))) (hn : i < d.2.2.1) (hs : st1 lv i (.int (x + Int32.ofInt j)) = lv') (k : Rn G l d b n lv' st ly M Q) : Rn G l d b pc lv st ly M Q := by
  obtain ⟨hd, rfl⟩ := hd
  subst hs
  intro p e R s m args below meth c H locs cells slots ls Z hC hH hB hl hK
  obtain ⟨k0, hk0⟩ := List.getElem?_of_mem (lvG_mem (G := G) lv 0 i hv)
  rw [Nat.zero_add] at hk0
  exact lv_iinc hC.hx hC.hb hd hl hk0 rfl hn rfl (fun ls hl => k p e R s m args below meth c H locs cells slots ls Z hC hH hB (lv_less hl lvG_st1) hK)
theorem Rn.if_eq {x : Int32} {t : Nat} {off : Int} (hd : Dj d.2.1 pc n t (.ifCond .eq off) off) (k1 : x = 0 → Rn G l d b t lv st ly M Q) (k2 : ¬ x = 0 → Rn G l d b n lv st ly M Q) : Rn G l d b pc lv (.int x :: st) ly M Q := by
  obtain ⟨hd, rfl, ht⟩ := hd
  intro p e R s m args below meth c H locs cells slots ls Z hC hH hB hl hK
  exact lv_if_eq hC.hx hC.hb hd ht (fun h => k1 h p e R s m args below meth c H locs cells slots ls Z hC hH hB hl hK) (fun h => k2 h p e R s m args below meth c H locs cells slots ls Z hC hH hB hl hK)
theorem Rn.icmp_eq {x y : Int32} {t : Nat} {off : Int} (hd : Dj d.2.1 pc n t (.if_icmp .eq off) off) (k1 : x = y → Rn G l d b t lv st ly M Q) (k2 : ¬ x = y → Rn G l d b n lv st ly M Q) : Rn G l d b pc lv (.int y :: .int x :: st) ly M Q := by
  obtain ⟨hd, rfl, ht⟩ := hd
  intro p e R s m args below meth c H locs cells slots ls Z hC hH hB hl hK
  exact lv_icmp_eq hC.hx hC.hb hd ht (fun h => k1 h p e R s m args below meth c H locs cells slots ls Z hC hH hB hl hK) (fun h => k2 h p e R s m args below meth c H locs cells slots ls Z hC hH hB hl hK)
theorem Rn.if_ne {x : Int32} {t : Nat} {off : Int} (hd : Dj d.2.1 pc n t (.ifCond .ne off) off) (k1 : ¬ x = 0 → Rn G l d b t lv st ly M Q) (k2 : x = 0 → Rn G l d b n lv st ly M Q) : Rn G l d b pc lv (.int x :: st) ly M Q := by
  obtain ⟨hd, rfl, ht⟩ := hd
  intro p e R s m args below meth c H locs cells slots ls Z hC hH hB hl hK
  exact lv_if_ne hC.hx hC.hb hd ht (fun h => k1 h p e R s m args below meth c H locs cells slots ls Z hC hH hB hl hK) (fun h => k2 h p e R s m args below meth c H locs cells slots ls Z hC hH hB hl hK)
theorem Rn.icmp_ne {x y : Int32} {t : Nat} {off : Int} (hd : Dj d.2.1 pc n t (.if_icmp .ne off) off) (k1 : ¬ x = y → Rn G l d b t lv st ly M Q) (k2 : x = y → Rn G l d b n lv st ly M Q) : Rn G l d b pc lv (.int y :: .int x :: st) ly M Q := by
  obtain ⟨hd, rfl, ht⟩ := hd
  intro p e R s m args below meth c H locs cells slots ls Z hC hH hB hl hK
  exact lv_icmp_ne hC.hx hC.hb hd ht (fun h => k1 h p e R s m args below meth c H locs cells slots ls Z hC hH hB hl hK) (fun h => k2 h p e R s m args below meth c H locs cells slots ls Z hC hH hB hl hK)
theorem Rn.if_lt {x : Int32} {t : Nat} {off : Int} (hd : Dj d.2.1 pc n t (.ifCond .lt off) off) (k1 : x < 0 → Rn G l d b t lv st ly M Q) (k2 : ¬ x < 0 → Rn G l d b n lv st ly M Q) : Rn G l d b pc lv (.int x :: st) ly M Q := by
  obtain ⟨hd, rfl, ht⟩ := hd
  intro p e R s m args below meth c H locs cells slots ls Z hC hH hB hl hK
  exact lv_if_lt hC.hx hC.hb hd ht (fun h => k1 h p e R s m args below meth c H locs cells slots ls Z hC hH hB hl hK) (fun h => k2 h p e R s m args below meth c H locs cells slots ls Z hC hH hB hl hK)
theorem Rn.icmp_lt {x y : Int32} {t : Nat} {off : Int} (hd : Dj d.2.1 pc n t (.if_icmp .lt off) off) (k1 : x < y → Rn G l d b t lv st ly M Q) (k2 : ¬ x < y → Rn G l d b n lv st ly M Q) : Rn G l d b pc lv (.int y :: .int x :: st) ly M Q := by
  obtain ⟨hd, rfl, ht⟩ := hd
  intro p e R s m args below meth c H locs cells slots ls Z hC hH hB hl hK
  exact lv_icmp_lt hC.hx hC.hb hd ht (fun h => k1 h p e R s m args below meth c H locs cells slots ls Z hC hH hB hl hK) (fun h => k2 h p e R s m args below meth c H locs cells slots ls Z hC hH hB hl hK)
theorem Rn.if_ge {x : Int32} {t : Nat} {off : Int} (hd : Dj d.2.1 pc n t (.ifCond .ge off) off) (k1 : 0 ≤ x → Rn G l d b t lv st ly M Q) (k2 : ¬ 0 ≤ x → Rn G l d b n lv st ly M Q) : Rn G l d b pc lv (.int x :: st) ly M Q := by
  obtain ⟨hd, rfl, ht⟩ := hd
  intro p e R s m args below meth c H locs cells slots ls Z hC hH hB hl hK
  exact lv_if_ge hC.hx hC.hb hd ht (fun h => k1 h p e R s m args below meth c H locs cells slots ls Z hC hH hB hl hK) (fun h => k2 h p e R s m args below meth c H locs cells slots ls Z hC hH hB hl hK)
theorem Rn.icmp_ge {x y : Int32} {t : Nat} {off : Int} (hd : Dj d.2.1 pc n t (.if_icmp .ge off) off) (k1 : y ≤ x → Rn G l d b t lv st ly M Q) (k2 : ¬ y ≤ x → Rn G l d b n lv st ly M Q) : Rn G l d b pc lv (.int y :: .int x :: st) ly M Q := by
  obtain ⟨hd, rfl, ht⟩ := hd
  intro p e R s m args below meth c H locs cells slots ls Z hC hH hB hl hK
  exact lv_icmp_ge hC.hx hC.hb hd ht (fun h => k1 h p e R s m args below meth c H locs cells slots ls Z hC hH hB hl hK) (fun h => k2 h p e R s m args below meth c H locs cells slots ls Z hC hH hB hl hK)
theorem Rn.if_gt {x : Int32} {t : Nat} {off : Int} (hd : Dj d.2.1 pc n t (.ifCond .gt off) off) (k1 : 0 < x → Rn G l d b t lv st ly M Q) (k2 : ¬ 0 < x → Rn G l d b n lv st ly M Q) : Rn G l d b pc lv (.int x :: st) ly M Q := by
  obtain ⟨hd, rfl, ht⟩ := hd
  intro p e R s m args below meth c H locs cells slots ls Z hC hH hB hl hK
  exact lv_if_gt hC.hx hC.hb hd ht (fun h => k1 h p e R s m args below meth c H locs cells slots ls Z hC hH hB hl hK) (fun h => k2 h p e R s m args below meth c H locs cells slots ls Z hC hH hB hl hK)
theorem Rn.icmp_gt {x y : Int32} {t : Nat} {off : Int} (hd : Dj d.2.1 pc n t (.if_icmp .gt off) off) (k1 : y < x → Rn G l d b t lv st ly M Q) (k2 : ¬ y < x → Rn G l d b n lv st ly M Q) : Rn G l d b pc lv (.int y :: .int x :: st) ly M Q := by
  obtain ⟨hd, rfl, ht⟩ := hd
  intro p e R s m args below meth c H locs cells slots ls Z hC hH hB hl hK
  exact lv_icmp_gt hC.hx hC.hb hd ht (fun h => k1 h p e R s m args below meth c H locs cells slots ls Z hC hH hB hl hK) (fun h => k2 h p e R s m args below meth c H locs cells slots ls Z hC hH hB hl hK)
theorem Rn.if_le {x : Int32} {t : Nat} {off : Int} (hd : Dj d.2.1 pc n t (.ifCond .le off) off) (k1 : x ≤ 0 → Rn G l d b t lv st ly M Q) (k2 : ¬ x ≤ 0 → Rn G l d b n lv st ly M Q) : Rn G l d b pc lv (.int x :: st) ly M Q := by
  obtain ⟨hd, rfl, ht⟩ := hd
  intro p e R s m args below meth c H locs cells slots ls Z hC hH hB hl hK
  exact lv_if_le hC.hx hC.hb hd ht (fun h => k1 h p e R s m args below meth c H locs cells slots ls Z hC hH hB hl hK) (fun h => k2 h p e R s m args below meth c H locs cells slots ls Z hC hH hB hl hK)
theorem Rn.icmp_le {x y : Int32} {t : Nat} {off : Int} (hd : Dj d.2.1 pc n t (.if_icmp .le off) off) (k1 : x ≤ y → Rn G l d b t lv st ly M Q) (k2 : ¬ x ≤ y → Rn G l d b n lv st ly M Q) : Rn G l d b pc lv (.int y :: .int x :: st) ly M Q := by
  obtain ⟨hd, rfl, ht⟩ := hd
  intro p e R s m args below meth c H locs cells slots ls Z hC hH hB hl hK
  exact lv_icmp_le hC.hx hC.hb hd ht (fun h => k1 h p e R s m args below meth c H locs cells slots ls Z hC hH hB hl hK) (fun h => k2 h p e R s m args below meth c H locs cells slots ls Z hC hH hB hl hK)
theorem Rn.goto {t : Nat} {off : Int} (hd : Dj d.2.1 pc n t (.goto off) off) (k : Rn G l d b t lv st ly M Q) : Rn G l d b pc lv st ly M Q := by
  obtain ⟨hd, rfl, ht⟩ := hd
  intro p e R s m args below meth c H locs cells slots ls Z hC hH hB hl hK
  exact lv_goto hC.hx hC.hb hd ht (k p e R s m args below meth c H locs cells slots ls Z hC hH hB hl hK)
theorem Rn.iret {x : Int32} {ty : FieldType} (hd : Dc d.2.1 pc n .ireturn 1) (hr : d.2.2.2 = some ty) (hn : narrow ty (.int x) = .int x) (hq : Q (some (.int x)) ly M) : Rn G l d b pc lv [.int x] ly M Q := by
  intro p e R s m args below meth c H locs cells slots ls Z hC hH hB hl hK
  exact hK (some (.int x)) ly M H locs cells slots ls pc hq hH (by omega) (by omega) ⟨hd.1, ty, hr, hn⟩
theorem Rn.lret {x : Int64} (hd : Dc d.2.1 pc n .lreturn 1) (hr : d.2.2.2 = some .long) (hq : Q (some (.long x)) ly M) : Rn G l d b pc lv [.long x] ly M Q := by
  intro p e R s m args below meth c H locs cells slots ls Z hC hH hB hl hK
  exact hK (some (.long x)) ly M H locs cells slots ls pc hq hH (by omega) (by omega) ⟨hd.1, hr⟩
theorem Rn.vret (hd : Dc d.2.1 pc n .return_ 1) (hr : d.2.2.2 = none) (hq : Q none ly M) : Rn G l d b pc lv [] ly M Q := by
  intro p e R s m args below meth c H locs cells slots ls Z hC hH hB hl hK
  exact hK none ly M H locs cells slots ls pc hq hH (by omega) (by omega) ⟨hd.1, hr⟩
theorem Rn.post {Q' : Qt} (h : Rn G l d b pc lv st ly M Q') (hq : ∀ v ly M, Q' v ly M → Q v ly M) : Rn G l d b pc lv st ly M Q := by
  intro p e R s m args below meth c H locs cells slots ls Z hC hH hB hl hK
  exact h p e R s m args below meth c H locs cells slots ls Z hC hH hB hl (fun v ly M H locs cells slots ls pc q => hK v ly M H locs cells slots ls pc (hq v ly M q))
theorem Rn.deep {k1 k2 : Nat} {b2 : Nat × Nat × Bool} (h : Rn G l d (k1, b2) pc lv st ly M Q) (hk : k1 ≤ k2) : Rn G l d (k2, b2) pc lv st ly M Q := by
  intro p e R s m args below meth c H locs cells slots ls Z hC hH hB hl hK
  exact h p e R s m args below meth c H locs cells slots ls Z hC hH ⟨by have := hB.1; dsimp only at this ⊢; omega, by have := hB.2.1; dsimp only at this ⊢; omega, hB.2.2⟩ hl hK
end RN
