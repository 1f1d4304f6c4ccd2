theorem wMul : Cond.classLink RX7 15 "[[I" ∈ TB := (TB1 (List.mem_of_getElem? (i := 197) rfl) rfl)
theorem wLaw : Cond.classLink RX7 40 "WalkingBridge$Law" ∈ TB := (TB2 (List.mem_of_getElem? (i := 12) rfl) rfl)
theorem aoI_moved {A B : Array Value} {u U : State} (hvm : u.vm.Alike U.vm) (h : (Cond.arrayOver (.array .int)).before A u = true) : (Cond.arrayOver (.array .int)).before B U = true := by
  obtain ⟨comp, c, k, h1, h2, h3, h4, h5⟩ := arrayOverA_spec h
  obtain ⟨k', hk', he⟩ := hvm.2.2 _ _ h3
  have hi : (U.vm.classes.findIdx? fun (x : Class) => match x.kind with | .array component _ => component == comp | _ => false) = some c := by
    exact (hvm.findIdx?_eq _ (fun _ => rfl)).trans h2
  have hkind : k'.kind = .array comp (.array .int) := by rw [he]; exact h4
  have f1 : U.vm.findClass (FieldType.array .int).toString = some comp := by rw [hvm.findClass]; exact h1
  have f2 : U.vm.findClass ("[" ++ (FieldType.array .int).toString) = some c := by rw [hvm.findClass]; exact h5
  unfold Cond.before Cond.holds
  simp only [Cond.value]
  rw [f1, Option.bind_some]
  refine (congrArg (fun o : Option Nat => (o.bind (fun c => (U.vm.classes[c]?).map fun (k : Class) => match k.kind with | .array _ ty => decide (ty = FieldType.array .int) && decide (U.vm.findClass ("[" ++ (FieldType.array .int).toString) = some c) | _ => false) == some true)) hi).trans ?_
  simp [hk', hkind, f2]
theorem Sp.ao {G : Gx} {s : State} {A : Array Value} (h : Sp G s) : (Cond.arrayOver (.array .int)).before A s = true ∧ (Cond.arrayOver (.object "WalkingBridge$Law")).before A s = true := by
  obtain ⟨s0, h0, hW, hq⟩ := h
  exact ⟨aoI_moved hW.alike (h0.tb (TA1 (List.mem_of_getElem? (i := 198) rfl))), va_AO.use (va_AO.moved hW.alike (va_AO.of (h0.tb (TA2 (List.mem_of_getElem? (i := 31) rfl)))))⟩
section RNC
variable {G : Gx} {l : Launch} {d : Md} {b : Bq} {pc n : Nat} {lv : List (Option Value)} {st : List Value} {ly : Ly} {M : Mm} {Q : Qt}
theorem Rn.anewL {dep ca sa N : Nat} {x : Int32} (hd : Dc d.2.1 pc n (.anewarray 40) 3) (hcl : d.1.cls = RX7) (hN : x = nI N) (hlt : N ≤ 100) (k : Rn G l d (dep, ca, sa, true) n lv (.ref ly.length :: st) (ly ++ [.inl (5, N)]) (nw M ly.length) Q) : Rn G l d (dep, ca + 1, sa + N, true) pc lv (.int x :: st) ly M Q := by
  obtain ⟨hd, rfl⟩ := hd
  subst hN
  intro p e R s m args below meth c H locs cells slots ls Z hC hH hB hl hK
  refine W.size hC hH (fun hz => ?_)
  have hz := hz rfl
  have hb1 := hB.2.2.1
  have hb2 := hB.2.2.2
  dsimp only at hb1 hb2
  have hcl1 : (Cond.classLink d.1.cls 40 "WalkingBridge$Law").before args s = true := by rw [hcl]; exact hC.hts _ wLaw
  have hcN : (nI N).toNatClampNeg = N := nI_clamp (by omega)
  refine W.anew hC.hx hC.hb hC.hown hcl1 hC.hsp.ao.2 rfl hd rfl (nI_pos (by omega)) (by rw [hcN]; omega) (by omega) (by rw [hcN]; omega) fun cA kA comp f1 f2 f3 f4 => ?_
  rw [hcN]
  generalize hH1 : H.push ({ cls := cA, slots := Array.replicate N .null, vm := .none } : Cell) = H1
  have z1 : H1.size = H.size + 1 := by rw [← hH1, Array.size_push]
  have e1 : H1[H.size]? = some (arrV cA N (fun _ => .null)) := by rw [← hH1, Array.getElem?_push_size, ← arrV_new]
  have o1 : ∀ q : Nat, q < H.size → H1[q]? = H[q]? := fun q hq => by rw [← hH1, Array.getElem?_push, if_neg (Nat.ne_of_lt hq)]
  have hcA : cA = G.2.2.1 5 := by
    obtain ⟨_, _, _, _, _, h⟩ := (hC.hK.2 5 _ rfl).2
    exact Option.some.inj (f1.symm.trans h)
  subst hcA
  have hst : (Value.ref H.size :: st.map (tv G)) = ((.ref ly.length :: st).map (tv G)) := by
    show _ = Value.ref (G.1 + ly.length) :: st.map (tv G)
    rw [hz]
  rw [hst]
  refine k p e R s m args below meth c H1 locs (cells + 1) (slots + N) ls Z hC ⟨?_, ?_, fun _ => ?_⟩ ⟨hB.1, hB.2.1, by dsimp only; omega, by dsimp only; omega⟩ hl hK
  · rw [wG_app (nw_al M ly.length)]
    refine (hH.1.kept (fun k x hx => o1 x.1 (by exact (hH.1 k x hx).lt))).app (fun k x hx => ?_)
    have hk0 : k = 0 := by have := (List.getElem?_eq_some_iff.mp hx).1; simp at this; omega
    subst hk0
    cases hx
    show H1[G.1 + ly.length]? = some (vp_cell _ _)
    rw [← hz, e1]
    simp [aE, nw, sI, sL, sR, vp_cell, rG, va_rf]
  · exact ⟨by have := hH.2.1.1; omega, fun q h1 h2 => (o1 q (by have := hH.2.1.1; omega)).trans (hH.2.1.2.1 q h1 h2), hH.2.1.2.2⟩
  · have := hH.2.2 rfl
    simp only [List.length_append, List.length_cons, List.length_nil]
    omega
end RNC
/-- a grid that is being made: i of its rows stand -/
def mgT (T : State) (cA cI N K : Nat) : Nat → State
  | 0 => T.pushCell (arrV cA N (fun j => if j < 0 then .ref (T.heap.size + 1 + j) else .null))
  | i + 1 => ((mgT T cA cI N K i).pushCell (arrV cI K (fun _ => .int 0))).setCell T.heap.size (arrV cA N (fun j => if j < i + 1 then .ref (T.heap.size + 1 + j) else .null))
theorem mg_row (cA N a i : Nat) : (arrV cA N (fun j => if j < i then Value.ref (a + 1 + j) else .null)).setSlot i (.ref (a + 1 + i)) = arrV cA N (fun j => if j < i + 1 then .ref (a + 1 + j) else .null) := by
  rw [arrV_store]
  refine congrArg (arrV cA N) (funext fun j => ?_)
  unfold updV
  by_cases h : j = i
  · subst h; simp
  · by_cases h2 : j < i
    · simp [h, h2, Nat.lt_succ_of_lt h2]
    · simp [h, h2, show ¬ j < i + 1 by omega]
theorem mgT_facts (T : State) (cA cI N K : Nat) : ∀ i, (mgT T cA cI N K i).heap.size = T.heap.size + 1 + i ∧ (mgT T cA cI N K i).heap[T.heap.size]? = some (arrV cA N (fun j => if j < i then .ref (T.heap.size + 1 + j) else .null)) ∧ (mgT T cA cI N K i).vm = T.vm ∧ (mgT T cA cI N K i).slotsUsed = T.slotsUsed + N + i * K ∧ (∀ q, q < T.heap.size → (mgT T cA cI N K i).heap[q]? = T.heap[q]?) ∧ ∀ j, j < i → (mgT T cA cI N K i).heap[T.heap.size + 1 + j]? = some (arrV cI K (fun _ => .int 0)) := by
  intro i
  induction i with
  | zero => exact ⟨by simp [mgT], by simp [mgT], rfl, by simp [mgT, arrV_size], fun q hq => State.heap_pushCell_of_lt _ _ hq, fun j hj => absurd hj (Nat.not_lt_zero _)⟩
  | succ i ih =>
    obtain ⟨a, b, c, d, e, f⟩ := ih
    have hlt : T.heap.size < (mgT T cA cI N K i).heap.size := by omega
    have hb : ((mgT T cA cI N K i).pushCell (arrV cI K (fun _ => .int 0))).heap[T.heap.size]? = some (arrV cA N (fun j => if j < i then .ref (T.heap.size + 1 + j) else .null)) := by rw [State.heap_pushCell_of_lt (h := hlt)]; exact b
    refine ⟨by simp [mgT, State.setCell, a]; omega, State.heap_setCell_self hb, by simp [mgT, c], by simp [mgT, d, arrV_size, Nat.succ_mul]; omega, fun q hq => ?_, fun j hj => ?_⟩
    · show (((mgT T cA cI N K i).pushCell _).setCell T.heap.size _).heap[q]? = _
      have hq2 : q < (mgT T cA cI N K i).heap.size := by omega
      rw [State.heap_setCell_other (Nat.ne_of_gt hq), State.heap_pushCell_of_lt (h := hq2)]
      exact e q hq
    · show (((mgT T cA cI N K i).pushCell _).setCell T.heap.size _).heap[T.heap.size + 1 + j]? = _
      rw [State.heap_setCell_other (show T.heap.size ≠ T.heap.size + 1 + j by omega)]
      by_cases h : j < i
      · have hq2 : T.heap.size + 1 + j < (mgT T cA cI N K i).heap.size := by omega
        rw [State.heap_pushCell_of_lt (h := hq2)]; exact f j h
      · have hj2 : j = i := by omega
        subst hj2
        rw [← a]
        exact State.heap_pushCell_size _ _
theorem mgT_top (T : State) (f : JFrame) (cA cI N K : Nat) : ∀ i, mgT (T.setTop f) cA cI N K i = (mgT T cA cI N K i).setTop f := by
  intro i
  induction i with
  | zero => rfl
  | succ i ih => simp only [mgT, ih, State.heap_setTop, State.pushCell_setTop, State.setCell_setTop]
section MGW
variable {p : Program} {l : Launch} {e : Env} {R : Room} {s : State} {m : MethodId} {args : Array Value} {below : List Frame} {meth : Method} {c : Code} {H : Heap} {locs : List Loc} {cells slots : Nat} {Q : State → Prop}
theorem mgT_stand {T : State} (X : Stand p l e R s m args below meth c T locs cells slots) (cA cI N K : Nat) : ∀ i, ∃ L : List Loc, Stand p l e R s m args below meth c (mgT T cA cI N K i) L (cells + 1 + i) (slots + N + i * K) ∧ ∀ x ∈ L, x ∈ locs ∨ x.base = T.heap.size := by
  intro i
  induction i with
  | zero =>
    have h := X.pushed (arrV cA N (fun j => if j < 0 then .ref (T.heap.size + 1 + j) else .null))
    rw [arrV_size] at h
    exact ⟨locs, by simpa [mgT] using h, fun x hx => Or.inl hx⟩
  | succ i ih =>
    obtain ⟨L, Xi, hL⟩ := ih
    obtain ⟨f1, f2, -⟩ := mgT_facts T cA cI N K i
    have hlt : T.heap.size < (mgT T cA cI N K i).heap.size := by omega
    have hb : ((mgT T cA cI N K i).pushCell (arrV cI K (fun _ => .int 0))).heap[T.heap.size]? = some (arrV cA N (fun j => if j < i then .ref (T.heap.size + 1 + j) else .null)) := by rw [State.heap_pushCell_of_lt (h := hlt)]; exact f2
    have h := (Xi.pushed (arrV cI K (fun _ => .int 0))).stored hb i (.ref (T.heap.size + 1 + i))
    rw [arrV_size, mg_row] at h
    refine ⟨L ++ [⟨T.heap.size, i⟩], ?_, fun x hx => ?_⟩
    · have e1 : slots + N + (i + 1) * K = slots + N + i * K + K := by rw [Nat.succ_mul]; omega
      rw [e1]; exact h
    · rcases List.mem_append.mp hx with h1 | h1
      · exact hL x h1
      · exact Or.inr (by rw [List.mem_singleton.mp h1])
theorem wpArr {E : CtlPost} {d : Bool} {acts : List Action} {cA comp : ClassId} {k : Class} {type : FieldType} {len : Nat} {init : Value} {Qa : Addr → Pre} {s : State} (hk : s.vm.classes[cA]? = some k) (hkind : k.kind = .array comp type) (hlimit : ¬ len > e.platform.arrayLengthLimit) (hheap : ¬ len * componentBytes type > e.platform.maxHeapBytes) (hfit : fits type init = true) (hdef : init.isDefault = true) (h1 : s.heap.size < e.platform.maxCells) (h2 : s.slotsUsed + len ≤ e.platform.maxSlots) (hq : Qa s.heap.size d acts (s.pushCell (arrV cA len (fun _ => init)))) : wp (Jvm.newArray cA len init) Qa E e d acts s := by
  have hf : ∀ i v, (Array.replicate len init)[i]? = some v → s.fitsSlot cA .none i v = true := by
    intro i v hv
    rw [Array.getElem?_replicate] at hv
    split at hv
    · cases hv; simp [State.fitsSlot, State.slotType?, hk, hkind, hfit]
    · cases hv
  have ha : allocActs (Array.replicate len init) s.heap.size acts = acts := by
    unfold allocActs
    rw [if_pos (by rw [Array.all_replicate]; split <;> simp [hdef])]
  rw [← arrV_new] at hq
  simp only [Jvm.newArray, Jvm.arrayFits, wp_bind', Jvm.W.ask, Jvm.W.ite, hlimit, if_false, wp_pure', Jvm.W.theClass, hk, hkind, hheap, Jvm.W.alloc, Jvm.W.stop, Option.some.injEq, exists_eq_left', Array.size_replicate, ha]
  rw [if_neg (by omega)]
  exact ⟨h1, h2, hf, hq⟩
theorem W.multi {cc : ByteArray} (hexec : p.tables.exec = Jvm.exec) (hb : c.code = cc) {own : String} {index : Nat} (hown : s.vm.findClass own = some m.cls) (hclink : (Cond.classLink own index ("[" ++ (FieldType.array .int).toString)).before args s = true) (hover : (Cond.arrayOver (.array .int)).before args s = true) (harr : (Cond.arrayClass .int).before args s = true)
    {g : JFrame} (hg : g.method = m) (hdg : decode cc g.pc = .ok (.multianewarray index 2, 4)) {n k : Int32} {N K : Nat} {rest : List Value} (hstack : g.stack = .int k :: .int n :: rest) (hn : ¬ n < 0) (hk : ¬ k < 0) (hN : n.toNatClampNeg = N) (hK : k.toNatClampNeg = K) (hb1 : N ≤ 1000) (hb2 : K ≤ 1000) (hcells : cells + (1 + N) ≤ R.cells) (hslots : slots + (N + N * K) ≤ R.slots)
    (kk : ∀ (cA cI : ClassId) (H1 : Heap) (L : List Loc), s.vm.findClass ("[" ++ (FieldType.array .int).toString) = some cA → s.vm.findClass (FieldType.array .int).toString = some cI → H1.size = H.size + 1 + N → H1[H.size]? = some (arrV cA N (fun j => if j < N then .ref (H.size + 1 + j) else .null)) → (∀ q, q < H.size → H1[q]? = H[q]?) → (∀ j, j < N → H1[H.size + 1 + j]? = some (arrV cI K (fun _ => .int 0))) → (∀ x ∈ L, x ∈ locs ∨ x.base = H.size) →
      W p l e R s m args below meth c H1 L (cells + 1 + N) (slots + N + N * K) Q { g with pc := g.pc + 4, stack := .ref H.size :: rest }) : W p l e R s m args below meth c H locs cells slots Q g := by
  intro T hT X
  subst hT; subst hb; subst hg
  have hpl : e.platform.magicAccessors = ({} : Platform).magicAccessors := by rw [X.admits.platform]
  obtain ⟨cI, cA, kA, hcomp, -, hkA, hkindA, hnameA⟩ := arrayOverA_spec hover
  obtain ⟨cI', kC, cc', hcomp', hkC, hkindC⟩ := Cond.arrayClass_spec harr
  obtain rfl : cI' = cI := Option.some.inj (hcomp'.symm.trans hcomp)
  obtain ⟨c0, hfc0, hcl⟩ := Cond.classLink_spec hown hclink e.platform hpl
  cases hnameA.symm.trans hfc0
  obtain ⟨hg₁, hwarm₁, hready₁⟩ := State.classEntry (e := e) X.warmed hcl
  generalize T.vm.noted g.method.cls index (.cls cA) = vm₁ at hg₁ hwarm₁ hready₁
  have hal : s.vm.Alike vm₁ := hwarm₁.alike
  obtain ⟨kA₁, hkA₁, heA⟩ := hal.2.2 _ _ hkA
  obtain ⟨kC₁, hkC₁, heC⟩ := hal.2.2 _ _ hkC
  have hkindA₁ : kA₁.kind = .array cI' (.array .int) := by rw [heA]; exact hkindA
  have hkindC₁ : kC₁.kind = .array cc' .int := by rw [heC]; exact hkindC
  have X₁ := X.noted hwarm₁
  obtain ⟨hr1, hr2⟩ := X.roomAbove hcells hslots
  obtain ⟨L, XF, hL⟩ := mgT_stand X₁ cA cI' N K N
  obtain ⟨f1, f2, f3, f4, f5, f6⟩ := mgT_facts (T.setVm vm₁) cA cI' N K N
  obtain ⟨t, a1, b1⟩ := kk cA cI' _ L hnameA hcomp f1 f2 f5 f6 hL (mgT (T.setVm vm₁) cA cI' N K N) rfl XF
  refine ⟨t, ?_, b1⟩
  have hl1 : ¬ N > e.platform.arrayLengthLimit := by rw [Launch.admits_arrayLengthLimit X.admits]; omega
  have hh1 : ¬ N * componentBytes (.array .int) > e.platform.maxHeapBytes := by rw [Launch.admits_maxHeapBytes X.admits]; show ¬ N * 4 > 536870912; omega
  have hl2 : ¬ K > e.platform.arrayLengthLimit := by rw [Launch.admits_arrayLengthLimit X.admits]; omega
  have hh2 : ¬ K * componentBytes .int > e.platform.maxHeapBytes := by rw [Launch.admits_maxHeapBytes X.admits]; show ¬ K * 4 > 536870912; omega
  jvm_step X.here [hexec, hdg]
  simp only [multianewarray.sem, wp_bind', Jvm.W.resolveClassAt_links (State.method?_setTop g X.here.top) hg₁]
  rw [Jvm.W.popN, if_neg (by decide)]
  refine ⟨g, State.topJava?_setTop' (s := T.setVm vm₁) g X.here.top, [.int n, .int k], rest, rfl, hstack, ?_⟩
  simp only [List.mapM_cons, List.mapM_nil, wp_bind', wp_pure']
  have eS : ((T.setTop g).setVm vm₁).setTop { g with stack := rest } = (T.setVm vm₁).setTop { g with stack := rest } := by
    show ((T.setVm vm₁).setTop g).setTop _ = _
    rw [State.setTop_setTop]
  rw [eS, multianewarray.make]
  have hfind : ([k].find? (· < 0)) = none := by simp [hk]
  simp only [wp_bind', Jvm.W.ite, hn, if_false, wp_pure', Jvm.W.theClass, State.vm_setTop, State.vm_setVm, hkA₁, hkindA₁, Option.some.injEq, exists_eq_left', hN, hfind]
  refine wpArr (s := (T.setVm vm₁).setTop { g with stack := rest }) hkA₁ hkindA₁ hl1 hh1 rfl rfl (by show T.heap.size < _; omega) (by show T.slotsUsed + _ ≤ _; omega) ?_
  rw [ite_self, wp_bind', Std.Legacy.Range.forIn_eq_forIn_range', show ([:N] : Std.Legacy.Range).size = N by simp [Std.Legacy.Range.size]]
  refine wp_forIn_inv (fun r u => ∃ i, i ≤ N ∧ r = List.range' i (N - i) ∧ u = (mgT (T.setVm vm₁) cA cI' N K i).setTop { g with stack := rest }) _ _ ⟨0, Nat.zero_le _, rfl, ?_⟩ ?_ ?_
  · simp [mgT, State.pushCell_setTop]
  · rintro x r u d' acts' Q' ⟨i, hi, hl, rfl⟩ hnext
    have hlt : i < N := by
      rcases Nat.lt_or_ge i N with h | h
      · exact h
      · rw [show N - i = 0 by omega] at hl; simp at hl
    rw [show N - i = (N - (i + 1)) + 1 by omega, List.range'_succ] at hl
    obtain ⟨rfl, rfl⟩ := List.cons.inj hl
    obtain ⟨g1, g2, g3, g4, -⟩ := mgT_facts (T.setVm vm₁) cA cI' N K x
    have hsz : (T.setVm vm₁).heap.size = T.heap.size := rfl
    have hus : (T.setVm vm₁).slotsUsed = T.slotsUsed := rfl
    have hmul : x * K + K ≤ N * K := by
      have := Nat.mul_le_mul_right K (show x + 1 ≤ N from hlt)
      rw [Nat.succ_mul] at this; exact this
    rw [wp_bind', multianewarray.make]
    simp only [wp_bind', Jvm.W.ite, hk, if_false, wp_pure', Jvm.W.theClass, State.vm_setTop, g3, State.vm_setVm, hkC₁, hkindC₁, Option.some.injEq, exists_eq_left', hK]
    refine wpArr (s := (mgT (T.setVm vm₁) cA cI' N K x).setTop { g with stack := rest }) (by rw [State.vm_setTop, g3]; exact hkC₁) hkindC₁ hl2 hh2 rfl rfl (by rw [State.heap_setTop, g1]; omega) (by rw [State.slotsUsed_setTop, g4]; omega) ?_
    have hlt0 : (T.setVm vm₁).heap.size < (mgT (T.setVm vm₁) cA cI' N K x).heap.size := by rw [g1]; omega
    simp only [wp_bind', Jvm.W.writeLoc, wp_pure', State.heap_setTop, State.pushCell_setTop]
    refine ⟨arrV cA N fun j => if j < x then Value.ref ((T.setVm vm₁).heap.size + 1 + j) else Value.null, (by rw [State.heap_pushCell_of_lt (h := hlt0)]; exact g2), (by simp [arrV]), (by rw [arrV_size]; exact hlt), ?_, hnext _ _ _ ⟨x + 1, hlt, rfl, ?_⟩⟩
    · simp [State.fitsSlot, State.slotType?, g3, hkA₁, hkindA₁, arrV, fits]
    · rw [g1, hsz, mg_row]
      simp only [State.setCell_setTop]
      rfl
  · rintro u d' acts' ⟨i, hi, hl, rfl⟩
    have hiN : i = N := by
      rcases Nat.lt_or_ge i N with h | h
      · rw [show N - i = (N - (i + 1)) + 1 by omega, List.range'_succ] at hl; cases hl
      · omega
    subst hiN
    simp only [wp_pure', wp_bind', Jvm.W.mark, Jvm.W.pushRef, State.topJava?_setTop' _ XF.here.top, Option.some.injEq, exists_eq_left', State.setTop_setTop, State.heap_setTop]
    simp [jvm, XF.here.top]
    exact a1
end MGW
