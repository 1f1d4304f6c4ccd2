
def enL : List Value → List (Option Value)
  | [] => []
  | .long x :: r => some (.long x) :: none :: enL r
  | .double x :: r => some (.double x) :: none :: enL r
  | v :: r => some v :: enL r
def entL (d : Md) (av : List Value) : List (Option Value) := enL av ++ List.replicate (d.2.2.1 - (enL av).length) none
/-- a method's contract at arguments and a memory -/
def Mt (G : Gx) (l : Launch) (d : Md) (b : Bq) (av : List Value) (ly : Ly) (M : Mm) (Q : Qt) : Prop := Rn G l d b 0 (entL d av) [] ly M Q
theorem Mt.of {G : Gx} {l : Launch} {d : Md} {b : Bq} {av : List Value} {ly : Ly} {M : Mm} {Q : Qt} {lv : List (Option Value)} (h : entL d av = lv) (k : Rn G l d b 0 lv [] ly M Q) : Mt G l d b av ly M Q := by
  subst h
  exact k
theorem Mt.post {G : Gx} {l : Launch} {d : Md} {b : Bq} {av : List Value} {ly : Ly} {M : Mm} {Q Q' : Qt} (h : Mt G l d b av ly M Q') (hq : ∀ v ly M, Q' v ly M → Q v ly M) : Mt G l d b av ly M Q := Rn.post h hq
theorem Mt.deep {G : Gx} {l : Launch} {d : Md} {k1 k2 : Nat} {b2 : Nat × Nat × Bool} {av : List Value} {ly : Ly} {M : Mm} {Q : Qt} (h : Mt G l d (k1, b2) av ly M Q) (hk : k1 ≤ k2) : Mt G l d (k2, b2) av ly M Q := Rn.deep h hk
theorem lvG_none {G : Gx} : ∀ (k i : Nat), lvG G i (List.replicate k none) = []
  | 0, _ => rfl
  | k + 1, i => lvG_none k (i + 1)
theorem lvG_ent {G : Gx} (k : Nat) : ∀ (av : List Value) (i : Nat), ∀ q ∈ lvG G i (enL av ++ List.replicate k none), q ∈ lv_args i (av.map (tv G))
  | [], i, q, h => by
    rw [show enL [] ++ List.replicate k none = List.replicate k none from rfl, lvG_none] at h
    cases h
  | v :: r, i, q, h => by
    cases v with
    | long x =>
      rcases List.mem_cons.mp (show q ∈ (i, Value.long x) :: lvG G (i + 2) (enL r ++ List.replicate k none) from h) with rfl | h
      · exact List.mem_cons_self
      · exact List.mem_cons_of_mem _ (lvG_ent k r (i + 2) q h)
    | double x =>
      rcases List.mem_cons.mp (show q ∈ (i, Value.double x) :: lvG G (i + 2) (enL r ++ List.replicate k none) from h) with rfl | h
      · exact List.mem_cons_self
      · exact List.mem_cons_of_mem _ (lvG_ent k r (i + 2) q h)
    | _ =>
      rcases List.mem_cons.mp (show q ∈ (i, tv G _) :: lvG G (i + 1) (enL r ++ List.replicate k none) from h) with rfl | h
      · exact List.mem_cons_self
      · exact List.mem_cons_of_mem _ (lvG_ent k r (i + 1) q h)
def rmB (b : Bq) : Room := { frames := b.1, cells := b.2.1, slots := b.2.2.1, locals := 64 * b.1 }
def Pm (G : Gx) (ly : Ly) (M : Mm) (ex : Bool) (U : State) : Prop := va_P G.2.1 vwCl (wG G ly M) U.heap ∧ va_K G.2.1 vwCl (tyG G) U ∧ Sp G U ∧ G.1 ≤ U.heap.size ∧ (ex = true → U.heap.size = G.1 + ly.length)
def Qm (G : Gx) (Q : Qt) : Array Value → State → Outcome → State → Prop := fun _ st oc t => (∃ (v : Option Value) (ly : Ly) (M : Mm), oc = .returned (v.map (tv G)) ∧ Q v ly M ∧ va_P G.2.1 vwCl (wG G ly M) t.heap) ∧ va_F (GA G) st t
theorem Pm.blind (G : Gx) (ly : Ly) (M : Mm) (ex : Bool) (av : List Value) : FrameBlind (va_Pc av (Pm G ly M ex)) := by
  intro a U g mk q
  obtain ⟨q0, qP, qK, qS, q1, q2⟩ := q
  exact ⟨q0, qP, va_K.moved (u := U) (U := U.calling g mk a) (Vm.Alike.refl U.vm) qK, qS.moved (State.WarmedH.refl U) (fun _ _ => rfl), q1, q2⟩
theorem Mt.met {G : Gx} {l : Launch} {d : Md} {b : Bq} {av : List Value} {ly : Ly} {M : Mm} {Q : Qt} (h : Mt G l d b av ly M Q) (hpl : plainName d.1.cls = true) (hlen : (lg_sl (av.map (tv G))).length ≤ d.2.2.1) :
    Met l d.1 (Cond.code d.1 d.2.1 d.2.2.1 d.2.2.2 :: TB) (rmB b) (va_Pc (av.map (tv G)) (Pm G ly M b.2.2.2)) (Qm G Q) b.2.1 b.2.2.1 (GA G) := by
  refine Met.ofW (cc := d.2.1) (maxL := d.2.2.1) (ret := d.2.2.2) hpl rfl ?_
  intro p e s m args below meth c s₁ B hml hv
  obtain ⟨rfl, hP, hK, hSp, hsz, hex⟩ := hv
  have hts := atoms_spec (ws := Cond.code d.1 d.2.1 d.2.2.1 d.2.2.2 :: TB) B.pre
  have hC : Cx G d p s m (av.map (tv G)).toArray meth c := ⟨B.exec, B.bytes, hml, findClass_of_methodNamed B.named, fun w hw => hts w (List.mem_cons_of_mem _ hw), B.notSynchronized, B.returns, hK, hsz, (name_of_methodNamed B.named B.method).1, hSp⟩
  have hl := lv_entry (av.map (tv G)) (n := d.2.2.1) hlen
  rw [lg_entry_eq]
  generalize (lg_sl (av.map (tv G)) ++ List.replicate (d.2.2.1 - (lg_sl (av.map (tv G))).length) Slot.unset).toArray = ls at hl ⊢
  show W p l e (rmB b) s m _ below meth c s.heap [] 0 0 _ _
  refine h p e (rmB b) s m _ below meth c s.heap [] 0 0 ls _ hC ⟨hP, va_S.rf, fun q => by rw [hex q]; rfl⟩ ⟨Nat.le_refl _, Nat.le_refl _, by show 0 + b.2.1 ≤ b.2.1; omega, by show 0 + b.2.2.1 ≤ b.2.2.1; omega⟩ (lv_less hl (lvG_ent _ av 0)) ?_
  intro v ly' M' H locs cells slots ls pc hq hH h1 h2 hrt
  refine W.widen (k := b.2.1) (n := b.2.2.1) h1 h2 ?_
  have hlk := hC.hlk
  match v, hq, hrt with
  | none, hq, hrt => exact W.vret hC.hx hC.hb (hC.hr.trans hrt.2) (fun t ht _ => ⟨⟨none, ly', M', rfl, hq, by rw [ht]; exact hH.1⟩, hH.2.1.F ht⟩) hH.2.1.2.2 hrt.1
  | some (.int x), hq, ⟨hd, ty, hr, hn⟩ => exact W.zret hC.hx hC.hb (hC.hr.trans hr) hn (fun t ht _ => ⟨⟨some (.int x), ly', M', rfl, hq, by rw [ht]; exact hH.1⟩, hH.2.1.F ht⟩) hH.2.1.2.2 hd
  | some (.long x), hq, hrt => exact W.lret hC.hx hC.hb (hC.hr.trans hrt.2) (fun t ht _ => ⟨⟨some (.long x), ly', M', rfl, hq, by rw [ht]; exact hH.1⟩, hH.2.1.F ht⟩) hH.2.1.2.2 hrt.1
/-- the heap's size, where no other cell is new -/
theorem W.size {G : Gx} {d : Md} {p : Program} {l : Launch} {e : Env} {R : Room} {s : State} {m : MethodId} {args : Array Value} {below : List Frame} {meth : Method} {c : Code} {H : Heap} {locs : List Loc} {cells slots : Nat} {Z : State → Prop} {g : JFrame} {ly : Ly} {M : Mm} {ex : Bool} (hC : Cx G d p s m args meth c) (hH : Hp G ly M s H locs cells ex)
    (k : (ex = true → H.size = G.1 + ly.length) → W p l e R s m args below meth c H locs cells slots Z g) : W p l e R s m args below meth c H locs cells slots Z g := by
  intro T hT X
  refine k (fun hx => ?_) T hT X
  have h1 := X.heapSize
  rw [hT, ← hH.2.2 hx] at h1
  have h2 : G.1 + ly.length ≤ H.size := by
    rcases Nat.eq_zero_or_pos ly.length with h0 | h0
    · have := hH.2.1.1
      have := hC.hsz
      omega
    · have hlt : ly.length - 1 < ly.length := by omega
      have h3 := (hH.1 (ly.length - 1) _ (wG_get (List.getElem?_eq_getElem hlt))).lt
      dsimp only at h3
      omega
  omega
/-- what the tables say of a method that is called: its code, its class, how many arguments -/
def MD (d : Md) (na : Nat) : Prop := Cond.code d.1 d.2.1 d.2.2.1 d.2.2.2 ∈ TB ∧ Cond.initialized d.1.cls ∈ TB ∧ (d.1.cls ≠ "java/lang/invoke/MethodHandle" ∧ d.1.cls ≠ "java/lang/invoke/VarHandle" ∧ (parseMethodDescriptor d.1.desc).map (fun d => d.parameters.length) = some na) ∧ plainName d.1.cls = true
def VL (own : String) (idx : Nat) (d : Md) (na : Nat) : Prop := Cond.methodLink own idx d.1 ∈ TB ∧ Cond.instanceMethod d.1 ∈ TB ∧ Cond.selects d.1.cls d.1 d.1 ∈ TB ∧ MD d na
def SL (own : String) (idx : Nat) (d : Md) (na : Nat) : Prop := Cond.methodLink own idx d.1 ∈ TB ∧ Cond.static d.1 ∈ TB ∧ MD d na
def IL (own : String) (idx : Nat) (d : Md) (na : Nat) : Prop := Cond.methodLink own idx d.1 ∈ TB ∧ Cond.instanceMethod d.1 ∈ TB ∧ d.1.name = "<init>" ∧ MD d na
theorem code_in {d : Md} {na : Nat} (h : MD d na) : GoodIn TB (Cond.code d.1 d.2.1 d.2.2.1 d.2.2.2 :: TB) := TB_good (fun w hw => (List.mem_cons.mp hw).elim (fun q => q ▸ h.1) id)
section RNC
variable {G : Gx} {l : Launch} {d : Md} {pc n : Nat} {lv : List (Option Value)} {st : List Value} {ly : Ly} {M : Mm} {Q : Qt}
theorem sl_len (G : Gx) : ∀ av : List Value, (lg_sl (av.map (tv G))).length = (lg_sl av).length
  | [] => rfl
  | v :: r => by
    have := sl_len G r
    simp only [lg_sl, List.map_cons, List.flatMap_cons, List.length_append, tv_cat] at this ⊢
    rw [this]
    split <;> rfl
theorem cat_map (G : Gx) (st : List Value) : ((st.map (tv G)).map fun v => v.category).sum = (st.map fun v => v.category).sum := by
  rw [List.map_map]
  congr 1
  exact List.map_congr_left (fun v _ => tv_cat G v)
/-- goes on behind a call -/
theorem W.back {b : Bq} {k1 : Nat} {dep ca sa ca' sa' : Nat} {ex : Bool} {p : Program} {e : Env} {R : Room} {s : State} {m : MethodId} {args : Array Value} {below : List Frame} {meth : Method} {c : Code} {H : Heap} {locs : List Loc} {cells slots : Nat} {ls : Array Slot} {Z : State → Prop} {st0 : List Value} {a : Array Value} {Q' : Qt}
    (hr : va_Run p l e R s m args below meth c H locs cells slots ca' sa' (F0 m pc ls st0) (st.map (tv G)) (Qm G Q' a) (GA G))
    (hC : Cx G d p s m args meth c) (hH : Hp G ly M s H locs cells ex) (hB : dep ≤ R.frames ∧ 64 * dep ≤ R.locals ∧ cells + (ca + ca') ≤ R.cells ∧ slots + (sa + sa') ≤ R.slots) (hl : lv_has ls d.2.2.1 (lvG G 0 lv)) (hK : Kr G d Q ex p l e R s m args below meth c Z)
    (hex : ex = true → ∀ v ly' M', Q' v ly' M' → ly'.length = ly.length + ca')
    (k : ∀ v ly' M', Q' v ly' M' → Rn G l d (dep, ca, sa, ex) (pc + 3) lv (v.toList ++ st) ly' M' Q) : W p l e R s m args below meth c H locs cells slots Z (F0 m pc ls st0) := by
  intro T hT X
  obtain ⟨v, st₀, t, T', L, h0, X', hL, e1, e2, ⟨⟨v', ly', M', hv, hq, hP'⟩, hz1, hk1⟩, goes⟩ := hr T hT X
  have hv : v = v'.map (tv G) := by cases hv; rfl
  subst hv
  rw [h0] at hz1 hk1
  obtain ⟨t2, a1, b1⟩ := k v' ly' M' hq p e R s m args below meth c T'.heap (locs ++ L) (cells + ca') (slots + sa') ls Z hC
    ⟨by rw [e1]; exact hP', ⟨Nat.le_trans hH.2.1.1 (by rw [e1]; exact hz1), fun q h1 h2 => by rw [e1, hk1 q (Nat.lt_of_lt_of_le h1 hH.2.1.1) h2]; exact hH.2.1.2.1 q h1 h2, fun q hq => (List.mem_append.mp hq).elim (hH.2.1.2.2 q) (hL q)⟩, fun hx => by rw [hex hx v' ly' M' hq]; have := hH.2.2 hx; omega⟩
    ⟨hB.1, hB.2.1, by have := hB.2.2.1; dsimp only; omega, by have := hB.2.2.2; dsimp only; omega⟩ hl hK T' rfl X'
  refine ⟨t2, goes t2 ?_, b1⟩
  rw [show (v'.toList ++ st).map (tv G) = (v'.map (tv G)).toList ++ st.map (tv G) by cases v' <;> simp] at a1
  exact a1
theorem Pm.at {G : Gx} {d : Md} {p : Program} {s : State} {m : MethodId} {args : Array Value} {meth : Method} {c : Code} {ly : Ly} {M : Mm} {H : Heap} {locs : List Loc} {cells : Nat} {ex ex' : Bool} (hC : Cx G d p s m args meth c) (hH : Hp G ly M s H locs cells ex) (hz : ex = true → H.size = G.1 + ly.length) (hxx : ex' = true → ex = true) : ∀ U : State, U.heap = H → s.WarmedH U.vm → Pm G ly M ex' U := by
  intro U hU hW
  refine ⟨by rw [hU]; exact hH.1, va_K.moved hW.alike hC.hK, hC.hsp.moved hW (fun q hq => ?_), by rw [hU]; exact Nat.le_trans hC.hsz hH.2.1.1, fun h => by rw [hU]; exact hz (hxx h)⟩
  rw [hU]
  exact hH.2.1.2.1 q (Nat.lt_of_lt_of_le hq hC.hsz) (fun h => Nat.not_le.mpr hq h)

theorem Rn.callV0 {d' : Md} {idx dep dep' ca sa : Nat} {ex : Bool} {Q' : Qt} {a : Nat} {ci : Nat} (hd : Dc d.2.1 pc n (.invokevirtual idx) 3) (hw : VL d.1.cls idx d' 0) (ho : ly[a]? = some (.inr ci)) (hci : ci < 13) (hcc : RXf ci = d'.1.cls) (callee : Mt G l d' (dep', 0, 0, false) (.ref a :: []) ly M Q') (hdep : dep' + 1 ≤ dep) (hmx : (lg_sl (.ref a :: [])).length ≤ d'.2.2.1 ∧ d'.2.2.1 ≤ 40 ∧ (st.map fun v => v.category).sum ≤ 8) (hex : ex = true → ∀ v ly' M', Q' v ly' M' → ly'.length = ly.length) 
    (k : ∀ v ly' M', Q' v ly' M' → Rn G l d (dep, ca, sa, ex) n lv (v.toList ++ st) ly' M' Q) : Rn G l d (dep, ca, sa, ex) pc lv (.ref a :: st) ly M Q := by
  obtain ⟨hd, rfl⟩ := hd
  intro p e R s m args below meth c H locs cells slots ls Z hC hH hB hl hK
  have hM := callee.met hw.2.2.2.2.2.2 (by rw [sl_len]; exact hmx.1)
  refine W.size hC hH (fun hz => ?_)
  have hmd := hw.2.2.2
  have hR : (rmB (dep', 0, 0, false)).frames + 1 ≤ R.frames ∧ 8 + (d'.2.2.1 + 11) + (rmB (dep', 0, 0, false)).locals ≤ R.locals := ⟨Nat.le_trans hdep hB.1, by have := hB.2.1; have := hmx.2.1; show 8 + (d'.2.2.1 + 11) + 64 * dep' ≤ R.locals; dsimp only at *; omega⟩
  have cb := callB_of (R := R) (s := s) (args := args) (own := d.1.cls) (index := idx) (rm := rmB (dep', 0, 0, false)) 0 hC.hts (code_in hmd) rfl rfl rfl (hC.hts _ hmd.2.1) (hC.hts _ hw.1) hmd.2.2.1 hR
  have hf : cells + 0 ≤ R.cells ∧ slots + 0 ≤ R.slots := by
    have := hB.2.2
    dsimp only at this
    omega
  obtain ⟨q1, -⟩ := clq_all ci hci
  have hr := va_runV (C := d'.1.cls) (b := G.1 + a) (e := e) (below := below) (meth := meth) (locs := locs) (cells := cells) (slots := slots) (g := F0 m pc ls ((.ref a :: st).map (tv G))) (As := ([]).map (tv G)) (rest := st.map (tv G)) ⟨hC.hx, hC.hb, hC.hml, hC.hown, hC.hts⟩ hM ⟨cb, hC.hts _ hw.2.1, hC.hts _ hw.2.2.1⟩ ⟨Pm.blind _ _ _ _ _, hcc ▸ va_recv hC.hK hH.1 (ci := ci) (q0 := a) q1 (wG_get ho), fun U hU hW => ⟨rfl, Pm.at (ex' := false) hC hH hz (fun h => by cases h) U hU hW⟩⟩ rfl rfl hl.1 rfl (lv_room (by rw [cat_map]; exact hmx.2.2)) hd hf
  exact W.back (b := (0, 0, 0, false)) (k1 := 0) (ca := ca) (sa := sa) (ca' := 0) (sa' := 0) hr hC hH hB hl hK (by intro q; exact hex q) k
theorem Rn.callV1 {d' : Md} {idx dep dep' ca sa : Nat} {ex : Bool} {Q' : Qt} {x0 : Value} {a : Nat} {ci : Nat} (hd : Dc d.2.1 pc n (.invokevirtual idx) 3) (hw : VL d.1.cls idx d' 1) (ho : ly[a]? = some (.inr ci)) (hci : ci < 13) (hcc : RXf ci = d'.1.cls) (callee : Mt G l d' (dep', 0, 0, false) (.ref a :: [x0]) ly M Q') (hdep : dep' + 1 ≤ dep) (hmx : (lg_sl (.ref a :: [x0])).length ≤ d'.2.2.1 ∧ d'.2.2.1 ≤ 40 ∧ (st.map fun v => v.category).sum ≤ 8) (hex : ex = true → ∀ v ly' M', Q' v ly' M' → ly'.length = ly.length) 
    (k : ∀ v ly' M', Q' v ly' M' → Rn G l d (dep, ca, sa, ex) n lv (v.toList ++ st) ly' M' Q) : Rn G l d (dep, ca, sa, ex) pc lv (x0 :: .ref a :: st) ly M Q := by
  obtain ⟨hd, rfl⟩ := hd
  intro p e R s m args below meth c H locs cells slots ls Z hC hH hB hl hK
  have hM := callee.met hw.2.2.2.2.2.2 (by rw [sl_len]; exact hmx.1)
  refine W.size hC hH (fun hz => ?_)
  have hmd := hw.2.2.2
  have hR : (rmB (dep', 0, 0, false)).frames + 1 ≤ R.frames ∧ 8 + (d'.2.2.1 + 11) + (rmB (dep', 0, 0, false)).locals ≤ R.locals := ⟨Nat.le_trans hdep hB.1, by have := hB.2.1; have := hmx.2.1; show 8 + (d'.2.2.1 + 11) + 64 * dep' ≤ R.locals; dsimp only at *; omega⟩
  have cb := callB_of (R := R) (s := s) (args := args) (own := d.1.cls) (index := idx) (rm := rmB (dep', 0, 0, false)) 1 hC.hts (code_in hmd) rfl rfl rfl (hC.hts _ hmd.2.1) (hC.hts _ hw.1) hmd.2.2.1 hR
  have hf : cells + 0 ≤ R.cells ∧ slots + 0 ≤ R.slots := by
    have := hB.2.2
    dsimp only at this
    omega
  obtain ⟨q1, -⟩ := clq_all ci hci
  have hr := va_runV (C := d'.1.cls) (b := G.1 + a) (e := e) (below := below) (meth := meth) (locs := locs) (cells := cells) (slots := slots) (g := F0 m pc ls ((x0 :: .ref a :: st).map (tv G))) (As := ([x0]).map (tv G)) (rest := st.map (tv G)) ⟨hC.hx, hC.hb, hC.hml, hC.hown, hC.hts⟩ hM ⟨cb, hC.hts _ hw.2.1, hC.hts _ hw.2.2.1⟩ ⟨Pm.blind _ _ _ _ _, hcc ▸ va_recv hC.hK hH.1 (ci := ci) (q0 := a) q1 (wG_get ho), fun U hU hW => ⟨rfl, Pm.at (ex' := false) hC hH hz (fun h => by cases h) U hU hW⟩⟩ rfl rfl hl.1 rfl (lv_room (by rw [cat_map]; exact hmx.2.2)) hd hf
  exact W.back (b := (0, 0, 0, false)) (k1 := 0) (ca := ca) (sa := sa) (ca' := 0) (sa' := 0) hr hC hH hB hl hK (by intro q; exact hex q) k
theorem Rn.callV2 {d' : Md} {idx dep dep' ca sa : Nat} {ex : Bool} {Q' : Qt} {x0 x1 : Value} {a : Nat} {ci : Nat} (hd : Dc d.2.1 pc n (.invokevirtual idx) 3) (hw : VL d.1.cls idx d' 2) (ho : ly[a]? = some (.inr ci)) (hci : ci < 13) (hcc : RXf ci = d'.1.cls) (callee : Mt G l d' (dep', 0, 0, false) (.ref a :: [x0, x1]) ly M Q') (hdep : dep' + 1 ≤ dep) (hmx : (lg_sl (.ref a :: [x0, x1])).length ≤ d'.2.2.1 ∧ d'.2.2.1 ≤ 40 ∧ (st.map fun v => v.category).sum ≤ 8) (hex : ex = true → ∀ v ly' M', Q' v ly' M' → ly'.length = ly.length) 
    (k : ∀ v ly' M', Q' v ly' M' → Rn G l d (dep, ca, sa, ex) n lv (v.toList ++ st) ly' M' Q) : Rn G l d (dep, ca, sa, ex) pc lv (x1 :: x0 :: .ref a :: st) ly M Q := by
  obtain ⟨hd, rfl⟩ := hd
  intro p e R s m args below meth c H locs cells slots ls Z hC hH hB hl hK
  have hM := callee.met hw.2.2.2.2.2.2 (by rw [sl_len]; exact hmx.1)
  refine W.size hC hH (fun hz => ?_)
  have hmd := hw.2.2.2
  have hR : (rmB (dep', 0, 0, false)).frames + 1 ≤ R.frames ∧ 8 + (d'.2.2.1 + 11) + (rmB (dep', 0, 0, false)).locals ≤ R.locals := ⟨Nat.le_trans hdep hB.1, by have := hB.2.1; have := hmx.2.1; show 8 + (d'.2.2.1 + 11) + 64 * dep' ≤ R.locals; dsimp only at *; omega⟩
  have cb := callB_of (R := R) (s := s) (args := args) (own := d.1.cls) (index := idx) (rm := rmB (dep', 0, 0, false)) 2 hC.hts (code_in hmd) rfl rfl rfl (hC.hts _ hmd.2.1) (hC.hts _ hw.1) hmd.2.2.1 hR
  have hf : cells + 0 ≤ R.cells ∧ slots + 0 ≤ R.slots := by
    have := hB.2.2
    dsimp only at this
    omega
  obtain ⟨q1, -⟩ := clq_all ci hci
  have hr := va_runV (C := d'.1.cls) (b := G.1 + a) (e := e) (below := below) (meth := meth) (locs := locs) (cells := cells) (slots := slots) (g := F0 m pc ls ((x1 :: x0 :: .ref a :: st).map (tv G))) (As := ([x0, x1]).map (tv G)) (rest := st.map (tv G)) ⟨hC.hx, hC.hb, hC.hml, hC.hown, hC.hts⟩ hM ⟨cb, hC.hts _ hw.2.1, hC.hts _ hw.2.2.1⟩ ⟨Pm.blind _ _ _ _ _, hcc ▸ va_recv hC.hK hH.1 (ci := ci) (q0 := a) q1 (wG_get ho), fun U hU hW => ⟨rfl, Pm.at (ex' := false) hC hH hz (fun h => by cases h) U hU hW⟩⟩ rfl rfl hl.1 rfl (lv_room (by rw [cat_map]; exact hmx.2.2)) hd hf
  exact W.back (b := (0, 0, 0, false)) (k1 := 0) (ca := ca) (sa := sa) (ca' := 0) (sa' := 0) hr hC hH hB hl hK (by intro q; exact hex q) k
theorem Rn.callV3 {d' : Md} {idx dep dep' ca sa : Nat} {ex : Bool} {Q' : Qt} {x0 x1 x2 : Value} {a : Nat} {ci : Nat} (hd : Dc d.2.1 pc n (.invokevirtual idx) 3) (hw : VL d.1.cls idx d' 3) (ho : ly[a]? = some (.inr ci)) (hci : ci < 13) (hcc : RXf ci = d'.1.cls) (callee : Mt G l d' (dep', 0, 0, false) (.ref a :: [x0, x1, x2]) ly M Q') (hdep : dep' + 1 ≤ dep) (hmx : (lg_sl (.ref a :: [x0, x1, x2])).length ≤ d'.2.2.1 ∧ d'.2.2.1 ≤ 40 ∧ (st.map fun v => v.category).sum ≤ 8) (hex : ex = true → ∀ v ly' M', Q' v ly' M' → ly'.length = ly.length) 
    (k : ∀ v ly' M', Q' v ly' M' → Rn G l d (dep, ca, sa, ex) n lv (v.toList ++ st) ly' M' Q) : Rn G l d (dep, ca, sa, ex) pc lv (x2 :: x1 :: x0 :: .ref a :: st) ly M Q := by
  obtain ⟨hd, rfl⟩ := hd
  intro p e R s m args below meth c H locs cells slots ls Z hC hH hB hl hK
  have hM := callee.met hw.2.2.2.2.2.2 (by rw [sl_len]; exact hmx.1)
  refine W.size hC hH (fun hz => ?_)
  have hmd := hw.2.2.2
  have hR : (rmB (dep', 0, 0, false)).frames + 1 ≤ R.frames ∧ 8 + (d'.2.2.1 + 11) + (rmB (dep', 0, 0, false)).locals ≤ R.locals := ⟨Nat.le_trans hdep hB.1, by have := hB.2.1; have := hmx.2.1; show 8 + (d'.2.2.1 + 11) + 64 * dep' ≤ R.locals; dsimp only at *; omega⟩
  have cb := callB_of (R := R) (s := s) (args := args) (own := d.1.cls) (index := idx) (rm := rmB (dep', 0, 0, false)) 3 hC.hts (code_in hmd) rfl rfl rfl (hC.hts _ hmd.2.1) (hC.hts _ hw.1) hmd.2.2.1 hR
  have hf : cells + 0 ≤ R.cells ∧ slots + 0 ≤ R.slots := by
    have := hB.2.2
    dsimp only at this
    omega
  obtain ⟨q1, -⟩ := clq_all ci hci
  have hr := va_runV (C := d'.1.cls) (b := G.1 + a) (e := e) (below := below) (meth := meth) (locs := locs) (cells := cells) (slots := slots) (g := F0 m pc ls ((x2 :: x1 :: x0 :: .ref a :: st).map (tv G))) (As := ([x0, x1, x2]).map (tv G)) (rest := st.map (tv G)) ⟨hC.hx, hC.hb, hC.hml, hC.hown, hC.hts⟩ hM ⟨cb, hC.hts _ hw.2.1, hC.hts _ hw.2.2.1⟩ ⟨Pm.blind _ _ _ _ _, hcc ▸ va_recv hC.hK hH.1 (ci := ci) (q0 := a) q1 (wG_get ho), fun U hU hW => ⟨rfl, Pm.at (ex' := false) hC hH hz (fun h => by cases h) U hU hW⟩⟩ rfl rfl hl.1 rfl (lv_room (by rw [cat_map]; exact hmx.2.2)) hd hf
  exact W.back (b := (0, 0, 0, false)) (k1 := 0) (ca := ca) (sa := sa) (ca' := 0) (sa' := 0) hr hC hH hB hl hK (by intro q; exact hex q) k
theorem Rn.callV4 {d' : Md} {idx dep dep' ca sa : Nat} {ex : Bool} {Q' : Qt} {x0 x1 x2 x3 : Value} {a : Nat} {ci : Nat} (hd : Dc d.2.1 pc n (.invokevirtual idx) 3) (hw : VL d.1.cls idx d' 4) (ho : ly[a]? = some (.inr ci)) (hci : ci < 13) (hcc : RXf ci = d'.1.cls) (callee : Mt G l d' (dep', 0, 0, false) (.ref a :: [x0, x1, x2, x3]) ly M Q') (hdep : dep' + 1 ≤ dep) (hmx : (lg_sl (.ref a :: [x0, x1, x2, x3])).length ≤ d'.2.2.1 ∧ d'.2.2.1 ≤ 40 ∧ (st.map fun v => v.category).sum ≤ 8) (hex : ex = true → ∀ v ly' M', Q' v ly' M' → ly'.length = ly.length) 
    (k : ∀ v ly' M', Q' v ly' M' → Rn G l d (dep, ca, sa, ex) n lv (v.toList ++ st) ly' M' Q) : Rn G l d (dep, ca, sa, ex) pc lv (x3 :: x2 :: x1 :: x0 :: .ref a :: st) ly M Q := by
  obtain ⟨hd, rfl⟩ := hd
  intro p e R s m args below meth c H locs cells slots ls Z hC hH hB hl hK
  have hM := callee.met hw.2.2.2.2.2.2 (by rw [sl_len]; exact hmx.1)
  refine W.size hC hH (fun hz => ?_)
  have hmd := hw.2.2.2
  have hR : (rmB (dep', 0, 0, false)).frames + 1 ≤ R.frames ∧ 8 + (d'.2.2.1 + 11) + (rmB (dep', 0, 0, false)).locals ≤ R.locals := ⟨Nat.le_trans hdep hB.1, by have := hB.2.1; have := hmx.2.1; show 8 + (d'.2.2.1 + 11) + 64 * dep' ≤ R.locals; dsimp only at *; omega⟩
  have cb := callB_of (R := R) (s := s) (args := args) (own := d.1.cls) (index := idx) (rm := rmB (dep', 0, 0, false)) 4 hC.hts (code_in hmd) rfl rfl rfl (hC.hts _ hmd.2.1) (hC.hts _ hw.1) hmd.2.2.1 hR
  have hf : cells + 0 ≤ R.cells ∧ slots + 0 ≤ R.slots := by
    have := hB.2.2
    dsimp only at this
    omega
  obtain ⟨q1, -⟩ := clq_all ci hci
  have hr := va_runV (C := d'.1.cls) (b := G.1 + a) (e := e) (below := below) (meth := meth) (locs := locs) (cells := cells) (slots := slots) (g := F0 m pc ls ((x3 :: x2 :: x1 :: x0 :: .ref a :: st).map (tv G))) (As := ([x0, x1, x2, x3]).map (tv G)) (rest := st.map (tv G)) ⟨hC.hx, hC.hb, hC.hml, hC.hown, hC.hts⟩ hM ⟨cb, hC.hts _ hw.2.1, hC.hts _ hw.2.2.1⟩ ⟨Pm.blind _ _ _ _ _, hcc ▸ va_recv hC.hK hH.1 (ci := ci) (q0 := a) q1 (wG_get ho), fun U hU hW => ⟨rfl, Pm.at (ex' := false) hC hH hz (fun h => by cases h) U hU hW⟩⟩ rfl rfl hl.1 rfl (lv_room (by rw [cat_map]; exact hmx.2.2)) hd hf
  exact W.back (b := (0, 0, 0, false)) (k1 := 0) (ca := ca) (sa := sa) (ca' := 0) (sa' := 0) hr hC hH hB hl hK (by intro q; exact hex q) k
theorem Rn.callV5 {d' : Md} {idx dep dep' ca sa : Nat} {ex : Bool} {Q' : Qt} {x0 x1 x2 x3 x4 : Value} {a : Nat} {ci : Nat} (hd : Dc d.2.1 pc n (.invokevirtual idx) 3) (hw : VL d.1.cls idx d' 5) (ho : ly[a]? = some (.inr ci)) (hci : ci < 13) (hcc : RXf ci = d'.1.cls) (callee : Mt G l d' (dep', 0, 0, false) (.ref a :: [x0, x1, x2, x3, x4]) ly M Q') (hdep : dep' + 1 ≤ dep) (hmx : (lg_sl (.ref a :: [x0, x1, x2, x3, x4])).length ≤ d'.2.2.1 ∧ d'.2.2.1 ≤ 40 ∧ (st.map fun v => v.category).sum ≤ 8) (hex : ex = true → ∀ v ly' M', Q' v ly' M' → ly'.length = ly.length) 
    (k : ∀ v ly' M', Q' v ly' M' → Rn G l d (dep, ca, sa, ex) n lv (v.toList ++ st) ly' M' Q) : Rn G l d (dep, ca, sa, ex) pc lv (x4 :: x3 :: x2 :: x1 :: x0 :: .ref a :: st) ly M Q := by
  obtain ⟨hd, rfl⟩ := hd
  intro p e R s m args below meth c H locs cells slots ls Z hC hH hB hl hK
  have hM := callee.met hw.2.2.2.2.2.2 (by rw [sl_len]; exact hmx.1)
  refine W.size hC hH (fun hz => ?_)
  have hmd := hw.2.2.2
  have hR : (rmB (dep', 0, 0, false)).frames + 1 ≤ R.frames ∧ 8 + (d'.2.2.1 + 11) + (rmB (dep', 0, 0, false)).locals ≤ R.locals := ⟨Nat.le_trans hdep hB.1, by have := hB.2.1; have := hmx.2.1; show 8 + (d'.2.2.1 + 11) + 64 * dep' ≤ R.locals; dsimp only at *; omega⟩
  have cb := callB_of (R := R) (s := s) (args := args) (own := d.1.cls) (index := idx) (rm := rmB (dep', 0, 0, false)) 5 hC.hts (code_in hmd) rfl rfl rfl (hC.hts _ hmd.2.1) (hC.hts _ hw.1) hmd.2.2.1 hR
  have hf : cells + 0 ≤ R.cells ∧ slots + 0 ≤ R.slots := by
    have := hB.2.2
    dsimp only at this
    omega
  obtain ⟨q1, -⟩ := clq_all ci hci
  have hr := va_runV (C := d'.1.cls) (b := G.1 + a) (e := e) (below := below) (meth := meth) (locs := locs) (cells := cells) (slots := slots) (g := F0 m pc ls ((x4 :: x3 :: x2 :: x1 :: x0 :: .ref a :: st).map (tv G))) (As := ([x0, x1, x2, x3, x4]).map (tv G)) (rest := st.map (tv G)) ⟨hC.hx, hC.hb, hC.hml, hC.hown, hC.hts⟩ hM ⟨cb, hC.hts _ hw.2.1, hC.hts _ hw.2.2.1⟩ ⟨Pm.blind _ _ _ _ _, hcc ▸ va_recv hC.hK hH.1 (ci := ci) (q0 := a) q1 (wG_get ho), fun U hU hW => ⟨rfl, Pm.at (ex' := false) hC hH hz (fun h => by cases h) U hU hW⟩⟩ rfl rfl hl.1 rfl (lv_room (by rw [cat_map]; exact hmx.2.2)) hd hf
  exact W.back (b := (0, 0, 0, false)) (k1 := 0) (ca := ca) (sa := sa) (ca' := 0) (sa' := 0) hr hC hH hB hl hK (by intro q; exact hex q) k
theorem Rn.callS0 {d' : Md} {idx dep dep' ca sa : Nat} {ex : Bool} {Q' : Qt} (hd : Dc d.2.1 pc n (.invokestatic idx) 3) (hw : SL d.1.cls idx d' 0) (callee : Mt G l d' (dep', 0, 0, false) ([]) ly M Q') (hdep : dep' + 1 ≤ dep) (hmx : (lg_sl ([])).length ≤ d'.2.2.1 ∧ d'.2.2.1 ≤ 40 ∧ (st.map fun v => v.category).sum ≤ 8) (hex : ex = true → ∀ v ly' M', Q' v ly' M' → ly'.length = ly.length) 
    (k : ∀ v ly' M', Q' v ly' M' → Rn G l d (dep, ca, sa, ex) n lv (v.toList ++ st) ly' M' Q) : Rn G l d (dep, ca, sa, ex) pc lv (st) ly M Q := by
  obtain ⟨hd, rfl⟩ := hd
  intro p e R s m args below meth c H locs cells slots ls Z hC hH hB hl hK
  have hM := callee.met hw.2.2.2.2.2 (by rw [sl_len]; exact hmx.1)
  refine W.size hC hH (fun hz => ?_)
  have hmd := hw.2.2
  have hR : (rmB (dep', 0, 0, false)).frames + 1 ≤ R.frames ∧ 8 + (d'.2.2.1 + 11) + (rmB (dep', 0, 0, false)).locals ≤ R.locals := ⟨Nat.le_trans hdep hB.1, by have := hB.2.1; have := hmx.2.1; show 8 + (d'.2.2.1 + 11) + 64 * dep' ≤ R.locals; dsimp only at *; omega⟩
  have cb := callB_of (R := R) (s := s) (args := args) (own := d.1.cls) (index := idx) (rm := rmB (dep', 0, 0, false)) 0 hC.hts (code_in hmd) rfl rfl rfl (hC.hts _ hmd.2.1) (hC.hts _ hw.1) hmd.2.2.1 hR
  have hf : cells + 0 ≤ R.cells ∧ slots + 0 ≤ R.slots := by
    have := hB.2.2
    dsimp only at this
    omega
  have hr := va_runS (e := e) (below := below) (meth := meth) (locs := locs) (cells := cells) (slots := slots) (g := F0 m pc ls ((st).map (tv G))) (As := ([]).map (tv G)) (rest := st.map (tv G)) ⟨hC.hx, hC.hb, hC.hml, hC.hown, hC.hts⟩ hM ⟨cb, hC.hts _ hw.2.1⟩ ⟨Pm.blind _ _ _ _ _, fun U hU hW => ⟨rfl, Pm.at (ex' := false) hC hH hz (fun h => by cases h) U hU hW⟩⟩ rfl rfl hl.1 rfl (lv_room (by rw [cat_map]; exact hmx.2.2)) hd hf
  exact W.back (b := (0, 0, 0, false)) (k1 := 0) (ca := ca) (sa := sa) (ca' := 0) (sa' := 0) hr hC hH hB hl hK (by intro q; exact hex q) k
theorem Rn.callS1 {d' : Md} {idx dep dep' ca sa : Nat} {ex : Bool} {Q' : Qt} {x0 : Value} (hd : Dc d.2.1 pc n (.invokestatic idx) 3) (hw : SL d.1.cls idx d' 1) (callee : Mt G l d' (dep', 0, 0, false) ([x0]) ly M Q') (hdep : dep' + 1 ≤ dep) (hmx : (lg_sl ([x0])).length ≤ d'.2.2.1 ∧ d'.2.2.1 ≤ 40 ∧ (st.map fun v => v.category).sum ≤ 8) (hex : ex = true → ∀ v ly' M', Q' v ly' M' → ly'.length = ly.length) 
    (k : ∀ v ly' M', Q' v ly' M' → Rn G l d (dep, ca, sa, ex) n lv (v.toList ++ st) ly' M' Q) : Rn G l d (dep, ca, sa, ex) pc lv (x0 :: st) ly M Q := by
  obtain ⟨hd, rfl⟩ := hd
  intro p e R s m args below meth c H locs cells slots ls Z hC hH hB hl hK
  have hM := callee.met hw.2.2.2.2.2 (by rw [sl_len]; exact hmx.1)
  refine W.size hC hH (fun hz => ?_)
  have hmd := hw.2.2
  have hR : (rmB (dep', 0, 0, false)).frames + 1 ≤ R.frames ∧ 8 + (d'.2.2.1 + 11) + (rmB (dep', 0, 0, false)).locals ≤ R.locals := ⟨Nat.le_trans hdep hB.1, by have := hB.2.1; have := hmx.2.1; show 8 + (d'.2.2.1 + 11) + 64 * dep' ≤ R.locals; dsimp only at *; omega⟩
  have cb := callB_of (R := R) (s := s) (args := args) (own := d.1.cls) (index := idx) (rm := rmB (dep', 0, 0, false)) 1 hC.hts (code_in hmd) rfl rfl rfl (hC.hts _ hmd.2.1) (hC.hts _ hw.1) hmd.2.2.1 hR
  have hf : cells + 0 ≤ R.cells ∧ slots + 0 ≤ R.slots := by
    have := hB.2.2
    dsimp only at this
    omega
  have hr := va_runS (e := e) (below := below) (meth := meth) (locs := locs) (cells := cells) (slots := slots) (g := F0 m pc ls ((x0 :: st).map (tv G))) (As := ([x0]).map (tv G)) (rest := st.map (tv G)) ⟨hC.hx, hC.hb, hC.hml, hC.hown, hC.hts⟩ hM ⟨cb, hC.hts _ hw.2.1⟩ ⟨Pm.blind _ _ _ _ _, fun U hU hW => ⟨rfl, Pm.at (ex' := false) hC hH hz (fun h => by cases h) U hU hW⟩⟩ rfl rfl hl.1 rfl (lv_room (by rw [cat_map]; exact hmx.2.2)) hd hf
  exact W.back (b := (0, 0, 0, false)) (k1 := 0) (ca := ca) (sa := sa) (ca' := 0) (sa' := 0) hr hC hH hB hl hK (by intro q; exact hex q) k
theorem Rn.callS2 {d' : Md} {idx dep dep' ca sa : Nat} {ex : Bool} {Q' : Qt} {x0 x1 : Value} (hd : Dc d.2.1 pc n (.invokestatic idx) 3) (hw : SL d.1.cls idx d' 2) (callee : Mt G l d' (dep', 0, 0, false) ([x0, x1]) ly M Q') (hdep : dep' + 1 ≤ dep) (hmx : (lg_sl ([x0, x1])).length ≤ d'.2.2.1 ∧ d'.2.2.1 ≤ 40 ∧ (st.map fun v => v.category).sum ≤ 8) (hex : ex = true → ∀ v ly' M', Q' v ly' M' → ly'.length = ly.length) 
    (k : ∀ v ly' M', Q' v ly' M' → Rn G l d (dep, ca, sa, ex) n lv (v.toList ++ st) ly' M' Q) : Rn G l d (dep, ca, sa, ex) pc lv (x1 :: x0 :: st) ly M Q := by
  obtain ⟨hd, rfl⟩ := hd
  intro p e R s m args below meth c H locs cells slots ls Z hC hH hB hl hK
  have hM := callee.met hw.2.2.2.2.2 (by rw [sl_len]; exact hmx.1)
  refine W.size hC hH (fun hz => ?_)
  have hmd := hw.2.2
  have hR : (rmB (dep', 0, 0, false)).frames + 1 ≤ R.frames ∧ 8 + (d'.2.2.1 + 11) + (rmB (dep', 0, 0, false)).locals ≤ R.locals := ⟨Nat.le_trans hdep hB.1, by have := hB.2.1; have := hmx.2.1; show 8 + (d'.2.2.1 + 11) + 64 * dep' ≤ R.locals; dsimp only at *; omega⟩
  have cb := callB_of (R := R) (s := s) (args := args) (own := d.1.cls) (index := idx) (rm := rmB (dep', 0, 0, false)) 2 hC.hts (code_in hmd) rfl rfl rfl (hC.hts _ hmd.2.1) (hC.hts _ hw.1) hmd.2.2.1 hR
  have hf : cells + 0 ≤ R.cells ∧ slots + 0 ≤ R.slots := by
    have := hB.2.2
    dsimp only at this
    omega
  have hr := va_runS (e := e) (below := below) (meth := meth) (locs := locs) (cells := cells) (slots := slots) (g := F0 m pc ls ((x1 :: x0 :: st).map (tv G))) (As := ([x0, x1]).map (tv G)) (rest := st.map (tv G)) ⟨hC.hx, hC.hb, hC.hml, hC.hown, hC.hts⟩ hM ⟨cb, hC.hts _ hw.2.1⟩ ⟨Pm.blind _ _ _ _ _, fun U hU hW => ⟨rfl, Pm.at (ex' := false) hC hH hz (fun h => by cases h) U hU hW⟩⟩ rfl rfl hl.1 rfl (lv_room (by rw [cat_map]; exact hmx.2.2)) hd hf
  exact W.back (b := (0, 0, 0, false)) (k1 := 0) (ca := ca) (sa := sa) (ca' := 0) (sa' := 0) hr hC hH hB hl hK (by intro q; exact hex q) k
theorem Rn.callS3 {d' : Md} {idx dep dep' ca sa : Nat} {ex : Bool} {Q' : Qt} {x0 x1 x2 : Value} (hd : Dc d.2.1 pc n (.invokestatic idx) 3) (hw : SL d.1.cls idx d' 3) (callee : Mt G l d' (dep', 0, 0, false) ([x0, x1, x2]) ly M Q') (hdep : dep' + 1 ≤ dep) (hmx : (lg_sl ([x0, x1, x2])).length ≤ d'.2.2.1 ∧ d'.2.2.1 ≤ 40 ∧ (st.map fun v => v.category).sum ≤ 8) (hex : ex = true → ∀ v ly' M', Q' v ly' M' → ly'.length = ly.length) 
    (k : ∀ v ly' M', Q' v ly' M' → Rn G l d (dep, ca, sa, ex) n lv (v.toList ++ st) ly' M' Q) : Rn G l d (dep, ca, sa, ex) pc lv (x2 :: x1 :: x0 :: st) ly M Q := by
  obtain ⟨hd, rfl⟩ := hd
  intro p e R s m args below meth c H locs cells slots ls Z hC hH hB hl hK
  have hM := callee.met hw.2.2.2.2.2 (by rw [sl_len]; exact hmx.1)
  refine W.size hC hH (fun hz => ?_)
  have hmd := hw.2.2
  have hR : (rmB (dep', 0, 0, false)).frames + 1 ≤ R.frames ∧ 8 + (d'.2.2.1 + 11) + (rmB (dep', 0, 0, false)).locals ≤ R.locals := ⟨Nat.le_trans hdep hB.1, by have := hB.2.1; have := hmx.2.1; show 8 + (d'.2.2.1 + 11) + 64 * dep' ≤ R.locals; dsimp only at *; omega⟩
  have cb := callB_of (R := R) (s := s) (args := args) (own := d.1.cls) (index := idx) (rm := rmB (dep', 0, 0, false)) 3 hC.hts (code_in hmd) rfl rfl rfl (hC.hts _ hmd.2.1) (hC.hts _ hw.1) hmd.2.2.1 hR
  have hf : cells + 0 ≤ R.cells ∧ slots + 0 ≤ R.slots := by
    have := hB.2.2
    dsimp only at this
    omega
  have hr := va_runS (e := e) (below := below) (meth := meth) (locs := locs) (cells := cells) (slots := slots) (g := F0 m pc ls ((x2 :: x1 :: x0 :: st).map (tv G))) (As := ([x0, x1, x2]).map (tv G)) (rest := st.map (tv G)) ⟨hC.hx, hC.hb, hC.hml, hC.hown, hC.hts⟩ hM ⟨cb, hC.hts _ hw.2.1⟩ ⟨Pm.blind _ _ _ _ _, fun U hU hW => ⟨rfl, Pm.at (ex' := false) hC hH hz (fun h => by cases h) U hU hW⟩⟩ rfl rfl hl.1 rfl (lv_room (by rw [cat_map]; exact hmx.2.2)) hd hf
  exact W.back (b := (0, 0, 0, false)) (k1 := 0) (ca := ca) (sa := sa) (ca' := 0) (sa' := 0) hr hC hH hB hl hK (by intro q; exact hex q) k
theorem Rn.callS4 {d' : Md} {idx dep dep' ca sa : Nat} {ex : Bool} {Q' : Qt} {x0 x1 x2 x3 : Value} (hd : Dc d.2.1 pc n (.invokestatic idx) 3) (hw : SL d.1.cls idx d' 4) (callee : Mt G l d' (dep', 0, 0, false) ([x0, x1, x2, x3]) ly M Q') (hdep : dep' + 1 ≤ dep) (hmx : (lg_sl ([x0, x1, x2, x3])).length ≤ d'.2.2.1 ∧ d'.2.2.1 ≤ 40 ∧ (st.map fun v => v.category).sum ≤ 8) (hex : ex = true → ∀ v ly' M', Q' v ly' M' → ly'.length = ly.length) 
    (k : ∀ v ly' M', Q' v ly' M' → Rn G l d (dep, ca, sa, ex) n lv (v.toList ++ st) ly' M' Q) : Rn G l d (dep, ca, sa, ex) pc lv (x3 :: x2 :: x1 :: x0 :: st) ly M Q := by
  obtain ⟨hd, rfl⟩ := hd
  intro p e R s m args below meth c H locs cells slots ls Z hC hH hB hl hK
  have hM := callee.met hw.2.2.2.2.2 (by rw [sl_len]; exact hmx.1)
  refine W.size hC hH (fun hz => ?_)
  have hmd := hw.2.2
  have hR : (rmB (dep', 0, 0, false)).frames + 1 ≤ R.frames ∧ 8 + (d'.2.2.1 + 11) + (rmB (dep', 0, 0, false)).locals ≤ R.locals := ⟨Nat.le_trans hdep hB.1, by have := hB.2.1; have := hmx.2.1; show 8 + (d'.2.2.1 + 11) + 64 * dep' ≤ R.locals; dsimp only at *; omega⟩
  have cb := callB_of (R := R) (s := s) (args := args) (own := d.1.cls) (index := idx) (rm := rmB (dep', 0, 0, false)) 4 hC.hts (code_in hmd) rfl rfl rfl (hC.hts _ hmd.2.1) (hC.hts _ hw.1) hmd.2.2.1 hR
  have hf : cells + 0 ≤ R.cells ∧ slots + 0 ≤ R.slots := by
    have := hB.2.2
    dsimp only at this
    omega
  have hr := va_runS (e := e) (below := below) (meth := meth) (locs := locs) (cells := cells) (slots := slots) (g := F0 m pc ls ((x3 :: x2 :: x1 :: x0 :: st).map (tv G))) (As := ([x0, x1, x2, x3]).map (tv G)) (rest := st.map (tv G)) ⟨hC.hx, hC.hb, hC.hml, hC.hown, hC.hts⟩ hM ⟨cb, hC.hts _ hw.2.1⟩ ⟨Pm.blind _ _ _ _ _, fun U hU hW => ⟨rfl, Pm.at (ex' := false) hC hH hz (fun h => by cases h) U hU hW⟩⟩ rfl rfl hl.1 rfl (lv_room (by rw [cat_map]; exact hmx.2.2)) hd hf
  exact W.back (b := (0, 0, 0, false)) (k1 := 0) (ca := ca) (sa := sa) (ca' := 0) (sa' := 0) hr hC hH hB hl hK (by intro q; exact hex q) k
theorem Rn.callS5 {d' : Md} {idx dep dep' ca sa : Nat} {ex : Bool} {Q' : Qt} {x0 x1 x2 x3 x4 : Value} (hd : Dc d.2.1 pc n (.invokestatic idx) 3) (hw : SL d.1.cls idx d' 5) (callee : Mt G l d' (dep', 0, 0, false) ([x0, x1, x2, x3, x4]) ly M Q') (hdep : dep' + 1 ≤ dep) (hmx : (lg_sl ([x0, x1, x2, x3, x4])).length ≤ d'.2.2.1 ∧ d'.2.2.1 ≤ 40 ∧ (st.map fun v => v.category).sum ≤ 8) (hex : ex = true → ∀ v ly' M', Q' v ly' M' → ly'.length = ly.length) 
    (k : ∀ v ly' M', Q' v ly' M' → Rn G l d (dep, ca, sa, ex) n lv (v.toList ++ st) ly' M' Q) : Rn G l d (dep, ca, sa, ex) pc lv (x4 :: x3 :: x2 :: x1 :: x0 :: st) ly M Q := by
  obtain ⟨hd, rfl⟩ := hd
  intro p e R s m args below meth c H locs cells slots ls Z hC hH hB hl hK
  have hM := callee.met hw.2.2.2.2.2 (by rw [sl_len]; exact hmx.1)
  refine W.size hC hH (fun hz => ?_)
  have hmd := hw.2.2
  have hR : (rmB (dep', 0, 0, false)).frames + 1 ≤ R.frames ∧ 8 + (d'.2.2.1 + 11) + (rmB (dep', 0, 0, false)).locals ≤ R.locals := ⟨Nat.le_trans hdep hB.1, by have := hB.2.1; have := hmx.2.1; show 8 + (d'.2.2.1 + 11) + 64 * dep' ≤ R.locals; dsimp only at *; omega⟩
  have cb := callB_of (R := R) (s := s) (args := args) (own := d.1.cls) (index := idx) (rm := rmB (dep', 0, 0, false)) 5 hC.hts (code_in hmd) rfl rfl rfl (hC.hts _ hmd.2.1) (hC.hts _ hw.1) hmd.2.2.1 hR
  have hf : cells + 0 ≤ R.cells ∧ slots + 0 ≤ R.slots := by
    have := hB.2.2
    dsimp only at this
    omega
  have hr := va_runS (e := e) (below := below) (meth := meth) (locs := locs) (cells := cells) (slots := slots) (g := F0 m pc ls ((x4 :: x3 :: x2 :: x1 :: x0 :: st).map (tv G))) (As := ([x0, x1, x2, x3, x4]).map (tv G)) (rest := st.map (tv G)) ⟨hC.hx, hC.hb, hC.hml, hC.hown, hC.hts⟩ hM ⟨cb, hC.hts _ hw.2.1⟩ ⟨Pm.blind _ _ _ _ _, fun U hU hW => ⟨rfl, Pm.at (ex' := false) hC hH hz (fun h => by cases h) U hU hW⟩⟩ rfl rfl hl.1 rfl (lv_room (by rw [cat_map]; exact hmx.2.2)) hd hf
  exact W.back (b := (0, 0, 0, false)) (k1 := 0) (ca := ca) (sa := sa) (ca' := 0) (sa' := 0) hr hC hH hB hl hK (by intro q; exact hex q) k
theorem Rn.callIn0 {d' : Md} {idx dep dep' ca sa ca' sa' : Nat} {ex ex' : Bool} {Q' : Qt} {a : Nat} (hd : Dc d.2.1 pc n (.invokespecial idx) 3) (hw : IL d.1.cls idx d' 0) (callee : Mt G l d' (dep', ca', sa', ex') (.ref a :: []) ly M Q') (hnone : d'.2.2.2 = none) (hdep : dep' + 1 ≤ dep) (hmx : (lg_sl (.ref a :: [])).length ≤ d'.2.2.1 ∧ d'.2.2.1 ≤ 40 ∧ (st.map fun v => v.category).sum ≤ 8) (hxx : ex' = true → ex = true) (hex : ex = true → ∀ v ly' M', Q' v ly' M' → ly'.length = ly.length + ca') 
    (k : ∀ v ly' M', Q' v ly' M' → Rn G l d (dep, ca, sa, ex) n lv (v.toList ++ st) ly' M' Q) : Rn G l d (dep, ca + ca', sa + sa', ex) pc lv (.ref a :: st) ly M Q := by
  obtain ⟨hd, rfl⟩ := hd
  intro p e R s m args below meth c H locs cells slots ls Z hC hH hB hl hK
  have hM := callee.met hw.2.2.2.2.2.2 (by rw [sl_len]; exact hmx.1)
  refine W.size hC hH (fun hz => ?_)
  have hmd := hw.2.2.2
  have hR : (rmB (dep', ca', sa', ex')).frames + 1 ≤ R.frames ∧ 8 + (d'.2.2.1 + 11) + (rmB (dep', ca', sa', ex')).locals ≤ R.locals := ⟨Nat.le_trans hdep hB.1, by have := hB.2.1; have := hmx.2.1; show 8 + (d'.2.2.1 + 11) + 64 * dep' ≤ R.locals; dsimp only at *; omega⟩
  have cb := callB_of (R := R) (s := s) (args := args) (own := d.1.cls) (index := idx) (rm := rmB (dep', ca', sa', ex')) 0 hC.hts (code_in hmd) rfl rfl rfl (hC.hts _ hmd.2.1) (hC.hts _ hw.1) hmd.2.2.1 hR
  have hf : cells + ca' ≤ R.cells ∧ slots + sa' ≤ R.slots := by
    have := hB.2.2
    dsimp only at this
    omega
  have hr0 : d'.2.2.2 = none := hnone
  rw [hr0] at cb hM
  have hr := va_runI (b := G.1 + a) (e := e) (below := below) (meth := meth) (locs := locs) (cells := cells) (slots := slots) (g := F0 m pc ls ((.ref a :: st).map (tv G))) (As := ([]).map (tv G)) (rest := st.map (tv G)) ⟨hC.hx, hC.hb, hC.hml, hC.hown, hC.hts⟩ hM ⟨cb, hw.2.2.1, hC.hts _ hw.2.1⟩ ⟨Pm.blind _ _ _ _ _, fun U hU hW => ⟨rfl, Pm.at (ex' := ex') hC hH hz (hxx) U hU hW⟩⟩ rfl rfl hl.1 rfl (lv_room (by rw [cat_map]; exact hmx.2.2)) hd hf
  exact W.back (b := (0, 0, 0, false)) (k1 := 0) (ca := ca) (sa := sa) (ca' := ca') (sa' := sa') hr hC hH hB hl hK (by exact hex) k
theorem Rn.callIn1 {d' : Md} {idx dep dep' ca sa ca' sa' : Nat} {ex ex' : Bool} {Q' : Qt} {x0 : Value} {a : Nat} (hd : Dc d.2.1 pc n (.invokespecial idx) 3) (hw : IL d.1.cls idx d' 1) (callee : Mt G l d' (dep', ca', sa', ex') (.ref a :: [x0]) ly M Q') (hnone : d'.2.2.2 = none) (hdep : dep' + 1 ≤ dep) (hmx : (lg_sl (.ref a :: [x0])).length ≤ d'.2.2.1 ∧ d'.2.2.1 ≤ 40 ∧ (st.map fun v => v.category).sum ≤ 8) (hxx : ex' = true → ex = true) (hex : ex = true → ∀ v ly' M', Q' v ly' M' → ly'.length = ly.length + ca') 
    (k : ∀ v ly' M', Q' v ly' M' → Rn G l d (dep, ca, sa, ex) n lv (v.toList ++ st) ly' M' Q) : Rn G l d (dep, ca + ca', sa + sa', ex) pc lv (x0 :: .ref a :: st) ly M Q := by
  obtain ⟨hd, rfl⟩ := hd
  intro p e R s m args below meth c H locs cells slots ls Z hC hH hB hl hK
  have hM := callee.met hw.2.2.2.2.2.2 (by rw [sl_len]; exact hmx.1)
  refine W.size hC hH (fun hz => ?_)
  have hmd := hw.2.2.2
  have hR : (rmB (dep', ca', sa', ex')).frames + 1 ≤ R.frames ∧ 8 + (d'.2.2.1 + 11) + (rmB (dep', ca', sa', ex')).locals ≤ R.locals := ⟨Nat.le_trans hdep hB.1, by have := hB.2.1; have := hmx.2.1; show 8 + (d'.2.2.1 + 11) + 64 * dep' ≤ R.locals; dsimp only at *; omega⟩
  have cb := callB_of (R := R) (s := s) (args := args) (own := d.1.cls) (index := idx) (rm := rmB (dep', ca', sa', ex')) 1 hC.hts (code_in hmd) rfl rfl rfl (hC.hts _ hmd.2.1) (hC.hts _ hw.1) hmd.2.2.1 hR
  have hf : cells + ca' ≤ R.cells ∧ slots + sa' ≤ R.slots := by
    have := hB.2.2
    dsimp only at this
    omega
  have hr0 : d'.2.2.2 = none := hnone
  rw [hr0] at cb hM
  have hr := va_runI (b := G.1 + a) (e := e) (below := below) (meth := meth) (locs := locs) (cells := cells) (slots := slots) (g := F0 m pc ls ((x0 :: .ref a :: st).map (tv G))) (As := ([x0]).map (tv G)) (rest := st.map (tv G)) ⟨hC.hx, hC.hb, hC.hml, hC.hown, hC.hts⟩ hM ⟨cb, hw.2.2.1, hC.hts _ hw.2.1⟩ ⟨Pm.blind _ _ _ _ _, fun U hU hW => ⟨rfl, Pm.at (ex' := ex') hC hH hz (hxx) U hU hW⟩⟩ rfl rfl hl.1 rfl (lv_room (by rw [cat_map]; exact hmx.2.2)) hd hf
  exact W.back (b := (0, 0, 0, false)) (k1 := 0) (ca := ca) (sa := sa) (ca' := ca') (sa' := sa') hr hC hH hB hl hK (by exact hex) k
theorem Rn.callIn2 {d' : Md} {idx dep dep' ca sa ca' sa' : Nat} {ex ex' : Bool} {Q' : Qt} {x0 x1 : Value} {a : Nat} (hd : Dc d.2.1 pc n (.invokespecial idx) 3) (hw : IL d.1.cls idx d' 2) (callee : Mt G l d' (dep', ca', sa', ex') (.ref a :: [x0, x1]) ly M Q') (hnone : d'.2.2.2 = none) (hdep : dep' + 1 ≤ dep) (hmx : (lg_sl (.ref a :: [x0, x1])).length ≤ d'.2.2.1 ∧ d'.2.2.1 ≤ 40 ∧ (st.map fun v => v.category).sum ≤ 8) (hxx : ex' = true → ex = true) (hex : ex = true → ∀ v ly' M', Q' v ly' M' → ly'.length = ly.length + ca') 
    (k : ∀ v ly' M', Q' v ly' M' → Rn G l d (dep, ca, sa, ex) n lv (v.toList ++ st) ly' M' Q) : Rn G l d (dep, ca + ca', sa + sa', ex) pc lv (x1 :: x0 :: .ref a :: st) ly M Q := by
  obtain ⟨hd, rfl⟩ := hd
  intro p e R s m args below meth c H locs cells slots ls Z hC hH hB hl hK
  have hM := callee.met hw.2.2.2.2.2.2 (by rw [sl_len]; exact hmx.1)
  refine W.size hC hH (fun hz => ?_)
  have hmd := hw.2.2.2
  have hR : (rmB (dep', ca', sa', ex')).frames + 1 ≤ R.frames ∧ 8 + (d'.2.2.1 + 11) + (rmB (dep', ca', sa', ex')).locals ≤ R.locals := ⟨Nat.le_trans hdep hB.1, by have := hB.2.1; have := hmx.2.1; show 8 + (d'.2.2.1 + 11) + 64 * dep' ≤ R.locals; dsimp only at *; omega⟩
  have cb := callB_of (R := R) (s := s) (args := args) (own := d.1.cls) (index := idx) (rm := rmB (dep', ca', sa', ex')) 2 hC.hts (code_in hmd) rfl rfl rfl (hC.hts _ hmd.2.1) (hC.hts _ hw.1) hmd.2.2.1 hR
  have hf : cells + ca' ≤ R.cells ∧ slots + sa' ≤ R.slots := by
    have := hB.2.2
    dsimp only at this
    omega
  have hr0 : d'.2.2.2 = none := hnone
  rw [hr0] at cb hM
  have hr := va_runI (b := G.1 + a) (e := e) (below := below) (meth := meth) (locs := locs) (cells := cells) (slots := slots) (g := F0 m pc ls ((x1 :: x0 :: .ref a :: st).map (tv G))) (As := ([x0, x1]).map (tv G)) (rest := st.map (tv G)) ⟨hC.hx, hC.hb, hC.hml, hC.hown, hC.hts⟩ hM ⟨cb, hw.2.2.1, hC.hts _ hw.2.1⟩ ⟨Pm.blind _ _ _ _ _, fun U hU hW => ⟨rfl, Pm.at (ex' := ex') hC hH hz (hxx) U hU hW⟩⟩ rfl rfl hl.1 rfl (lv_room (by rw [cat_map]; exact hmx.2.2)) hd hf
  exact W.back (b := (0, 0, 0, false)) (k1 := 0) (ca := ca) (sa := sa) (ca' := ca') (sa' := sa') hr hC hH hB hl hK (by exact hex) k
theorem Rn.callVn1 {d' : Md} {idx dep dep' ca sa ca' sa' : Nat} {ex ex' : Bool} {Q' : Qt} {x0 : Value} {a : Nat} {ci : Nat} (hd : Dc d.2.1 pc n (.invokevirtual idx) 3) (hw : VL d.1.cls idx d' 1) (ho : ly[a]? = some (.inr ci)) (hci : ci < 13) (hcc : RXf ci = d'.1.cls) (callee : Mt G l d' (dep', ca', sa', ex') (.ref a :: [x0]) ly M Q') (hdep : dep' + 1 ≤ dep) (hmx : (lg_sl (.ref a :: [x0])).length ≤ d'.2.2.1 ∧ d'.2.2.1 ≤ 40 ∧ (st.map fun v => v.category).sum ≤ 8) (hxx : ex' = true → ex = true) (hex : ex = true → ∀ v ly' M', Q' v ly' M' → ly'.length = ly.length + ca') 
    (k : ∀ v ly' M', Q' v ly' M' → Rn G l d (dep, ca, sa, ex) n lv (v.toList ++ st) ly' M' Q) : Rn G l d (dep, ca + ca', sa + sa', ex) pc lv (x0 :: .ref a :: st) ly M Q := by
  obtain ⟨hd, rfl⟩ := hd
  intro p e R s m args below meth c H locs cells slots ls Z hC hH hB hl hK
  have hM := callee.met hw.2.2.2.2.2.2 (by rw [sl_len]; exact hmx.1)
  refine W.size hC hH (fun hz => ?_)
  have hmd := hw.2.2.2
  have hR : (rmB (dep', ca', sa', ex')).frames + 1 ≤ R.frames ∧ 8 + (d'.2.2.1 + 11) + (rmB (dep', ca', sa', ex')).locals ≤ R.locals := ⟨Nat.le_trans hdep hB.1, by have := hB.2.1; have := hmx.2.1; show 8 + (d'.2.2.1 + 11) + 64 * dep' ≤ R.locals; dsimp only at *; omega⟩
  have cb := callB_of (R := R) (s := s) (args := args) (own := d.1.cls) (index := idx) (rm := rmB (dep', ca', sa', ex')) 1 hC.hts (code_in hmd) rfl rfl rfl (hC.hts _ hmd.2.1) (hC.hts _ hw.1) hmd.2.2.1 hR
  have hf : cells + ca' ≤ R.cells ∧ slots + sa' ≤ R.slots := by
    have := hB.2.2
    dsimp only at this
    omega
  obtain ⟨q1, -⟩ := clq_all ci hci
  have hr := va_runV (C := d'.1.cls) (b := G.1 + a) (e := e) (below := below) (meth := meth) (locs := locs) (cells := cells) (slots := slots) (g := F0 m pc ls ((x0 :: .ref a :: st).map (tv G))) (As := ([x0]).map (tv G)) (rest := st.map (tv G)) ⟨hC.hx, hC.hb, hC.hml, hC.hown, hC.hts⟩ hM ⟨cb, hC.hts _ hw.2.1, hC.hts _ hw.2.2.1⟩ ⟨Pm.blind _ _ _ _ _, hcc ▸ va_recv hC.hK hH.1 (ci := ci) (q0 := a) q1 (wG_get ho), fun U hU hW => ⟨rfl, Pm.at (ex' := ex') hC hH hz (hxx) U hU hW⟩⟩ rfl rfl hl.1 rfl (lv_room (by rw [cat_map]; exact hmx.2.2)) hd hf
  exact W.back (b := (0, 0, 0, false)) (k1 := 0) (ca := ca) (sa := sa) (ca' := ca') (sa' := sa') hr hC hH hB hl hK (by exact hex) k
theorem Rn.callVn0 {d' : Md} {idx dep dep' ca sa ca' sa' : Nat} {ex ex' : Bool} {Q' : Qt} {a : Nat} {ci : Nat} (hd : Dc d.2.1 pc n (.invokevirtual idx) 3) (hw : VL d.1.cls idx d' 0) (ho : ly[a]? = some (.inr ci)) (hci : ci < 13) (hcc : RXf ci = d'.1.cls) (callee : Mt G l d' (dep', ca', sa', ex') (.ref a :: []) ly M Q') (hdep : dep' + 1 ≤ dep) (hmx : (lg_sl (.ref a :: [])).length ≤ d'.2.2.1 ∧ d'.2.2.1 ≤ 40 ∧ (st.map fun v => v.category).sum ≤ 8) (hxx : ex' = true → ex = true) (hex : ex = true → ∀ v ly' M', Q' v ly' M' → ly'.length = ly.length + ca') 
    (k : ∀ v ly' M', Q' v ly' M' → Rn G l d (dep, ca, sa, ex) n lv (v.toList ++ st) ly' M' Q) : Rn G l d (dep, ca + ca', sa + sa', ex) pc lv (.ref a :: st) ly M Q := by
  obtain ⟨hd, rfl⟩ := hd
  intro p e R s m args below meth c H locs cells slots ls Z hC hH hB hl hK
  have hM := callee.met hw.2.2.2.2.2.2 (by rw [sl_len]; exact hmx.1)
  refine W.size hC hH (fun hz => ?_)
  have hmd := hw.2.2.2
  have hR : (rmB (dep', ca', sa', ex')).frames + 1 ≤ R.frames ∧ 8 + (d'.2.2.1 + 11) + (rmB (dep', ca', sa', ex')).locals ≤ R.locals := ⟨Nat.le_trans hdep hB.1, by have := hB.2.1; have := hmx.2.1; show 8 + (d'.2.2.1 + 11) + 64 * dep' ≤ R.locals; dsimp only at *; omega⟩
  have cb := callB_of (R := R) (s := s) (args := args) (own := d.1.cls) (index := idx) (rm := rmB (dep', ca', sa', ex')) 0 hC.hts (code_in hmd) rfl rfl rfl (hC.hts _ hmd.2.1) (hC.hts _ hw.1) hmd.2.2.1 hR
  have hf : cells + ca' ≤ R.cells ∧ slots + sa' ≤ R.slots := by
    have := hB.2.2
    dsimp only at this
    omega
  obtain ⟨q1, -⟩ := clq_all ci hci
  have hr := va_runV (C := d'.1.cls) (b := G.1 + a) (e := e) (below := below) (meth := meth) (locs := locs) (cells := cells) (slots := slots) (g := F0 m pc ls ((.ref a :: st).map (tv G))) (As := ([]).map (tv G)) (rest := st.map (tv G)) ⟨hC.hx, hC.hb, hC.hml, hC.hown, hC.hts⟩ hM ⟨cb, hC.hts _ hw.2.1, hC.hts _ hw.2.2.1⟩ ⟨Pm.blind _ _ _ _ _, hcc ▸ va_recv hC.hK hH.1 (ci := ci) (q0 := a) q1 (wG_get ho), fun U hU hW => ⟨rfl, Pm.at (ex' := ex') hC hH hz (hxx) U hU hW⟩⟩ rfl rfl hl.1 rfl (lv_room (by rw [cat_map]; exact hmx.2.2)) hd hf
  exact W.back (b := (0, 0, 0, false)) (k1 := 0) (ca := ca) (sa := sa) (ca' := ca') (sa' := sa') hr hC hH hB hl hK (by exact hex) k
end RNC
