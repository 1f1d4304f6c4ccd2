abbrev Xt : Type := Program → Env → Room → State → MethodId → Array Value → List Frame → Method → Code → (State → Prop) → Prop
/-- as Rn, but over any continuation -/
def Rg (G : Gx) (l : Launch) (d : Md) (b : Bq) (pc : Nat) (lv : List (Option Value)) (st : List Value) (ly : Ly) (M : Mm) (Q : Xt) : Prop :=
  ∀ (p : Program) (e : Env) (R : Room) (s : State) (m : MethodId) (args : Array Value) (below : List Frame) (meth : Method) (c : Code) (H : Heap) (locs : List Loc) (cells slots : Nat) (ls : Array Slot) (Z : State → Prop),
    Cx G d p s m args meth c → Hp G ly M s H locs cells b.2.2.2 → (b.1 ≤ R.frames ∧ 64 * b.1 ≤ R.locals ∧ cells + b.2.1 ≤ R.cells ∧ slots + b.2.2.1 ≤ R.slots) → lv_has ls d.2.2.1 (lvG G 0 lv) → Q p e R s m args below meth c Z →
    W p l e R s m args below meth c H locs cells slots Z (F0 m pc ls (st.map (tv G)))
section RGN
variable {G : Gx} {l : Launch} {d : Md} {b : Bq} {pc n : Nat} {lv : List (Option Value)} {st : List Value} {ly : Ly} {M : Mm} {Q : Xt}
theorem Rg.dup {v : Value} (hd : Dc d.2.1 pc n (.dup) 1) (hc : v.category = 1) (k : Rg G l d b n lv (v :: v :: st) ly M Q) : Rg G l d b pc lv (v :: st) ly M Q := by
  obtain ⟨hd, rfl⟩ := hd
  intro p e R s m args below meth c H locs cells slots ls Z hC hH hB hl hK
  exact lv_dup hC.hx hC.hb hd ((tv_cat G v).trans hc) (k p e R s m args below meth c H locs cells slots ls Z hC hH hB hl hK)
theorem Rg.astore_n {k0 : Fin 4} {x : Nat} {lv' : List (Option Value)} (hd : Dc d.2.1 pc n (.astore_n k0) 1) (hn : (k0 : Nat) < d.2.2.1) (hs : st1 lv k0 (.ref x) = lv') (k : Rg G l d b n lv' st ly M Q) : Rg G l d b pc lv (.ref x :: st) ly M Q := by
  obtain ⟨hd, rfl⟩ := hd
  subst hs
  intro p e R s m args below meth c H locs cells slots ls Z hC hH hB hl hK
  exact lv_astore_n hC.hx hC.hb hd rfl hl hn rfl (fun ls hl => k p e R s m args below meth c H locs cells slots ls Z hC hH hB (lv_less hl lvG_st1) hK)
theorem Rg.iconstv {i : Int} {v : Int32} (hd : Dc d.2.1 pc n (.iconst i) 1) (hv : Int32.ofInt i = v) (k : Rg G l d b n lv (.int v :: st) ly M Q) : Rg G l d b pc lv (st) ly M Q := by
  obtain ⟨hd, rfl⟩ := hd
  intro p e R s m args below meth c H locs cells slots ls Z hC hH hB hl hK
  exact lv_iconst hC.hx hC.hb hd hv (k p e R s m args below meth c H locs cells slots ls Z hC hH hB hl hK)
theorem Rg.istore {i : Nat} {x : Int32} {lv' : List (Option Value)} (hd : Dc d.2.1 pc n (.istore i) 2) (hn : i < d.2.2.1) (hs : st1 lv i (.int x) = lv') (k : Rg G l d b n lv' st ly M Q) : Rg G l d b pc lv (.int x :: st) ly M Q := by
  obtain ⟨hd, rfl⟩ := hd
  subst hs
  intro p e R s m args below meth c H locs cells slots ls Z hC hH hB hl hK
  exact lv_istore hC.hx hC.hb hd hl hn rfl (fun ls hl => k p e R s m args below meth c H locs cells slots ls Z hC hH hB (lv_less hl lvG_st1) hK)
theorem Rg.aload_n {k0 : Fin 4} {x : Nat} (hd : Dc d.2.1 pc n (.aload_n k0) 1) (hv : lv[(k0 : Nat)]? = some (some (.ref x))) (k : Rg G l d b n lv (.ref x :: st) ly M Q) : Rg G l d b pc lv st ly M Q := by
  obtain ⟨hd, rfl⟩ := hd
  intro p e R s m args below meth c H locs cells slots ls Z hC hH hB hl hK
  exact lv_aload_n hC.hx hC.hb hd rfl (lv_get hl hv) (k p e R s m args below meth c H locs cells slots ls Z hC hH hB hl hK)
theorem Rg.iload_n {k0 : Fin 4} {x : Int32} (hd : Dc d.2.1 pc n (.iload_n k0) 1) (hv : lv[(k0 : Nat)]? = some (some (.int x))) (k : Rg G l d b n lv (.int x :: st) ly M Q) : Rg G l d b pc lv st ly M Q := by
  obtain ⟨hd, rfl⟩ := hd
  intro p e R s m args below meth c H locs cells slots ls Z hC hH hB hl hK
  exact lv_iload_n hC.hx hC.hb hd rfl (lv_get hl hv) (k p e R s m args below meth c H locs cells slots ls Z hC hH hB hl hK)
theorem Rg.if_ne {x : Int32} {t : Nat} {off : Int} (hd : Dj d.2.1 pc n t (.ifCond .ne off) off) (k1 : ¬ x = 0 → Rg G l d b t lv st ly M Q) (k2 : x = 0 → Rg G l d b n lv st ly M Q) : Rg G l d b pc lv (.int x :: st) ly M Q := by
  obtain ⟨hd, rfl, ht⟩ := hd
  intro p e R s m args below meth c H locs cells slots ls Z hC hH hB hl hK
  exact lv_if_ne hC.hx hC.hb hd ht (fun h => k1 h p e R s m args below meth c H locs cells slots ls Z hC hH hB hl hK) (fun h => k2 h p e R s m args below meth c H locs cells slots ls Z hC hH hB hl hK)
theorem Rg.tableOut {b : Bq} {dflt lo hi : Int} {offs : Array Int} {len tgt : Nat} {x : Int32} (hd : decode d.2.1 pc = .ok (.tableswitch dflt lo hi offs, len)) (h : x.toInt < lo ∨ hi < x.toInt) (ht : (pc : Int) + dflt = (tgt : Int)) (k : Rg G l d b tgt lv st ly M Q) : Rg G l d b pc lv (.int x :: st) ly M Q := by
  intro p e R s m args below meth c H locs cells slots ls Z hC hH hB hl hK
  exact lv_tableOut hC.hx hC.hb hd h ht (k p e R s m args below meth c H locs cells slots ls Z hC hH hB hl hK)
theorem W.backg {b : Bq} {k1 : Nat} {dep ca sa ca' sa' : Nat} {ex : Bool} {p : Program} {e : Env} {R : Room} {s : State} {m : MethodId} {args : Array Value} {below : List Frame} {meth : Method} {c : Code} {H : Heap} {locs : List Loc} {cells slots : Nat} {ls : Array Slot} {Z : State → Prop} {st0 : List Value} {a : Array Value} {Q' : Qt}
    (hr : va_Run p l e R s m args below meth c H locs cells slots ca' sa' (F0 m pc ls st0) (st.map (tv G)) (Qm G Q' a) (GA G))
    (hC : Cx G d p s m args meth c) (hH : Hp G ly M s H locs cells ex) (hB : dep ≤ R.frames ∧ 64 * dep ≤ R.locals ∧ cells + (ca + ca') ≤ R.cells ∧ slots + (sa + sa') ≤ R.slots) (hl : lv_has ls d.2.2.1 (lvG G 0 lv)) (hK : Q p e R s m args below meth c Z)
    (hex : ex = true → ∀ v ly' M', Q' v ly' M' → ly'.length = ly.length + ca')
    (k : ∀ v ly' M', Q' v ly' M' → Rg G l d (dep, ca, sa, ex) (pc + 3) lv (v.toList ++ st) ly' M' Q) : W p l e R s m args below meth c H locs cells slots Z (F0 m pc ls st0) := by
  intro T hT X
  obtain ⟨v, st₀, t, T', L, h0, X', hL, e1, e2, ⟨⟨v', ly', M', hv, hq, hP'⟩, hz1, hk1⟩, goes⟩ := hr T hT X
  have hv : v = v'.map (tv G) := by cases hv; rfl
  subst hv
  rw [h0] at hz1 hk1
  obtain ⟨t2, a1, b1⟩ := k v' ly' M' hq p e R s m args below meth c T'.heap (locs ++ L) (cells + ca') (slots + sa') ls Z hC
    ⟨by rw [e1]; exact hP', ⟨Nat.le_trans hH.2.1.1 (by rw [e1]; exact hz1), fun q h1 h2 => by rw [e1, hk1 q (Nat.lt_of_lt_of_le h1 hH.2.1.1) h2]; exact hH.2.1.2.1 q h1 h2, fun q hq => (List.mem_append.mp hq).elim (hH.2.1.2.2 q) (hL q)⟩, fun hx => by rw [hex hx v' ly' M' hq]; have := hH.2.2 hx; omega⟩
    ⟨hB.1, hB.2.1, by have := hB.2.2.1; dsimp only; omega, by have := hB.2.2.2; dsimp only; omega⟩ hl hK T' rfl X'
  refine ⟨t2, goes t2 ?_, b1⟩
  rw [show (v'.toList ++ st).map (tv G) = (v'.map (tv G)).toList ++ st.map (tv G) by cases v' <;> simp] at a1
  exact a1
theorem Rg.new {idx ci dep ca sa : Nat} (hd : Dc d.2.1 pc n (.new idx) 3) (hw : NW d.1.cls idx ci) (k : Rg G l d (dep, ca, sa, true) n lv (.ref ly.length :: st) (ly ++ [.inr ci]) (nw M ly.length) Q) : Rg G l d (dep, ca + 1, sa + NXf ci, true) pc lv st ly M Q := by
  obtain ⟨hd, rfl⟩ := hd
  obtain ⟨hci, h1, h2, h3⟩ := hw
  obtain ⟨q1, q2, q3, q4, q5⟩ := clq_all ci hci
  intro p e R s m args below meth c H locs cells slots ls Z hC hH hB hl hK
  refine W.size hC hH (fun hz => ?_)
  have hz := hz rfl
  have hKn := hC.hK.1 ci _ q1
  have hb1 := hB.2.2.1
  have hb2 := hB.2.2.2
  dsimp only at hb1 hb2
  refine W.newcK hC.hx hC.hb hC.hown (hC.hts _ h1) (hC.hts _ h2) (hC.hts _ h3) (g := F0 m pc ls (st.map (tv G))) rfl hd (by omega) (by omega) hKn.2.1 hz fun H1 kC hkC e1 z1 o1 => ?_
  refine k p e R s m args below meth c H1 locs (cells + 1) (slots + NXf ci) ls Z hC ⟨?_, ?_, fun _ => ?_⟩ ⟨hB.1, hB.2.1, by dsimp only; omega, by dsimp only; omega⟩ hl hK
  · rw [wG_app (nw_al M ly.length)]
    refine (hH.1.kept (fun k x hx => o1 x.1 (by rw [← hz]; exact (hH.1 k x hx).lt))).app (fun k x hx => ?_)
    have hk0 : k = 0 := by have := (List.getElem?_eq_some_iff.mp hx).1; simp at this; omega
    subst hk0
    cases hx
    rw [nwE]
    exact ⟨_, q1, (u_born (tyXf ci) hC.hts q2 hKn hkC e1 q3).to (okD_all ci hci)⟩
  · exact ⟨by have := hH.2.1.1; omega, fun q h1 h2 => (o1 q (by have := hH.2.1.1; omega)).trans (hH.2.1.2.1 q h1 h2), hH.2.1.2.2⟩
  · have := hH.2.2 rfl
    simp only [List.length_append, List.length_cons, List.length_nil]
    omega
theorem Rg.newaJ {dep ca sa N : Nat} {x : Int32} (hd : Dc d.2.1 pc n (.newarray .long) 2) (hw : Cond.arrayClass .long ∈ TB) (hN : x = nI N) (hlt : N ≤ 60000) (k : Rg G l d (dep, ca, sa, true) n lv (.ref ly.length :: st) (ly ++ [.inl (3, N)]) (nw M ly.length) Q) : Rg G l d (dep, ca + 1, sa + N, true) pc lv (.int x :: st) ly M Q := by
  obtain ⟨hd, rfl⟩ := hd
  subst hN
  intro p e R s m args below meth c H locs cells slots ls Z hC hH hB hl hK
  refine W.size hC hH (fun hz => ?_)
  have hz := hz rfl
  have hb1 := hB.2.2.1
  have hb2 := hB.2.2.2
  dsimp only at hb1 hb2
  refine va_newaK (R := R) (cells := cells) (slots := slots) hC.hx hC.hb (N := N) (atype := .long) (hC.hts _ hw) (g := F0 m pc ls ((.int (nI N) :: st).map (tv G))) rfl hd rfl (nI_pos (by omega)) (nI_clamp (by omega)) (by show N * _ ≤ _; simp only [newarray.typeOf, componentBytes]; omega) (by omega) (by omega) hz fun H1 cA e1 z1 o1 hAr hNm => ?_
  have hcA : cA = G.2.2.1 3 := by
    have h := (hC.hK.2 3 _ rfl).2
    exact Option.some.inj (hNm.symm.trans h)
  subst hcA
  refine k p e R s m args below meth c H1 locs (cells + 1) (slots + N) ls Z hC ⟨?_, ?_, fun _ => ?_⟩ ⟨hB.1, hB.2.1, by dsimp only; omega, by dsimp only; omega⟩ hl hK
  · rw [wG_app (nw_al M ly.length)]
    refine (hH.1.kept (fun k x hx => o1 x.1 (by rw [← hz]; exact (hH.1 k x hx).lt))).app (fun k x hx => ?_)
    have hk0 : k = 0 := by have := (List.getElem?_eq_some_iff.mp hx).1; simp at this; omega
    subst hk0
    cases hx
    show H1[G.1 + ly.length]? = some (vp_cell _ _)
    rw [e1]
    simp [aE, nw, sI, sL, sR, vp_cell, newarray.typeOf, defaultValue]
  · exact ⟨by have := hH.2.1.1; omega, fun q h1 h2 => (o1 q (by have := hH.2.1.1; omega)).trans (hH.2.1.2.1 q h1 h2), hH.2.1.2.2⟩
  · have := hH.2.2 rfl
    simp only [List.length_append, List.length_cons, List.length_nil]
    omega
theorem Rg.callIn0 {d' : Md} {idx dep dep' ca sa ca' sa' : Nat} {ex ex' : Bool} {Q' : Qt} {a : Nat} (hd : Dc d.2.1 pc n (.invokespecial idx) 3) (hw : IL d.1.cls idx d' 0) (callee : Mt G l d' (dep', ca', sa', ex') (.ref a :: []) ly M Q') (hnone : d'.2.2.2 = none) (hdep : dep' + 1 ≤ dep) (hmx : (lg_sl (.ref a :: [])).length ≤ d'.2.2.1 ∧ d'.2.2.1 ≤ 40 ∧ (st.map fun v => v.category).sum ≤ 8) (hxx : ex' = true → ex = true) (hex : ex = true → ∀ v ly' M', Q' v ly' M' → ly'.length = ly.length + ca') 
    (k : ∀ v ly' M', Q' v ly' M' → Rg G l d (dep, ca, sa, ex) n lv (v.toList ++ st) ly' M' Q) : Rg G l d (dep, ca + ca', sa + sa', ex) pc lv (.ref a :: st) ly M Q := by
  obtain ⟨hd, rfl⟩ := hd
  intro p e R s m args below meth c H locs cells slots ls Z hC hH hB hl hK
  have hM := callee.met hw.2.2.2.2.2.2 (by rw [sl_len]; exact hmx.1)
  refine W.size hC hH (fun hz => ?_)
  have hmd := hw.2.2.2
  have hR : (rmB (dep', ca', sa', ex')).frames + 1 ≤ R.frames ∧ 8 + (d'.2.2.1 + 11) + (rmB (dep', ca', sa', ex')).locals ≤ R.locals := ⟨Nat.le_trans hdep hB.1, by have := hB.2.1; have := hmx.2.1; show 8 + (d'.2.2.1 + 11) + 64 * dep' ≤ R.locals; dsimp only at *; omega⟩
  have cb := callB_of (R := R) (s := s) (args := args) (own := d.1.cls) (index := idx) (rm := rmB (dep', ca', sa', ex')) 0 hC.hts (code_in hmd) rfl rfl rfl (hC.hts _ hmd.2.1) (hC.hts _ hw.1) hmd.2.2.1 hR
  have hf : cells + ca' ≤ R.cells ∧ slots + sa' ≤ R.slots := by
    have := hB.2.2
    dsimp only at this
    omega
  have hr0 : d'.2.2.2 = none := hnone
  rw [hr0] at cb hM
  have hr := va_runI (b := G.1 + a) (e := e) (below := below) (meth := meth) (locs := locs) (cells := cells) (slots := slots) (g := F0 m pc ls ((.ref a :: st).map (tv G))) (As := ([]).map (tv G)) (rest := st.map (tv G)) ⟨hC.hx, hC.hb, hC.hml, hC.hown, hC.hts⟩ hM ⟨cb, hw.2.2.1, hC.hts _ hw.2.1⟩ ⟨Pm.blind _ _ _ _ _, fun U hU hW => ⟨rfl, Pm.at (ex' := ex') hC hH hz (hxx) U hU hW⟩⟩ rfl rfl hl.1 rfl (lv_room (by rw [cat_map]; exact hmx.2.2)) hd hf
  exact W.backg (b := (0, 0, 0, false)) (k1 := 0) (ca := ca) (sa := sa) (ca' := ca') (sa' := sa') hr hC hH hB hl hK (by exact hex) k
theorem Rg.callV1 {d' : Md} {idx dep dep' ca sa : Nat} {ex : Bool} {Q' : Qt} {x0 : Value} {a : Nat} {ci : Nat} (hd : Dc d.2.1 pc n (.invokevirtual idx) 3) (hw : VL d.1.cls idx d' 1) (ho : ly[a]? = some (.inr ci)) (hci : ci < 13) (hcc : RXf ci = d'.1.cls) (callee : Mt G l d' (dep', 0, 0, false) (.ref a :: [x0]) ly M Q') (hdep : dep' + 1 ≤ dep) (hmx : (lg_sl (.ref a :: [x0])).length ≤ d'.2.2.1 ∧ d'.2.2.1 ≤ 40 ∧ (st.map fun v => v.category).sum ≤ 8) (hex : ex = true → ∀ v ly' M', Q' v ly' M' → ly'.length = ly.length) 
    (k : ∀ v ly' M', Q' v ly' M' → Rg G l d (dep, ca, sa, ex) n lv (v.toList ++ st) ly' M' Q) : Rg G l d (dep, ca, sa, ex) pc lv (x0 :: .ref a :: st) ly M Q := by
  obtain ⟨hd, rfl⟩ := hd
  intro p e R s m args below meth c H locs cells slots ls Z hC hH hB hl hK
  have hM := callee.met hw.2.2.2.2.2.2 (by rw [sl_len]; exact hmx.1)
  refine W.size hC hH (fun hz => ?_)
  have hmd := hw.2.2.2
  have hR : (rmB (dep', 0, 0, false)).frames + 1 ≤ R.frames ∧ 8 + (d'.2.2.1 + 11) + (rmB (dep', 0, 0, false)).locals ≤ R.locals := ⟨Nat.le_trans hdep hB.1, by have := hB.2.1; have := hmx.2.1; show 8 + (d'.2.2.1 + 11) + 64 * dep' ≤ R.locals; dsimp only at *; omega⟩
  have cb := callB_of (R := R) (s := s) (args := args) (own := d.1.cls) (index := idx) (rm := rmB (dep', 0, 0, false)) 1 hC.hts (code_in hmd) rfl rfl rfl (hC.hts _ hmd.2.1) (hC.hts _ hw.1) hmd.2.2.1 hR
  have hf : cells + 0 ≤ R.cells ∧ slots + 0 ≤ R.slots := by
    have := hB.2.2
    dsimp only at this
    omega
  obtain ⟨q1, -⟩ := clq_all ci hci
  have hr := va_runV (C := d'.1.cls) (b := G.1 + a) (e := e) (below := below) (meth := meth) (locs := locs) (cells := cells) (slots := slots) (g := F0 m pc ls ((x0 :: .ref a :: st).map (tv G))) (As := ([x0]).map (tv G)) (rest := st.map (tv G)) ⟨hC.hx, hC.hb, hC.hml, hC.hown, hC.hts⟩ hM ⟨cb, hC.hts _ hw.2.1, hC.hts _ hw.2.2.1⟩ ⟨Pm.blind _ _ _ _ _, hcc ▸ va_recv hC.hK hH.1 (ci := ci) (q0 := a) q1 (wG_get ho), fun U hU hW => ⟨rfl, Pm.at (ex' := false) hC hH hz (fun h => by cases h) U hU hW⟩⟩ rfl rfl hl.1 rfl (lv_room (by rw [cat_map]; exact hmx.2.2)) hd hf
  exact W.backg (b := (0, 0, 0, false)) (k1 := 0) (ca := ca) (sa := sa) (ca' := 0) (sa' := 0) hr hC hH hB hl hK (by intro q; exact hex q) k
theorem Rg.callV2 {d' : Md} {idx dep dep' ca sa : Nat} {ex : Bool} {Q' : Qt} {x0 x1 : Value} {a : Nat} {ci : Nat} (hd : Dc d.2.1 pc n (.invokevirtual idx) 3) (hw : VL d.1.cls idx d' 2) (ho : ly[a]? = some (.inr ci)) (hci : ci < 13) (hcc : RXf ci = d'.1.cls) (callee : Mt G l d' (dep', 0, 0, false) (.ref a :: [x0, x1]) ly M Q') (hdep : dep' + 1 ≤ dep) (hmx : (lg_sl (.ref a :: [x0, x1])).length ≤ d'.2.2.1 ∧ d'.2.2.1 ≤ 40 ∧ (st.map fun v => v.category).sum ≤ 8) (hex : ex = true → ∀ v ly' M', Q' v ly' M' → ly'.length = ly.length) 
    (k : ∀ v ly' M', Q' v ly' M' → Rg G l d (dep, ca, sa, ex) n lv (v.toList ++ st) ly' M' Q) : Rg G l d (dep, ca, sa, ex) pc lv (x1 :: x0 :: .ref a :: st) ly M Q := by
  obtain ⟨hd, rfl⟩ := hd
  intro p e R s m args below meth c H locs cells slots ls Z hC hH hB hl hK
  have hM := callee.met hw.2.2.2.2.2.2 (by rw [sl_len]; exact hmx.1)
  refine W.size hC hH (fun hz => ?_)
  have hmd := hw.2.2.2
  have hR : (rmB (dep', 0, 0, false)).frames + 1 ≤ R.frames ∧ 8 + (d'.2.2.1 + 11) + (rmB (dep', 0, 0, false)).locals ≤ R.locals := ⟨Nat.le_trans hdep hB.1, by have := hB.2.1; have := hmx.2.1; show 8 + (d'.2.2.1 + 11) + 64 * dep' ≤ R.locals; dsimp only at *; omega⟩
  have cb := callB_of (R := R) (s := s) (args := args) (own := d.1.cls) (index := idx) (rm := rmB (dep', 0, 0, false)) 2 hC.hts (code_in hmd) rfl rfl rfl (hC.hts _ hmd.2.1) (hC.hts _ hw.1) hmd.2.2.1 hR
  have hf : cells + 0 ≤ R.cells ∧ slots + 0 ≤ R.slots := by
    have := hB.2.2
    dsimp only at this
    omega
  obtain ⟨q1, -⟩ := clq_all ci hci
  have hr := va_runV (C := d'.1.cls) (b := G.1 + a) (e := e) (below := below) (meth := meth) (locs := locs) (cells := cells) (slots := slots) (g := F0 m pc ls ((x1 :: x0 :: .ref a :: st).map (tv G))) (As := ([x0, x1]).map (tv G)) (rest := st.map (tv G)) ⟨hC.hx, hC.hb, hC.hml, hC.hown, hC.hts⟩ hM ⟨cb, hC.hts _ hw.2.1, hC.hts _ hw.2.2.1⟩ ⟨Pm.blind _ _ _ _ _, hcc ▸ va_recv hC.hK hH.1 (ci := ci) (q0 := a) q1 (wG_get ho), fun U hU hW => ⟨rfl, Pm.at (ex' := false) hC hH hz (fun h => by cases h) U hU hW⟩⟩ rfl rfl hl.1 rfl (lv_room (by rw [cat_map]; exact hmx.2.2)) hd hf
  exact W.backg (b := (0, 0, 0, false)) (k1 := 0) (ca := ca) (sa := sa) (ca' := 0) (sa' := 0) hr hC hH hB hl hK (by intro q; exact hex q) k
end RGN
/-- from exact to loose: what follows may leave cells behind -/
theorem Rn.loose {G : Gx} {l : Launch} {d : Md} {dep ca sa pc : Nat} {lv : List (Option Value)} {st : List Value} {ly : Ly} {M : Mm} {Q : Qt} (h : Rn G l d (dep, ca, sa, false) pc lv st ly M Q) : Rg G l d (dep, ca, sa, true) pc lv st ly M (fun p e R s m args below meth c Z => Kr G d Q false p l e R s m args below meth c Z) := by
  intro p e R s m args below meth c H locs cells slots ls Z hC hH hB hl hK
  exact h p e R s m args below meth c H locs cells slots ls Z hC ⟨hH.1, hH.2.1, fun h => by cases h⟩ hB hl hK
