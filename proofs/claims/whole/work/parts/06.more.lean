
def NL (own : String) (idx : Nat) (d : Md) (na : Nat) (host : String) (w : Cond) : Prop := Cond.methodLinkNest own idx d.1 host ∈ lw_tbl ∧ w ∈ TB ∧ MD d na
def NW (own : String) (idx ci : Nat) : Prop := ci < 13 ∧ Cond.classLink own idx (RXf ci) ∈ TB ∧ Cond.instantiable (RXf ci) (NXf ci) ∈ TB ∧ Cond.initialized (RXf ci) ∈ TB
theorem Cx.nest {G : Gx} {d : Md} {p : Program} {s : State} {m : MethodId} {args : Array Value} {meth : Method} {c : Code} {own : String} {idx : Nat} {y : MethodName} {host : String} (h : Cx G d p s m args meth c) (hw : Cond.methodLinkNest own idx y host ∈ lw_tbl) : va_Nw (.methodLinkNest own idx y host) s := by
  obtain ⟨s0, h0, hW, -⟩ := h.hsp
  exact va_Nw.warmM hW (va_Nw.of rfl (h0.2.2.1 _ hw))
section RNM
variable {G : Gx} {l : Launch} {d : Md} {pc n : Nat} {lv : List (Option Value)} {st : List Value} {ly : Ly} {M : Mm} {Q : Qt}

theorem Rn.callSN2 {d' : Md} {host : String} {idx dep dep' ca sa : Nat} {ex : Bool} {Q' : Qt} {x0 x1 : Value} (hd : Dc d.2.1 pc n (.invokestatic idx) 3) (hw : NL d.1.cls idx d' 2 host (Cond.static d'.1)) (callee : Mt G l d' (dep', 0, 0, false) ([x0, x1]) ly M Q') (hdep : dep' + 1 ≤ dep) (hmx : (lg_sl ([x0, x1])).length ≤ d'.2.2.1 ∧ d'.2.2.1 ≤ 40 ∧ (st.map fun v => v.category).sum ≤ 8) (hex : ex = true → ∀ v ly' M', Q' v ly' M' → ly'.length = ly.length) 
    (k : ∀ v ly' M', Q' v ly' M' → Rn G l d (dep, ca, sa, ex) n lv (v.toList ++ st) ly' M' Q) : Rn G l d (dep, ca, sa, ex) pc lv (x1 :: x0 :: st) ly M Q := by
  obtain ⟨hd, rfl⟩ := hd
  intro p e R s m args below meth c H locs cells slots ls Z hC hH hB hl hK
  have hM := callee.met hw.2.2.2.2.2 (by rw [sl_len]; exact hmx.1)
  refine W.size hC hH (fun hz => ?_)
  have hmd := hw.2.2
  have hR : (rmB (dep', 0, 0, false)).frames + 1 ≤ R.frames ∧ 8 + (d'.2.2.1 + 11) + (rmB (dep', 0, 0, false)).locals ≤ R.locals := ⟨Nat.le_trans hdep hB.1, by have := hB.2.1; have := hmx.2.1; show 8 + (d'.2.2.1 + 11) + 64 * dep' ≤ R.locals; dsimp only at *; omega⟩
  have cb := va_cnB (R := R) (s := s) (args := args) (own := d.1.cls) (index := idx) (rm := rmB (dep', 0, 0, false)) 2 hC.hts (code_in hmd) rfl rfl rfl (hC.nest hw.1) (hC.hts _ hmd.2.1) hmd.2.2.1 hR
  have hf : cells + 0 ≤ R.cells ∧ slots + 0 ≤ R.slots := by
    have := hB.2.2
    dsimp only at this
    omega
  have hr := va_runSN (e := e) (below := below) (meth := meth) (locs := locs) (cells := cells) (slots := slots) (g := F0 m pc ls ((x1 :: x0 :: st).map (tv G))) (As := ([x0, x1]).map (tv G)) (rest := st.map (tv G)) ⟨hC.hx, hC.hb, hC.hml, hC.hown, hC.hts⟩ hM ⟨cb, hC.hts _ hw.2.1, trivial⟩ ⟨Pm.blind _ _ _ _ _, fun U hU hW => ⟨rfl, Pm.at (ex' := false) hC hH hz (fun h => by cases h) U hU hW⟩⟩ rfl rfl hl.1 rfl (lv_room (by rw [cat_map]; exact hmx.2.2)) hd hf
  exact W.back (b := (0, 0, 0, false)) (k1 := 0) (ca := ca) (sa := sa) (ca' := 0) (sa' := 0) hr hC hH hB hl hK (by intro q; exact hex q) k
theorem Rn.callIN0 {d' : Md} {host : String} {idx dep dep' ca sa ca' sa' : Nat} {ex ex' : Bool} {Q' : Qt} {a : Nat} (hd : Dc d.2.1 pc n (.invokespecial idx) 3) (hw : NL d.1.cls idx d' 0 host (Cond.instanceMethod d'.1)) (callee : Mt G l d' (dep', ca', sa', ex') (.ref a :: []) ly M Q') (hnone : d'.2.2.2 = none) (hini : d'.1.name = "<init>") (hdep : dep' + 1 ≤ dep) (hmx : (lg_sl (.ref a :: [])).length ≤ d'.2.2.1 ∧ d'.2.2.1 ≤ 40 ∧ (st.map fun v => v.category).sum ≤ 8) (hxx : ex' = true → ex = true) (hex : ex = true → ∀ v ly' M', Q' v ly' M' → ly'.length = ly.length + ca') 
    (k : ∀ v ly' M', Q' v ly' M' → Rn G l d (dep, ca, sa, ex) n lv (v.toList ++ st) ly' M' Q) : Rn G l d (dep, ca + ca', sa + sa', ex) pc lv (.ref a :: st) ly M Q := by
  obtain ⟨hd, rfl⟩ := hd
  intro p e R s m args below meth c H locs cells slots ls Z hC hH hB hl hK
  have hM := callee.met hw.2.2.2.2.2 (by rw [sl_len]; exact hmx.1)
  refine W.size hC hH (fun hz => ?_)
  have hmd := hw.2.2
  have hR : (rmB (dep', ca', sa', ex')).frames + 1 ≤ R.frames ∧ 8 + (d'.2.2.1 + 11) + (rmB (dep', ca', sa', ex')).locals ≤ R.locals := ⟨Nat.le_trans hdep hB.1, by have := hB.2.1; have := hmx.2.1; show 8 + (d'.2.2.1 + 11) + 64 * dep' ≤ R.locals; dsimp only at *; omega⟩
  have cb := va_cnB (R := R) (s := s) (args := args) (own := d.1.cls) (index := idx) (rm := rmB (dep', ca', sa', ex')) 0 hC.hts (code_in hmd) rfl rfl rfl (hC.nest hw.1) (hC.hts _ hmd.2.1) hmd.2.2.1 hR
  have hf : cells + ca' ≤ R.cells ∧ slots + sa' ≤ R.slots := by
    have := hB.2.2
    dsimp only at this
    omega
  have hr0 : d'.2.2.2 = none := hnone
  rw [hr0] at cb hM
  have hr := va_runIN (b := G.1 + a) (e := e) (below := below) (meth := meth) (locs := locs) (cells := cells) (slots := slots) (g := F0 m pc ls ((.ref a :: st).map (tv G))) (As := ([]).map (tv G)) (rest := st.map (tv G)) ⟨hC.hx, hC.hb, hC.hml, hC.hown, hC.hts⟩ hM ⟨cb, hini, hC.hts _ hw.2.1⟩ ⟨Pm.blind _ _ _ _ _, fun U hU hW => ⟨rfl, Pm.at (ex' := ex') hC hH hz (hxx) U hU hW⟩⟩ rfl rfl hl.1 rfl (lv_room (by rw [cat_map]; exact hmx.2.2)) hd hf
  exact W.back (b := (0, 0, 0, false)) (k1 := 0) (ca := ca) (sa := sa) (ca' := ca') (sa' := sa') hr hC hH hB hl hK (by exact hex) k
theorem nwE {G : Gx} {M : Mm} {k ci : Nat} : eE G (nw M k) k (.inr ci) = .inr (ci, (fcs ci).map (fun t => match t with | 0 => .int 0 | 1 => .long 0 | _ => .null)) := by
  show Sum.inr _ = Sum.inr _
  congr 2
  refine List.ext_getElem? fun i => ?_
  rw [List.getElem?_mapIdx, List.getElem?_map]
  cases (fcs ci)[i]? with
  | none => rfl
  | some t =>
    match t with
    | 0 => simp [fE, nw, sI, sL, sR]
    | 1 => simp [fE, nw, sI, sL, sR]
    | t + 2 => simp [fE, nw, sI, sL, sR, rG, va_rf]
def dvT (ty : FieldType) : Nat := match ty with
  | .long => 1
  | .array _ => 2
  | .object _ => 2
  | _ => 0
def okD (ci : Nat) : Prop := ∀ j, j < NXf ci → defaultValue (tyXf ci j) = vp_V ((fcs ci).map (fun t => match t with | 0 => .int 0 | 1 => .long 0 | _ => .null)) j

theorem okD0 : okD 0 := by unfold okD; decide +kernel
theorem okD1 : okD 1 := by unfold okD; decide +kernel
theorem okD2 : okD 2 := by unfold okD; decide +kernel
theorem okD3 : okD 3 := by unfold okD; decide +kernel
theorem okD4 : okD 4 := by unfold okD; decide +kernel
theorem okD5 : okD 5 := by unfold okD; decide +kernel
theorem okD6 : okD 6 := by unfold okD; decide +kernel
theorem okD7 : okD 7 := by unfold okD; decide +kernel
theorem okD8 : okD 8 := by unfold okD; decide +kernel
theorem okD9 : okD 9 := by unfold okD; decide +kernel
theorem okD10 : okD 10 := by unfold okD; decide +kernel
theorem okD11 : okD 11 := by unfold okD; decide +kernel
theorem okD12 : okD 12 := by unfold okD; decide +kernel
theorem okD_all : ∀ ci : Nat, ci < 13 → okD ci
  | 0, _ => okD0
  | 1, _ => okD1
  | 2, _ => okD2
  | 3, _ => okD3
  | 4, _ => okD4
  | 5, _ => okD5
  | 6, _ => okD6
  | 7, _ => okD7
  | 8, _ => okD8
  | 9, _ => okD9
  | 10, _ => okD10
  | 11, _ => okD11
  | 12, _ => okD12
  | n + 13, h => absurd h (by omega)
theorem Rn.new {idx ci dep ca sa : Nat} (hd : Dc d.2.1 pc n (.new idx) 3) (hw : NW d.1.cls idx ci) (k : Rn G l d (dep, ca, sa, true) n lv (.ref ly.length :: st) (ly ++ [.inr ci]) (nw M ly.length) Q) : Rn G l d (dep, ca + 1, sa + NXf ci, true) pc lv st ly M Q := by
  obtain ⟨hd, rfl⟩ := hd
  obtain ⟨hci, h1, h2, h3⟩ := hw
  obtain ⟨q1, q2, q3, q4, q5⟩ := clq_all ci hci
  intro p e R s m args below meth c H locs cells slots ls Z hC hH hB hl hK
  refine W.size hC hH (fun hz => ?_)
  have hz := hz rfl
  have hKn := hC.hK.1 ci _ q1
  have hb1 := hB.2.2.1
  have hb2 := hB.2.2.2
  dsimp only at hb1 hb2
  refine W.newcK hC.hx hC.hb hC.hown (hC.hts _ h1) (hC.hts _ h2) (hC.hts _ h3) (g := F0 m pc ls (st.map (tv G))) rfl hd (by omega) (by omega) hKn.2.1 hz fun H1 kC hkC e1 z1 o1 => ?_
  refine k p e R s m args below meth c H1 locs (cells + 1) (slots + NXf ci) ls Z hC ⟨?_, ?_, fun _ => ?_⟩ ⟨hB.1, hB.2.1, by dsimp only; omega, by dsimp only; omega⟩ hl hK
  · rw [wG_app (nw_al M ly.length)]
    refine (hH.1.kept (fun k x hx => o1 x.1 (by rw [← hz]; exact (hH.1 k x hx).lt))).app (fun k x hx => ?_)
    have hk0 : k = 0 := by have := (List.getElem?_eq_some_iff.mp hx).1; simp at this; omega
    subst hk0
    cases hx
    rw [nwE]
    exact ⟨_, q1, (u_born (tyXf ci) hC.hts q2 hKn hkC e1 q3).to (okD_all ci hci)⟩
  · exact ⟨by have := hH.2.1.1; omega, fun q h1 h2 => (o1 q (by have := hH.2.1.1; omega)).trans (hH.2.1.2.1 q h1 h2), hH.2.1.2.2⟩
  · have := hH.2.2 rfl
    simp only [List.length_append, List.length_cons, List.length_nil]
    omega
theorem Rn.newaI {dep ca sa N : Nat} {x : Int32} (hd : Dc d.2.1 pc n (.newarray .int) 2) (hw : Cond.arrayClass .int ∈ TB) (hN : x = nI N) (hlt : N ≤ 60000) (k : Rn G l d (dep, ca, sa, true) n lv (.ref ly.length :: st) (ly ++ [.inl (0, N)]) (nw M ly.length) Q) : Rn G l d (dep, ca + 1, sa + N, true) pc lv (.int x :: st) ly M Q := by
  obtain ⟨hd, rfl⟩ := hd
  subst hN
  intro p e R s m args below meth c H locs cells slots ls Z hC hH hB hl hK
  refine W.size hC hH (fun hz => ?_)
  have hz := hz rfl
  have hb1 := hB.2.2.1
  have hb2 := hB.2.2.2
  dsimp only at hb1 hb2
  refine va_newaK (R := R) (cells := cells) (slots := slots) hC.hx hC.hb (N := N) (atype := .int) (hC.hts _ hw) (g := F0 m pc ls ((.int (nI N) :: st).map (tv G))) rfl hd rfl (nI_pos (by omega)) (nI_clamp (by omega)) (by show N * _ ≤ _; simp only [newarray.typeOf, componentBytes]; omega) (by omega) (by omega) hz fun H1 cA e1 z1 o1 hAr hNm => ?_
  have hcA : cA = G.2.2.1 0 := by
    have h := (hC.hK.2 0 _ rfl).2
    exact Option.some.inj (hNm.symm.trans h)
  subst hcA
  refine k p e R s m args below meth c H1 locs (cells + 1) (slots + N) ls Z hC ⟨?_, ?_, fun _ => ?_⟩ ⟨hB.1, hB.2.1, by dsimp only; omega, by dsimp only; omega⟩ hl hK
  · rw [wG_app (nw_al M ly.length)]
    refine (hH.1.kept (fun k x hx => o1 x.1 (by rw [← hz]; exact (hH.1 k x hx).lt))).app (fun k x hx => ?_)
    have hk0 : k = 0 := by have := (List.getElem?_eq_some_iff.mp hx).1; simp at this; omega
    subst hk0
    cases hx
    show H1[G.1 + ly.length]? = some (vp_cell _ _)
    rw [e1]
    simp [aE, nw, sI, sL, sR, vp_cell, newarray.typeOf, defaultValue]
  · exact ⟨by have := hH.2.1.1; omega, fun q h1 h2 => (o1 q (by have := hH.2.1.1; omega)).trans (hH.2.1.2.1 q h1 h2), hH.2.1.2.2⟩
  · have := hH.2.2 rfl
    simp only [List.length_append, List.length_cons, List.length_nil]
    omega
theorem Rn.newaB {dep ca sa N : Nat} {x : Int32} (hd : Dc d.2.1 pc n (.newarray .byte) 2) (hw : Cond.arrayClass .byte ∈ TB) (hN : x = nI N) (hlt : N ≤ 60000) (k : Rn G l d (dep, ca, sa, true) n lv (.ref ly.length :: st) (ly ++ [.inl (1, N)]) (nw M ly.length) Q) : Rn G l d (dep, ca + 1, sa + N, true) pc lv (.int x :: st) ly M Q := by
  obtain ⟨hd, rfl⟩ := hd
  subst hN
  intro p e R s m args below meth c H locs cells slots ls Z hC hH hB hl hK
  refine W.size hC hH (fun hz => ?_)
  have hz := hz rfl
  have hb1 := hB.2.2.1
  have hb2 := hB.2.2.2
  dsimp only at hb1 hb2
  refine va_newaK (R := R) (cells := cells) (slots := slots) hC.hx hC.hb (N := N) (atype := .byte) (hC.hts _ hw) (g := F0 m pc ls ((.int (nI N) :: st).map (tv G))) rfl hd rfl (nI_pos (by omega)) (nI_clamp (by omega)) (by show N * _ ≤ _; simp only [newarray.typeOf, componentBytes]; omega) (by omega) (by omega) hz fun H1 cA e1 z1 o1 hAr hNm => ?_
  have hcA : cA = G.2.2.1 1 := by
    have h := (hC.hK.2 1 _ rfl).2
    exact Option.some.inj (hNm.symm.trans h)
  subst hcA
  refine k p e R s m args below meth c H1 locs (cells + 1) (slots + N) ls Z hC ⟨?_, ?_, fun _ => ?_⟩ ⟨hB.1, hB.2.1, by dsimp only; omega, by dsimp only; omega⟩ hl hK
  · rw [wG_app (nw_al M ly.length)]
    refine (hH.1.kept (fun k x hx => o1 x.1 (by rw [← hz]; exact (hH.1 k x hx).lt))).app (fun k x hx => ?_)
    have hk0 : k = 0 := by have := (List.getElem?_eq_some_iff.mp hx).1; simp at this; omega
    subst hk0
    cases hx
    show H1[G.1 + ly.length]? = some (vp_cell _ _)
    rw [e1]
    simp [aE, nw, sI, sL, sR, vp_cell, newarray.typeOf, defaultValue]
  · exact ⟨by have := hH.2.1.1; omega, fun q h1 h2 => (o1 q (by have := hH.2.1.1; omega)).trans (hH.2.1.2.1 q h1 h2), hH.2.1.2.2⟩
  · have := hH.2.2 rfl
    simp only [List.length_append, List.length_cons, List.length_nil]
    omega
theorem Rn.newaZ {dep ca sa N : Nat} {x : Int32} (hd : Dc d.2.1 pc n (.newarray .boolean) 2) (hw : Cond.arrayClass .boolean ∈ TB) (hN : x = nI N) (hlt : N ≤ 60000) (k : Rn G l d (dep, ca, sa, true) n lv (.ref ly.length :: st) (ly ++ [.inl (2, N)]) (nw M ly.length) Q) : Rn G l d (dep, ca + 1, sa + N, true) pc lv (.int x :: st) ly M Q := by
  obtain ⟨hd, rfl⟩ := hd
  subst hN
  intro p e R s m args below meth c H locs cells slots ls Z hC hH hB hl hK
  refine W.size hC hH (fun hz => ?_)
  have hz := hz rfl
  have hb1 := hB.2.2.1
  have hb2 := hB.2.2.2
  dsimp only at hb1 hb2
  refine va_newaK (R := R) (cells := cells) (slots := slots) hC.hx hC.hb (N := N) (atype := .boolean) (hC.hts _ hw) (g := F0 m pc ls ((.int (nI N) :: st).map (tv G))) rfl hd rfl (nI_pos (by omega)) (nI_clamp (by omega)) (by show N * _ ≤ _; simp only [newarray.typeOf, componentBytes]; omega) (by omega) (by omega) hz fun H1 cA e1 z1 o1 hAr hNm => ?_
  have hcA : cA = G.2.2.1 2 := by
    have h := (hC.hK.2 2 _ rfl).2
    exact Option.some.inj (hNm.symm.trans h)
  subst hcA
  refine k p e R s m args below meth c H1 locs (cells + 1) (slots + N) ls Z hC ⟨?_, ?_, fun _ => ?_⟩ ⟨hB.1, hB.2.1, by dsimp only; omega, by dsimp only; omega⟩ hl hK
  · rw [wG_app (nw_al M ly.length)]
    refine (hH.1.kept (fun k x hx => o1 x.1 (by rw [← hz]; exact (hH.1 k x hx).lt))).app (fun k x hx => ?_)
    have hk0 : k = 0 := by have := (List.getElem?_eq_some_iff.mp hx).1; simp at this; omega
    subst hk0
    cases hx
    show H1[G.1 + ly.length]? = some (vp_cell _ _)
    rw [e1]
    simp [aE, nw, sI, sL, sR, vp_cell, newarray.typeOf, defaultValue]
  · exact ⟨by have := hH.2.1.1; omega, fun q h1 h2 => (o1 q (by have := hH.2.1.1; omega)).trans (hH.2.1.2.1 q h1 h2), hH.2.1.2.2⟩
  · have := hH.2.2 rfl
    simp only [List.length_append, List.length_cons, List.length_nil]
    omega
theorem Rn.newaJ {dep ca sa N : Nat} {x : Int32} (hd : Dc d.2.1 pc n (.newarray .long) 2) (hw : Cond.arrayClass .long ∈ TB) (hN : x = nI N) (hlt : N ≤ 60000) (k : Rn G l d (dep, ca, sa, true) n lv (.ref ly.length :: st) (ly ++ [.inl (3, N)]) (nw M ly.length) Q) : Rn G l d (dep, ca + 1, sa + N, true) pc lv (.int x :: st) ly M Q := by
  obtain ⟨hd, rfl⟩ := hd
  subst hN
  intro p e R s m args below meth c H locs cells slots ls Z hC hH hB hl hK
  refine W.size hC hH (fun hz => ?_)
  have hz := hz rfl
  have hb1 := hB.2.2.1
  have hb2 := hB.2.2.2
  dsimp only at hb1 hb2
  refine va_newaK (R := R) (cells := cells) (slots := slots) hC.hx hC.hb (N := N) (atype := .long) (hC.hts _ hw) (g := F0 m pc ls ((.int (nI N) :: st).map (tv G))) rfl hd rfl (nI_pos (by omega)) (nI_clamp (by omega)) (by show N * _ ≤ _; simp only [newarray.typeOf, componentBytes]; omega) (by omega) (by omega) hz fun H1 cA e1 z1 o1 hAr hNm => ?_
  have hcA : cA = G.2.2.1 3 := by
    have h := (hC.hK.2 3 _ rfl).2
    exact Option.some.inj (hNm.symm.trans h)
  subst hcA
  refine k p e R s m args below meth c H1 locs (cells + 1) (slots + N) ls Z hC ⟨?_, ?_, fun _ => ?_⟩ ⟨hB.1, hB.2.1, by dsimp only; omega, by dsimp only; omega⟩ hl hK
  · rw [wG_app (nw_al M ly.length)]
    refine (hH.1.kept (fun k x hx => o1 x.1 (by rw [← hz]; exact (hH.1 k x hx).lt))).app (fun k x hx => ?_)
    have hk0 : k = 0 := by have := (List.getElem?_eq_some_iff.mp hx).1; simp at this; omega
    subst hk0
    cases hx
    show H1[G.1 + ly.length]? = some (vp_cell _ _)
    rw [e1]
    simp [aE, nw, sI, sL, sR, vp_cell, newarray.typeOf, defaultValue]
  · exact ⟨by have := hH.2.1.1; omega, fun q h1 h2 => (o1 q (by have := hH.2.1.1; omega)).trans (hH.2.1.2.1 q h1 h2), hH.2.1.2.2⟩
  · have := hH.2.2 rfl
    simp only [List.length_append, List.length_cons, List.length_nil]
    omega
def mx (x y : Int32) : Int32 := if x < y then y else x
def mn (x y : Int32) : Int32 := if y < x then y else x
def ab (x : Int32) : Int32 := if 0 ≤ x then x else 0 - x
def mxL (x y : Int64) : Int64 := if y < x then x else y
def mnL (x y : Int64) : Int64 := if y < x then y else x
def abL (x : Int64) : Int64 := if 0 < x then x else -x
def jWd (nm : MethodName) (c : ByteArray) (k : Nat) (ret : Option FieldType) : Prop := Cond.static nm ∈ TB ∧ Cond.initialized "java/lang/Math" ∈ TB ∧ Cond.code nm c k ret ∈ TB
theorem Rn.mmax {b : Bq} {idx : Nat} {x y : Int32} (hd : Dc d.2.1 pc n (.invokestatic idx) 3) (hw : Cond.methodLink d.1.cls idx Lib.Math.max.name ∈ TB) (hj : jWd Lib.Math.max.name Lib.Math.max.code 2 (some .int)) (hm : 1 ≤ b.1 ∧ (st.map fun v => v.category).sum ≤ 8) (k : Rn G l d b n lv (.int (mx x y) :: st) ly M Q) : Rn G l d b pc lv (.int y :: .int x :: st) ly M Q := by
  obtain ⟨hd, rfl⟩ := hd
  intro p e R s m args below meth c H locs cells slots ls Z hC hH hB hl hK
  have h1 := hB.1
  have h2 := hB.2.1
  have h3 := hB.2.2
  exact va_mmax hC.hx hC.hb (hC.hml.trans hl.1.symm) hC.hown (hC.hts _ hw) (hC.hts _ hj.1) (hC.hts _ hj.2.1) (hC.hts _ hj.2.2) (by omega) (by rw [cat_map]; omega) (by omega) (by omega) hd (k p e R s m args below meth c H locs cells slots ls Z hC hH hB hl hK)
theorem Rn.mmin {b : Bq} {idx : Nat} {x y : Int32} (hd : Dc d.2.1 pc n (.invokestatic idx) 3) (hw : Cond.methodLink d.1.cls idx Lib.Math.min.name ∈ TB) (hj : jWd Lib.Math.min.name Lib.Math.min.code 2 (some .int)) (hm : 1 ≤ b.1 ∧ (st.map fun v => v.category).sum ≤ 8) (k : Rn G l d b n lv (.int (mn x y) :: st) ly M Q) : Rn G l d b pc lv (.int y :: .int x :: st) ly M Q := by
  obtain ⟨hd, rfl⟩ := hd
  intro p e R s m args below meth c H locs cells slots ls Z hC hH hB hl hK
  have h1 := hB.1
  have h2 := hB.2.1
  have h3 := hB.2.2
  exact va_mmin hC.hx hC.hb (hC.hml.trans hl.1.symm) hC.hown (hC.hts _ hw) (hC.hts _ hj.1) (hC.hts _ hj.2.1) (hC.hts _ hj.2.2) (by omega) (by rw [cat_map]; omega) (by omega) (by omega) hd (k p e R s m args below meth c H locs cells slots ls Z hC hH hB hl hK)
theorem Rn.mabs {b : Bq} {idx : Nat} {x : Int32} (hd : Dc d.2.1 pc n (.invokestatic idx) 3) (hw : Cond.methodLink d.1.cls idx Lib.Math.abs.name ∈ TB) (hj : jWd Lib.Math.abs.name Lib.Math.abs.code 1 (some .int)) (hm : 1 ≤ b.1 ∧ (st.map fun v => v.category).sum ≤ 8) (k : Rn G l d b n lv (.int (ab x) :: st) ly M Q) : Rn G l d b pc lv (.int x :: st) ly M Q := by
  obtain ⟨hd, rfl⟩ := hd
  intro p e R s m args below meth c H locs cells slots ls Z hC hH hB hl hK
  have h1 := hB.1
  have h2 := hB.2.1
  have h3 := hB.2.2
  exact va_mabs hC.hx hC.hb (hC.hml.trans hl.1.symm) hC.hown (hC.hts _ hw) (hC.hts _ hj.1) (hC.hts _ hj.2.1) (hC.hts _ hj.2.2) (by omega) (by rw [cat_map]; omega) (by omega) (by omega) hd (k p e R s m args below meth c H locs cells slots ls Z hC hH hB hl hK)
theorem Rn.mmaxL {b : Bq} {idx : Nat} {x y : Int64} (hd : Dc d.2.1 pc n (.invokestatic idx) 3) (hw : Cond.methodLink d.1.cls idx Lib.MathLoose.max_long.x ∈ TB) (hj : jWd Lib.MathLoose.max_long.x Lib.MathLoose.max_long.code 4 (some .long)) (hm : 1 ≤ b.1 ∧ (st.map fun v => v.category).sum ≤ 8) (k : Rn G l d b n lv (.long (mxL x y) :: st) ly M Q) : Rn G l d b pc lv (.long y :: .long x :: st) ly M Q := by
  obtain ⟨hd, rfl⟩ := hd
  intro p e R s m args below meth c H locs cells slots ls Z hC hH hB hl hK
  have h1 := hB.1
  have h2 := hB.2.1
  have h3 := hB.2.2
  exact va_mmax_long hC.hx hC.hb (hC.hml.trans hl.1.symm) hC.hown (hC.hts _ hw) (hC.hts _ hj.1) (hC.hts _ hj.2.1) (hC.hts _ hj.2.2) (by omega) (by rw [cat_map]; omega) (by omega) (by omega) hd (k p e R s m args below meth c H locs cells slots ls Z hC hH hB hl hK)
theorem Rn.mminL {b : Bq} {idx : Nat} {x y : Int64} (hd : Dc d.2.1 pc n (.invokestatic idx) 3) (hw : Cond.methodLink d.1.cls idx Lib.MathLoose.min_long.x ∈ TB) (hj : jWd Lib.MathLoose.min_long.x Lib.MathLoose.min_long.code 4 (some .long)) (hm : 1 ≤ b.1 ∧ (st.map fun v => v.category).sum ≤ 8) (k : Rn G l d b n lv (.long (mnL x y) :: st) ly M Q) : Rn G l d b pc lv (.long y :: .long x :: st) ly M Q := by
  obtain ⟨hd, rfl⟩ := hd
  intro p e R s m args below meth c H locs cells slots ls Z hC hH hB hl hK
  have h1 := hB.1
  have h2 := hB.2.1
  have h3 := hB.2.2
  exact va_mmin_long hC.hx hC.hb (hC.hml.trans hl.1.symm) hC.hown (hC.hts _ hw) (hC.hts _ hj.1) (hC.hts _ hj.2.1) (hC.hts _ hj.2.2) (by omega) (by rw [cat_map]; omega) (by omega) (by omega) hd (k p e R s m args below meth c H locs cells slots ls Z hC hH hB hl hK)
theorem Rn.mabsL {b : Bq} {idx : Nat} {x : Int64} (hd : Dc d.2.1 pc n (.invokestatic idx) 3) (hw : Cond.methodLink d.1.cls idx Lib.MathLoose.abs_long.x ∈ TB) (hj : jWd Lib.MathLoose.abs_long.x Lib.MathLoose.abs_long.code 2 (some .long)) (hm : 1 ≤ b.1 ∧ (st.map fun v => v.category).sum ≤ 8) (k : Rn G l d b n lv (.long (abL x) :: st) ly M Q) : Rn G l d b pc lv (.long x :: st) ly M Q := by
  obtain ⟨hd, rfl⟩ := hd
  intro p e R s m args below meth c H locs cells slots ls Z hC hH hB hl hK
  have h1 := hB.1
  have h2 := hB.2.1
  have h3 := hB.2.2
  exact va_mabs_long hC.hx hC.hb (hC.hml.trans hl.1.symm) hC.hown (hC.hts _ hw) (hC.hts _ hj.1) (hC.hts _ hj.2.1) (hC.hts _ hj.2.2) (by omega) (by rw [cat_map]; omega) (by omega) (by omega) hd (k p e R s m args below meth c H locs cells slots ls Z hC hH hB hl hK)
theorem Rn.objInit {b : Bq} {idx a : Nat} (hd : Dc d.2.1 pc n (.invokespecial idx) 3) (hw : Cond.methodLink d.1.cls idx Lib.objectInit ∈ TB) (hj : Cond.instanceMethod Lib.objectInit ∈ TB ∧ Cond.code Lib.objectInit ⟨#[0xb1]⟩ 1 none ∈ TB) (hm : 1 ≤ b.1 ∧ (st.map fun v => v.category).sum ≤ 8) (k : Rn G l d b n lv st ly M Q) : Rn G l d b pc lv (.ref a :: st) ly M Q := by
  obtain ⟨hd, rfl⟩ := hd
  intro p e R s m args below meth c H locs cells slots ls Z hC hH hB hl hK
  have h1 := hB.1
  have h2 := hB.2.1
  exact W.objInit hC.hx hC.hb hC.hown (hC.hts _ hw) (hC.hts _ hj.1) (hC.hts _ hj.2) (g := F0 m pc ls ((.ref a :: st).map (tv G))) rfl (hl.1.trans hC.hml.symm) rfl hd (by omega) (by have := cat_map G st; show 2 * 0 + _ + 12 ≤ _; rw [this]; omega) (k p e R s m args below meth c H locs cells slots ls Z hC hH hB hl hK)
theorem Rn.copy {b : Bq} {idx a0 a n0 n1 : Nat} {sp dp cnt : Int32} (hd : Dc d.2.1 pc n (.invokestatic idx) 3) (hw : Cond.methodLink d.1.cls idx arraycopyName ∈ TB) (hj : Cond.native arraycopyName ∈ TB ∧ Cond.static arraycopyName ∈ TB ∧ Cond.initialized "java/lang/System" ∈ TB) (ho0 : ly[a0]? = some (.inl (0, n0))) (ho : ly[a]? = some (.inl (0, n1))) (h1 : ¬ sp < 0) (h2 : ¬ dp < 0) (h3 : ¬ cnt < 0) (h4 : sp.toNatClampNeg + cnt.toNatClampNeg ≤ n0) (h5 : dp.toNatClampNeg + cnt.toNatClampNeg ≤ n1) (hm : 1 ≤ b.1 ∧ (st.map fun v => v.category).sum ≤ 8)
    (k : Rn G l d b n lv st ly (sI M a (va_cpy (M.1 a0) (M.1 a) sp.toNatClampNeg dp.toNatClampNeg cnt.toNatClampNeg)) Q) : Rn G l d b pc lv (.int cnt :: .int dp :: .ref a :: .int sp :: .ref a0 :: st) ly M Q := by
  obtain ⟨hd, rfl⟩ := hd
  intro p e R s m args below meth c H locs cells slots ls Z hC hH hB hl hK
  have g1 := hB.1
  have g2 := hB.2.1
  exact va_copyi hC.hx hC.hb (hC.hml.trans hl.1.symm) hC.hown (hC.hts _ hw) (hC.hts _ hj.1) (hC.hts _ hj.2.1) (hC.hts _ hj.2.2) hC.hK hH.1 (wG_D G ly M) hH.2.1 a0 a 0 0 (wG_get ho0) (wG_get ho) rfl rfl rfl h1 h2 h3 h4 h5 (fun _ _ => rfl) (by omega) (by rw [cat_map]; have g3 : nativeFrameWords "java/lang/System" "arraycopy" 5 + 11 ≤ 56 := (by decide); omega) hd (fun H1 locs1 hP _ hS => k p e R s m args below meth c H1 locs1 cells slots ls Z hC (hH.put ho (sI_al _ _ _) (by simp [eE, aE, sI]) hP hS) hB hl hK)
theorem Rn.tableOut {b : Bq} {dflt lo hi : Int} {offs : Array Int} {len tgt : Nat} {x : Int32} (hd : decode d.2.1 pc = .ok (.tableswitch dflt lo hi offs, len)) (h : x.toInt < lo ∨ hi < x.toInt) (ht : (pc : Int) + dflt = (tgt : Int)) (k : Rn G l d b tgt lv st ly M Q) : Rn G l d b pc lv (.int x :: st) ly M Q := by
  intro p e R s m args below meth c H locs cells slots ls Z hC hH hB hl hK
  exact lv_tableOut hC.hx hC.hb hd h ht (k p e R s m args below meth c H locs cells slots ls Z hC hH hB hl hK)
theorem Rn.tableIn {b : Bq} {dflt lo hi : Int} {offs : Array Int} {len tgt : Nat} {x : Int32} {off : Int} (hd : decode d.2.1 pc = .ok (.tableswitch dflt lo hi offs, len)) (h1 : ¬ x.toInt < lo) (h2 : ¬ hi < x.toInt) (ho : offs[(x.toInt - lo).toNat]? = some off) (ht : (pc : Int) + off = (tgt : Int)) (k : Rn G l d b tgt lv st ly M Q) : Rn G l d b pc lv (.int x :: st) ly M Q := by
  intro p e R s m args below meth c H locs cells slots ls Z hC hH hB hl hK
  exact lv_tableIn hC.hx hC.hb hd h1 h2 ho ht (k p e R s m args below meth c H locs cells slots ls Z hC hH hB hl hK)
theorem Rn.lookup {b : Bq} {dflt : Int} {ps : Array (Int × Int)} {len tgt : Nat} {x : Int32} {off : Int} (hd : decode d.2.1 pc = .ok (.lookupswitch dflt ps, len)) (hp : (ps.toList.zip (ps.toList.drop 1)).all (fun (a, next) => a.1 < next.1) = true) (ho : Op.lookupswitch.offset ps.toList dflt x.toInt = off) (ht : (pc : Int) + off = (tgt : Int)) (k : Rn G l d b tgt lv st ly M Q) : Rn G l d b pc lv (.int x :: st) ly M Q := by
  intro p e R s m args below meth c H locs cells slots ls Z hC hH hB hl hK
  exact lv_lookup hC.hx hC.hb hd hp ho ht (k p e R s m args below meth c H locs cells slots ls Z hC hH hB hl hK)
theorem Rn.aldq {b : Bq} {a N a2 : Nat} {i : Int32} (hd : Dc d.2.1 pc n (.aaload) 1) (ho : ly[a]? = some (.inl (5, N))) (hin : vp_in i N) (hv : M.2.2 a i.toNatClampNeg = some a2) (k : Rn G l d b n lv (.ref a2 :: st) ly M Q) : Rn G l d b pc lv (.int i :: .ref a :: st) ly M Q := by
  obtain ⟨hd, rfl⟩ := hd
  intro p e R s m args below meth c H locs cells slots ls Z hC hH hB hl hK
  refine va_aldq hC.hx hC.hb hC.hK hH.1 a 5 (wG_get ho) rfl hin hd ?_
  have := k p e R s m args below meth c H locs cells slots ls Z hC hH hB hl hK
  simp only [hv, rG, Option.map_some, va_rf]
  exact this
end RNM
