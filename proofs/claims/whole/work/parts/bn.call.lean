def hhL : List (Nat × Nat × Nat × Nat) := [(0, 10, 13, 13), (0, 10, 17, 15)]
/-- the end of a body with a table of its own -/
def KrT (G : Gx) (l : Launch) (d : Md) (Q : Qt) (hh : List (Nat × Nat × Nat × Nat)) : Xt := fun p e R s m args below meth c Z => Kr G d Q false p l e R s m args below meth c Z ∧ c.exceptionTable.toList = tableOf hh
theorem Rn.krT {G : Gx} {l : Launch} {d : Md} {dep ca sa pc : Nat} {lv : List (Option Value)} {st : List Value} {ly : Ly} {M : Mm} {Q : Qt} {hh : List (Nat × Nat × Nat × Nat)} (h : Rn G l d (dep, ca, sa, false) pc lv st ly M Q) : Rg G l d (dep, ca, sa, false) pc lv st ly M (KrT G l d Q hh) := by
  intro p e R s m args below meth c H locs cells slots ls Z hC hH hB hl hK
  exact h p e R s m args below meth c H locs cells slots ls Z hC hH hB hl hK.1
theorem Rg.metW {G : Gx} {l : Launch} {d : Md} {dep ca sa : Nat} {av : List Value} {ly : Ly} {M : Mm} {Q : Qt} {hh : List (Nat × Nat × Nat × Nat)} (h : Rg G l d (dep, ca, sa, false) 0 (entL d av) [] ly M (KrT G l d Q hh)) (hpl : plainName d.1.cls = true) (hlen : (lg_sl (av.map (tv G))).length ≤ d.2.2.1) :
    Met l d.1 (Cond.codeWith d.1 d.2.1 d.2.2.1 d.2.2.2 hh :: TB) (rmB (dep, ca, sa, false)) (va_Pc (av.map (tv G)) (Pm G ly M false)) (Qm G Q) ca sa (GA G) := by
  refine va_MetW (cc := d.2.1) (maxL := d.2.2.1) (ret := d.2.2.2) (hh := hh) hpl rfl ?_
  intro p e s m args below meth c s₁ B hml hv
  obtain ⟨rfl, hP, hK, hSp, hsz, hex⟩ := hv
  have hts := atoms_spec (ws := Cond.codeWith d.1 d.2.1 d.2.2.1 d.2.2.2 hh :: TB) B.pre
  have htab := vx_table (x := d.1) B (hts _ List.mem_cons_self)
  have hC : Cx G d p s m (av.map (tv G)).toArray meth c := ⟨B.exec, B.bytes, hml, findClass_of_methodNamed B.named, fun w hw => hts w (List.mem_cons_of_mem _ hw), B.notSynchronized, B.returns, hK, hsz, (name_of_methodNamed B.named B.method).1, hSp⟩
  have hl := lv_entry (av.map (tv G)) (n := d.2.2.1) hlen
  rw [lg_entry_eq]
  generalize (lg_sl (av.map (tv G)) ++ List.replicate (d.2.2.1 - (lg_sl (av.map (tv G))).length) Slot.unset).toArray = ls at hl ⊢
  show W p l e (rmB (dep, ca, sa, false)) s m _ below meth c s.heap [] 0 0 _ _
  refine h p e (rmB (dep, ca, sa, false)) s m _ below meth c s.heap [] 0 0 ls _ hC ⟨hP, va_S.rf, fun q => by cases q⟩ ⟨Nat.le_refl _, Nat.le_refl _, by show 0 + ca ≤ ca; omega, by show 0 + sa ≤ sa; omega⟩ (lv_less hl (lvG_ent _ av 0)) ⟨?_, htab⟩
  intro v ly' M' H locs cells slots ls pc hq hH h1 h2 hrt
  refine W.widen (k := ca) (n := sa) h1 h2 ?_
  have hlk := hC.hlk
  match v, hq, hrt with
  | none, hq, hrt => exact W.vret hC.hx hC.hb (hC.hr.trans hrt.2) (fun t ht _ => ⟨⟨none, ly', M', rfl, hq, by rw [ht]; exact hH.1⟩, hH.2.1.F ht⟩) hH.2.1.2.2 hrt.1
  | some (.int x), hq, ⟨hd, ty, hr, hn⟩ => exact W.zret hC.hx hC.hb (hC.hr.trans hr) hn (fun t ht _ => ⟨⟨some (.int x), ly', M', rfl, hq, by rw [ht]; exact hH.1⟩, hH.2.1.F ht⟩) hH.2.1.2.2 hd
  | some (.long x), hq, hrt => exact W.lret hC.hx hC.hb (hC.hr.trans hrt.2) (fun t ht _ => ⟨⟨some (.long x), ly', M', rfl, hq, by rw [ht]; exact hH.1⟩, hH.2.1.F ht⟩) hH.2.1.2.2 hrt.1
/-- the throwing call in the law's look, caught: a general row -/
theorem look_thr {G : Gx} {l : Launch} {ly : Ly} {M : Mm} {E : String} {x y r : Int32} {Q : Qt} {hp : Nat}
    (hlook : Rg G l mX11_look (6, 1, 6, false) 0 [some (.ref 0), some (.int x), some (.int y)] [] ly M (Xth G E ly M)) (hx0 : ly[0]? = some (.inr 11))
    (kc : ∀ (p : Program) (e : Env) (R : Room) (s : State) (m : MethodId) (args : Array Value) (below : List Frame) (meth : Method) (c : Code) (H : Heap) (locs : List Loc) (cells slots : Nat) (ls : Array Slot) (Z : State → Prop) (rest : List Value) (ce : Cell) (q : Addr), Cx G mL_look p s m args meth c → c.exceptionTable.toList = tableOf hhL → H[q]? = some ce → ce.vm = .none → s.vm.findClass E = some ce.cls → W p l e R s m args below meth c H locs cells slots Z (F0 m hp ls [.ref q]) → vx_W p l e R s m args below meth c H locs cells slots Z (F0 m 5 ls rest) q)
    (ha : decode cL_look hp = .ok (.astore 4, 2)) (hr : Rn G l mL_look (7, 0, 0, false) (hp + 2) [] [] ly M Q) : Rg G l mL_look (7, 1, 6, false) 0 [some (.ref 0), some (.int x), some (.int y), some (.ref 196), none] [] ly M (KrT G l mL_look Q hhL) := by
  refine Rg.aload_n dL_look_0 rfl ?_
  refine Rg.iconstv (v := 0) dL_look_1 ic_0 ?_
  refine Rg.aload_n dL_look_2 rfl ?_
  refine Rg.iload_n dL_look_3 rfl ?_
  refine Rg.iload_n dL_look_4 rfl ?_
  intro p e R s m args below meth c H locs cells slots ls Z hC hH hB hl hK
  obtain ⟨hK, htab⟩ := hK
  have hw := vL_7
  have hM := Rg.metX (d := mX11_look) (av := [.ref 0, .int x, .int y]) hlook hw.2.2.2.2.2.2 (by rw [sl_len]; exact Nat.le_of_ble_eq_true rfl)
  have hmd := hw.2.2.2
  have b1 := hB.1
  have b2 := hB.2.1
  have b3 := hB.2.2.1
  have b4 := hB.2.2.2
  dsimp only at b1 b2 b3 b4
  have hR : (rmB (6, 1, 6, false)).frames + 1 ≤ R.frames ∧ 8 + (mX11_look.2.2.1 + 11) + (rmB (6, 1, 6, false)).locals ≤ R.locals := ⟨b1, by show 8 + (3 + 11) + 64 * 6 ≤ R.locals; omega⟩
  have cb := callB_of (R := R) (s := s) (args := args) (own := RL) (index := 7) (rm := rmB (6, 1, 6, false)) 2 hC.hts (code_in hmd) rfl rfl rfl (hC.hts _ hmd.2.1) (hC.hts _ hw.1) hmd.2.2.1 hR
  have hf : cells + 1 ≤ R.cells ∧ slots + 6 ≤ R.slots := ⟨b3, b4⟩
  obtain ⟨q1, -⟩ := clq_all 11 (by decide)
  have hrun := vx_runV (C := mX11_look.1.cls) (b := G.1 + 0) (e := e) (below := below) (meth := meth) (locs := locs) (cells := cells) (slots := slots) (g := F0 m 5 ls ([.int y, .int x, .ref 0, .int 0, .ref 196].map (tv G))) (As := ([.int x, .int y]).map (tv G)) (rest := ([.int 0, .ref 196]).map (tv G)) ⟨hC.hx, hC.hb, hC.hml, hC.hown, hC.hts⟩ hM ⟨cb, hC.hts _ hw.2.1, hC.hts _ hw.2.2.1⟩ ⟨Pm.blind _ _ _ _ _, va_recv hC.hK hH.1 (ci := 11) (q0 := 0) q1 (wG_get hx0), fun U hU hW => ⟨rfl, Pm.at (ex' := false) hC hH (fun h => by cases h) (fun h => by cases h) U hU hW⟩⟩ rfl rfl hl.1 rfl (lv_room (by rw [cat_map]; exact Nat.le_of_ble_eq_true rfl)) dL_look_5.1 hf
  intro T hT X
  rcases hrun T hT X with ⟨v, st₀, t, T', L, h0, X', hL, e1, e2, hq, goes⟩ | ⟨q, st₀, t, T', L, E', ce, h0, X', hL, e1, e2, ⟨hE, hP', hz1, hk1⟩, hce, hcv, hcl, hst⟩
  · exact hq.elim
  · subst hE
    rw [h0] at hz1 hk1
    have kk : W p l e R s m args below meth c T'.heap (locs ++ L) (cells + 1) (slots + 6) Z (F0 m hp ls [.ref q]) := by
      refine lv_astore (x := q) hC.hx hC.hb ha hl (by decide) rfl (fun ls' hl' => ?_)
      exact hr p e R s m args below meth c T'.heap (locs ++ L) (cells + 1) (slots + 6) ls' Z hC ⟨by rw [e1]; exact hP', ⟨Nat.le_trans hH.2.1.1 (by rw [e1]; exact hz1), fun q h1 h2 => by rw [e1, hk1 q (Nat.lt_of_lt_of_le h1 hH.2.1.1) h2]; exact hH.2.1.2.1 q h1 h2, fun q hq => (List.mem_append.mp hq).elim (hH.2.1.2.2 q) (hL q)⟩, fun h => by cases h⟩ ⟨b1, b2, b3, b4⟩ (lv_less hl' (fun q h => by cases h)) hK
    obtain ⟨t2, a1, b1⟩ := kc p e R s m args below meth c T'.heap (locs ++ L) (cells + 1) (slots + 6) ls Z (([.int 0, .ref 196]).map (tv G)) ce q hC htab (by rw [e1]; exact hce) hcv hcl kk T' rfl X'
    exact ⟨t2, hst.trans a1, b1⟩
theorem xL_look1 {G : Gx} {l : Launch} {ly : Ly} {M : Mm} {x y : Int32} {Q : Qt} (hlook : Rg G l mX11_look (6, 1, 6, false) 0 [some (.ref 0), some (.int x), some (.int y)] [] ly M (Xth G xIO ly M)) (hx0 : ly[0]? = some (.inr 11)) (hQ : Q (some (.int 1)) ly M) : Rg G l mL_look (7, 1, 6, false) 0 [some (.ref 0), some (.int x), some (.int y), some (.ref 196), none] [] ly M (KrT G l mL_look Q hhL) := by
  refine look_thr (hp := 13) (r := 1) hlook hx0 ?_ dL_look_13.1 (Rn.iconstv (v := 1) dL_look_15 ic_1 (Rn.iret (ty := .int) dL_look_16 rfl rfl hQ))
  intro p e R s m args below meth c H locs cells slots ls Z rest ce q hC htab hce hcv hcl kk
  exact xi_catch1 (own := RL) (name := xIO) hC.hown ⟨0, 10, 13, 13⟩ [⟨0, 10, 17, 15⟩] (by rw [htab]; rfl) (by decide) (by decide) (hC.hts _ (TB5 (List.mem_of_getElem? (i := 212) rfl) rfl)) (hC.hsp.face (TA5 (List.mem_of_getElem? (i := 220) rfl)) rfl) hce hcv hcl kk
theorem xL_look2 {G : Gx} {l : Launch} {ly : Ly} {M : Mm} {x y : Int32} {Q : Qt} (hlook : Rg G l mX11_look (6, 1, 6, false) 0 [some (.ref 0), some (.int x), some (.int y)] [] ly M (Xth G xNS ly M)) (hx0 : ly[0]? = some (.inr 11)) (hQ : Q (some (.int 2)) ly M) : Rg G l mL_look (7, 1, 6, false) 0 [some (.ref 0), some (.int x), some (.int y), some (.ref 196), none] [] ly M (KrT G l mL_look Q hhL) := by
  refine look_thr (hp := 17) (r := 2) hlook hx0 ?_ dL_look_17.1 (Rn.iconstv (v := 2) dL_look_19 ic_2 (Rn.iret (ty := .int) dL_look_20 rfl rfl hQ))
  intro p e R s m args below meth c H locs cells slots ls Z rest ce q hC htab hce hcv hcl kk
  exact xi_catch2 (own := RL) (name := xNS) (nm := xIO) hC.hown ⟨0, 10, 13, 13⟩ ⟨0, 10, 17, 15⟩ [] (by rw [htab]; rfl) (by decide) (by decide) (hC.hts _ (TB5 (List.mem_of_getElem? (i := 212) rfl) rfl)) hC.hsp.noNS (by decide) (by decide) (hC.hts _ (TB5 (List.mem_of_getElem? (i := 213) rfl) rfl)) (hC.hsp.face (TA6 (List.mem_of_getElem? (i := 46) rfl)) rfl) hce hcv hcl kk
/-- the call of the law's look -/
theorem Rn.callLook {G : Gx} {l : Launch} {ly : Ly} {M : Mm} {x y : Int32} {Q Q' : Qt} {dep ca sa ca' sa' : Nat} {lv : List (Option Value)} (callee : Rg G l mL_look (7, ca', sa', false) 0 [some (.ref 0), some (.int x), some (.int y), some (.ref 196), none] [] ly M (KrT G l mL_look Q' hhL)) (hdep : 8 ≤ dep)
    (k : ∀ v ly' M', Q' v ly' M' → Rn G l mL_law (dep, ca, sa, false) 373 lv (v.toList ++ []) ly' M' Q) : Rn G l mL_law (dep, ca + ca', sa + sa', false) 370 lv [.ref 196, .int y, .int x, .ref 0] ly M Q := by
  intro p e R s m args below meth c H locs cells slots ls Z hC hH hB hl hK
  have hM := Rg.metW (d := mL_look) (av := [.ref 0, .int x, .int y, .ref 196]) callee (by decide +kernel) (by rw [sl_len]; exact Nat.le_of_ble_eq_true rfl)
  have b1 := hB.1
  have b2 := hB.2.1
  have b3 := hB.2.2.1
  have b4 := hB.2.2.2
  dsimp only at b1 b2 b3 b4
  have hcw : Cond.codeWith mL_look.1 mL_look.2.1 mL_look.2.2.1 mL_look.2.2.2 hhL ∈ TB := TB5 (List.mem_of_getElem? (i := 211) rfl) rfl
  have hG : GoodIn TB (Cond.codeWith mL_look.1 mL_look.2.1 mL_look.2.2.1 mL_look.2.2.2 hhL :: TB) := TB_good (fun w hw => (List.mem_cons.mp hw).elim (fun q => q ▸ hcw) id)
  have hd : (mL_look.1.cls ≠ "java/lang/invoke/MethodHandle" ∧ mL_look.1.cls ≠ "java/lang/invoke/VarHandle") ∧ (parseMethodDescriptor mL_look.1.desc).map (fun d => d.parameters.length) = some 4 := by decide +kernel
  have cb : vx_CSW R s args RL 39 mL_look.1 mL_look.2.1 mL_look.2.2.1 mL_look.2.2.2 hhL (Cond.codeWith mL_look.1 mL_look.2.1 mL_look.2.2.1 mL_look.2.2.2 hhL :: TB) (rmB (7, ca', sa', false)) ca' sa' 4 := by
    refine ⟨⟨rfl, rfl, Nat.le_trans hdep b1, by show 8 + (5 + 11) + 64 * 7 ≤ R.locals; omega, pay_in hC.hts hG, List.mem_cons_self⟩, hC.hts _ hcw, hC.hts _ (TB1 (List.mem_of_getElem? (i := 0) rfl) rfl), hd.1, fun sig h => ?_, hC.hts _ (TB5 (List.mem_of_getElem? (i := 209) rfl) rfl), hC.hts _ (TB5 (List.mem_of_getElem? (i := 210) rfl) rfl)⟩
    have h2 := hd.2
    rw [h] at h2
    exact (Option.some.inj h2).symm
  have hf : cells + ca' ≤ R.cells ∧ slots + sa' ≤ R.slots := by omega
  have hr := vx_runSW (e := e) (below := below) (meth := meth) (locs := locs) (cells := cells) (slots := slots) (g := F0 m 370 ls ([.ref 196, .int y, .int x, .ref 0].map (tv G))) (As := ([.ref 0, .int x, .int y, .ref 196]).map (tv G)) (rest := ([] : List Value).map (tv G)) ⟨hC.hx, hC.hb, hC.hml, hC.hown, hC.hts⟩ hM cb ⟨Pm.blind _ _ _ _ _, fun U hU hW => ⟨rfl, Pm.at (ex' := false) hC hH (fun h => by cases h) (fun h => by cases h) U hU hW⟩⟩ rfl rfl hl.1 rfl (lv_room (by rw [cat_map]; exact Nat.le_of_ble_eq_true rfl)) dL_law_370.1 hf
  exact W.back (b := (0, 0, 0, false)) (k1 := 0) (ca := ca) (sa := sa) (ca' := ca') (sa' := sa') hr hC hH hB hl hK (fun h => by cases h) k
