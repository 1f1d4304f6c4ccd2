section MF
variable {l : Launch}
theorem Met.ofWF {y : MethodName} {ws ws' : List Cond} {rm : Room} {Pc : Array Value → State → Prop} {Qc : Array Value → State → Outcome → State → Prop} {mc ms : Nat} {free : Addr → Prop} {cc : ByteArray} {maxL : Nat} {ret : Option FieldType}
    (hy : plainFor y = true) (hw : ws = Cond.code y cc maxL ret :: ws')
    (body : ∀ p e s m args below meth c s₁, BodyLoose p l y (headSpec ws rm) cc maxL ret e s m args below meth c s₁ → c.maxLocals = maxL → Pc args s →
      W p l e (headSpec ws rm).room s m args below meth c s.heap [] 0 0 (MQ below Qc args s mc ms free) (entryFrame m args maxL)) : Met l y ws rm Pc Qc mc ms free := by
  refine MetFree.of_bodySF (code := cc) (maxLocals := maxL) (ret := ret) hy ?_ ?_
  · intro args s m h hn
    obtain ⟨meth, c, h1, h2, h3, h4, h5, h6, -, -⟩ := Cond.code_spec hn (atoms_spec (ws := ws) h _ (by rw [hw]; exact List.mem_cons_self))
    exact ⟨meth, c, h1, h2, h3, h4, h5, h6⟩
  · intro p e s m args below meth c s₁ B hml hP _
    have hh0 : s₁.heap = s.heap := by rw [B.state]; rfl
    obtain ⟨t, a1, o, b1, b2, b3⟩ := body p e s m args below meth c s₁ B hml hP s₁ hh0 (Stand.of_body B)
    exact ⟨t, o, a1, b1, b2, ⟨b3.1, b3.2⟩⟩
end MF
theorem Mt.metF {G : Gx} {l : Launch} {d : Md} {b : Bq} {av : List Value} {ly : Ly} {M : Mm} {Q : Qt} (h : Mt G l d b av ly M Q) (hpl : plainFor d.1 = true) (hlen : (lg_sl (av.map (tv G))).length ≤ d.2.2.1) :
    Met l d.1 (Cond.code d.1 d.2.1 d.2.2.1 d.2.2.2 :: TB) (rmB b) (va_Pc (av.map (tv G)) (Pm G ly M b.2.2.2)) (Qm G Q) b.2.1 b.2.2.1 (GA G) := by
  refine Met.ofWF (cc := d.2.1) (maxL := d.2.2.1) (ret := d.2.2.2) hpl rfl ?_
  intro p e s m args below meth c s₁ B hml hv
  obtain ⟨rfl, hP, hK, hSp, hsz, hex⟩ := hv
  have hts := atoms_spec (ws := Cond.code d.1 d.2.1 d.2.2.1 d.2.2.2 :: TB) B.pre
  have hC : Cx G d p s m (av.map (tv G)).toArray meth c := ⟨B.exec, B.bytes, hml, findClass_of_methodNamed B.named, fun w hw => hts w (List.mem_cons_of_mem _ hw), B.notSynchronized, B.returns, hK, hsz, (name_of_methodNamed B.named B.method).1, hSp⟩
  have hl := lv_entry (av.map (tv G)) (n := d.2.2.1) hlen
  rw [lg_entry_eq]
  generalize (lg_sl (av.map (tv G)) ++ List.replicate (d.2.2.1 - (lg_sl (av.map (tv G))).length) Slot.unset).toArray = ls at hl ⊢
  show W p l e (rmB b) s m _ below meth c s.heap [] 0 0 _ _
  refine h p e (rmB b) s m _ below meth c s.heap [] 0 0 ls _ hC ⟨hP, va_S.rf, fun q => by rw [hex q]; rfl⟩ ⟨Nat.le_refl _, Nat.le_refl _, by show 0 + b.2.1 ≤ b.2.1; omega, by show 0 + b.2.2.1 ≤ b.2.2.1; omega⟩ (lv_less hl (lvG_ent _ av 0)) ?_
  intro v ly' M' H locs cells slots ls pc hq hH h1 h2 hrt
  refine W.widen (k := b.2.1) (n := b.2.2.1) h1 h2 ?_
  have hlk := hC.hlk
  match v, hq, hrt with
  | none, hq, hrt => exact W.vret hC.hx hC.hb (hC.hr.trans hrt.2) (fun t ht _ => ⟨⟨none, ly', M', rfl, hq, by rw [ht]; exact hH.1⟩, hH.2.1.F ht⟩) hH.2.1.2.2 hrt.1
  | some (.int x), hq, ⟨hd, ty, hr, hn⟩ => exact W.zret hC.hx hC.hb (hC.hr.trans hr) hn (fun t ht _ => ⟨⟨some (.int x), ly', M', rfl, hq, by rw [ht]; exact hH.1⟩, hH.2.1.F ht⟩) hH.2.1.2.2 hd
  | some (.long x), hq, hrt => exact W.lret hC.hx hC.hb (hC.hr.trans hrt.2) (fun t ht _ => ⟨⟨some (.long x), ly', M', rfl, hq, by rw [ht]; exact hH.1⟩, hH.2.1.F ht⟩) hH.2.1.2.2 hrt.1
def MDF (d : Md) (na : Nat) : Prop := Cond.code d.1 d.2.1 d.2.2.1 d.2.2.2 ∈ TB ∧ Cond.initialized d.1.cls ∈ TB ∧ (d.1.cls ≠ "java/lang/invoke/MethodHandle" ∧ d.1.cls ≠ "java/lang/invoke/VarHandle" ∧ (parseMethodDescriptor d.1.desc).map (fun d => d.parameters.length) = some na) ∧ plainFor d.1 = true
def SLF (own : String) (idx : Nat) (d : Md) (na : Nat) : Prop := Cond.methodLink own idx d.1 ∈ TB ∧ Cond.static d.1 ∈ TB ∧ MDF d na
theorem code_inF {d : Md} {na : Nat} (h : MDF d na) : GoodIn TB (Cond.code d.1 d.2.1 d.2.2.1 d.2.2.2 :: TB) := TB_good (fun w hw => (List.mem_cons.mp hw).elim (fun q => q ▸ h.1) id)
section RNF
variable {G : Gx} {l : Launch} {d : Md} {pc n : Nat} {lv : List (Option Value)} {st : List Value} {ly : Ly} {M : Mm} {Q : Qt}
theorem Rn.callSF2 {d' : Md} {idx dep dep' ca sa : Nat} {ex : Bool} {Q' : Qt} {x0 x1 : Value} (hd : Dc d.2.1 pc n (.invokestatic idx) 3) (hw : SLF d.1.cls idx d' 2) (callee : Mt G l d' (dep', 0, 0, false) ([x0, x1]) ly M Q') (hdep : dep' + 1 ≤ dep) (hmx : (lg_sl ([x0, x1])).length ≤ d'.2.2.1 ∧ d'.2.2.1 ≤ 40 ∧ (st.map fun v => v.category).sum ≤ 8) (hex : ex = true → ∀ v ly' M', Q' v ly' M' → ly'.length = ly.length) 
    (k : ∀ v ly' M', Q' v ly' M' → Rn G l d (dep, ca, sa, ex) n lv (v.toList ++ st) ly' M' Q) : Rn G l d (dep, ca, sa, ex) pc lv (x1 :: x0 :: st) ly M Q := by
  obtain ⟨hd, rfl⟩ := hd
  intro p e R s m args below meth c H locs cells slots ls Z hC hH hB hl hK
  have hM := callee.metF hw.2.2.2.2.2 (by rw [sl_len]; exact hmx.1)
  refine W.size hC hH (fun hz => ?_)
  have hmd := hw.2.2
  have hR : (rmB (dep', 0, 0, false)).frames + 1 ≤ R.frames ∧ 8 + (d'.2.2.1 + 11) + (rmB (dep', 0, 0, false)).locals ≤ R.locals := ⟨Nat.le_trans hdep hB.1, by have := hB.2.1; have := hmx.2.1; show 8 + (d'.2.2.1 + 11) + 64 * dep' ≤ R.locals; dsimp only at *; omega⟩
  have cb := callB_of (R := R) (s := s) (args := args) (own := d.1.cls) (index := idx) (rm := rmB (dep', 0, 0, false)) 2 hC.hts (code_inF hmd) rfl rfl rfl (hC.hts _ hmd.2.1) (hC.hts _ hw.1) hmd.2.2.1 hR
  have hf : cells + 0 ≤ R.cells ∧ slots + 0 ≤ R.slots := by
    have := hB.2.2
    dsimp only at this
    omega
  have hr := va_runS (e := e) (below := below) (meth := meth) (locs := locs) (cells := cells) (slots := slots) (g := F0 m pc ls ((x1 :: x0 :: st).map (tv G))) (As := ([x0, x1]).map (tv G)) (rest := st.map (tv G)) ⟨hC.hx, hC.hb, hC.hml, hC.hown, hC.hts⟩ hM ⟨cb, hC.hts _ hw.2.1⟩ ⟨Pm.blind _ _ _ _ _, fun U hU hW => ⟨rfl, Pm.at (ex' := false) hC hH hz (fun h => by cases h) U hU hW⟩⟩ rfl rfl hl.1 rfl (lv_room (by rw [cat_map]; exact hmx.2.2)) hd hf
  exact W.back (b := (0, 0, 0, false)) (k1 := 0) (ca := ca) (sa := sa) (ca' := 0) (sa' := 0) hr hC hH hB hl hK (by intro q; exact hex q) k
end RNF
theorem mdJ9_floorMod : MDF mJ9_floorMod_7cf53 2 := ⟨(TB4 (List.mem_of_getElem? (i := 164) rfl) rfl), (TB1 (List.mem_of_getElem? (i := 17) rfl) rfl), by decide +kernel, by decide +kernel⟩
theorem vX11_254 : SLF RX11 254 mJ9_floorMod_7cf53 2 := ⟨(TB4 (List.mem_of_getElem? (i := 162) rfl) rfl), (TB4 (List.mem_of_getElem? (i := 163) rfl) rfl), mdJ9_floorMod⟩
def fmd (x y : Int32) : Int32 := if 0 ≤ x ^^^ y then x - x / y * y else if x - x / y * y = 0 then x - x / y * y else x - x / y * y + y
theorem tJ9_floorMod {G : Gx} {l : Launch} {ly : Ly} {M : Mm} {x y : Int32} (hy : ¬ y = 0) : Mt G l mJ9_floorMod_7cf53 (1, 0, 0, false) [.int x, .int y] ly M (Is (some (.int (fmd x y))) ly M) := by
  refine Mt.is (fun Q hQ => ?_)
  refine Mt.of (lv := [some (.int x), some (.int y), none]) rfl ?_
  refine Rn.iload_n dJ9_floorMod_7cf53_0 rfl ?_
  refine Rn.iload_n dJ9_floorMod_7cf53_1 rfl ?_
  refine Rn.irem dJ9_floorMod_7cf53_2 hy ?_
  refine Rn.istore_n (lv' := [some (.int x), some (.int y), some (.int (x - x / y * y))]) dJ9_floorMod_7cf53_3 (by decide) rfl ?_
  refine Rn.iload_n dJ9_floorMod_7cf53_4 rfl ?_
  refine Rn.iload_n dJ9_floorMod_7cf53_5 rfl ?_
  refine Rn.ixor dJ9_floorMod_7cf53_6 ?_
  refine Rn.if_ge dJ9_floorMod_7cf53_7 (fun h7 => ?_) (fun h7 => ?_)
  · skip
    refine Rn.iload_n dJ9_floorMod_7cf53_18 rfl ?_
    have hv : fmd x y = x - x / y * y := by simp only [fmd, h7, ↓reduceIte]
    rw [hv] at hQ
    exact Rn.iret (ty := .int) dJ9_floorMod_7cf53_19 rfl rfl hQ
  · skip
    refine Rn.iload_n dJ9_floorMod_7cf53_10 rfl ?_
    refine Rn.if_eq dJ9_floorMod_7cf53_11 (fun h11 => ?_) (fun h11 => ?_)
    · skip
      refine Rn.iload_n dJ9_floorMod_7cf53_18 rfl ?_
      have hv : fmd x y = x - x / y * y := by simp only [fmd, h7, h11, ↓reduceIte]
      rw [hv] at hQ
      exact Rn.iret (ty := .int) dJ9_floorMod_7cf53_19 rfl rfl hQ
    · skip
      refine Rn.iload_n dJ9_floorMod_7cf53_14 rfl ?_
      refine Rn.iload_n dJ9_floorMod_7cf53_15 rfl ?_
      refine Rn.iadd dJ9_floorMod_7cf53_16 ?_
      have hv : fmd x y = (x - x / y * y) + y := by simp only [fmd, h7, h11, ↓reduceIte]
      rw [hv] at hQ
      exact Rn.iret (ty := .int) dJ9_floorMod_7cf53_17 rfl rfl hQ
theorem tX11_slotOf {G : Gx} {l : Launch} {ly : Ly} {M : Mm} {x : Int32} : Mt G l mX11_slotOf (2, 0, 0, false) [.int x] ly M (Is (some (.int (fmd x 60))) ly M) := by
  refine Mt.is (fun Q hQ => ?_)
  refine Mt.of (lv := [some (.int x)]) rfl ?_
  refine Rn.iload_n dX11_slotOf_0 rfl ?_
  refine Rn.bipushv (v := 60) dX11_slotOf_1 bp_60 ?_
  refine Rn.callSF2 dX11_slotOf_3 vX11_254 (tJ9_floorMod (by decide)) (by decide) ⟨(Nat.le_of_ble_eq_true rfl), (Nat.le_of_ble_eq_true rfl), (Nat.le_of_ble_eq_true rfl)⟩ (fun h => by cases h) (fun v1 ly1 M1 ⟨q1, q2, q3⟩ => ?_)
  rw [q1, q2, q3]
  exact Rn.iret (ty := .int) dX11_slotOf_6 rfl rfl hQ
