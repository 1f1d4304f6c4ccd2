/-- what a throw of E0 leaves: the memory as it was -/
def XcQ (G : Gx) (E0 : String) (ly : Ly) (M : Mm) : String → State → State → Prop := fun E st t => E = E0 ∧ va_P G.2.1 vwCl (wG G ly M) t.heap ∧ va_F (GA G) st t
/-- a body that ends in a throw of E0 -/
def Xth (G : Gx) (E0 : String) (ly : Ly) (M : Mm) : Xt := fun p e R s m args below meth c Z => Z = vx_MQ below (fun _ _ _ _ => False) (XcQ G E0 ly M) args s 1 6 (GA G) ∧ (∀ x ∈ c.exceptionTable.toList, False) ∧ R.cells ≤ 1 ∧ R.slots ≤ 6
theorem Rg.throwE {G : Gx} {l : Launch} {d : Md} {dep pc n1 n2 n3 n4 n5 : Nat} {lv : List (Option Value)} {ly : Ly} {M : Mm} {cls Y0 text : String} {names : List String} {ik is ic ix : Nat} {bx : ByteArray} (hlt : l.stackTraces = false)
    (hcls : Bundle.fit cls = true) (hY0 : Bundle.fit Y0 = true) (hnames : ∀ n ∈ names, Bundle.fit n = true)
    (x0 : decode bx 0 = .ok (.aload_n 0, 1)) (x1 : decode bx 1 = .ok (.aload_n 1, 1)) (x2 : decode bx 2 = .ok (.invokespecial ix, 3)) (x5 : decode bx 5 = .ok (.return_, 1))
    (hw : ∀ (s : State) (args : Array Value), Sp G s → ∀ w ∈ (Cond.classLink d.1.cls ik cls :: Cond.initialized cls :: (xi_at d.1.cls ic cls Y0 ix bx names).filter vx_no), w.before args s = true)
    (hg : ∀ w ∈ (Cond.classLink d.1.cls ik cls :: Cond.initialized cls :: (xi_at d.1.cls ic cls Y0 ix bx names).filter vx_no), (w.onTables && w.keepsFace) = true)
    (hstr : ∀ s : State, Sp G s → ∃ sa : Nat, vk_R d.1.cls is text sa s)
    (d0 : Dc d.2.1 pc n1 (.new ik) 3) (d3 : Dc d.2.1 n1 n2 (.dup) 1) (d4 : Dc d.2.1 n2 n3 (.ldc is) 2) (d6 : Dc d.2.1 n3 n4 (.invokespecial ic) 3) (d9 : Dc d.2.1 n4 n5 (.athrow) 1)
    (hdep : names.length + 5 ≤ dep) : Rg G l d (dep, 1, 6, false) pc lv [] ly M (Xth G cls ly M) := by
  obtain ⟨d0, rfl⟩ := d0
  obtain ⟨d3, rfl⟩ := d3
  obtain ⟨d4, rfl⟩ := d4
  obtain ⟨d6, rfl⟩ := d6
  obtain ⟨d9, rfl⟩ := d9
  intro p e R s m args below meth c H locs cells slots ls Z hC hH hB hl hK
  obtain ⟨rfl, htab, hc, hs⟩ := hK
  have hws := hw s args hC.hsp
  obtain ⟨sa, hsa⟩ := hstr s hC.hsp
  have b1 := hB.1
  have b2 := hB.2.1
  have b3 := hB.2.2.1
  have b4 := hB.2.2.2
  dsimp only at b1 b2 b3 b4
  refine xi_throw (cc := d.2.1) (pc := pc) (rest := ([] : List Value).map (tv G)) hC.hx hC.hb hlt (own := d.1.cls) (cls := cls) (Y0 := Y0) (text := text) (names := names) (ik := ik) (is := is) (ic := ic) (ix := ix) (bx := bx) (A := GA G) (sa := sa) hC.hown hcls hY0 hnames x0 x1 x2 x5 (hws _ List.mem_cons_self) (hws _ (List.mem_cons_of_mem _ List.mem_cons_self)) hsa (fun w h => hws w (List.mem_cons_of_mem _ (List.mem_cons_of_mem _ h))) (fun w h => xot (hg w h)) hC.hsp.zqU hC.hsp.zqS hH.2.1 (hl.1.trans hC.hml.symm) d0 d3 d4 d6 d9 (fun x hx => (htab x hx).elim) (by omega) (by simp only [List.map_nil, List.sum_nil]; omega) (by omega) (by omega) hC.hlk ?_ hH.2.1.2.2 (by omega) (by omega)
  intro t _ h1 h2
  exact ⟨rfl, hH.1.kept (fun k x hx => h2 x.1 ((hH.1 k x hx).lt)), Nat.le_trans hH.2.1.1 h1, fun q g1 g2 => (h2 q (Nat.lt_of_lt_of_le g1 hH.2.1.1)).trans (hH.2.1.2.1 q g1 g2)⟩
/-- look of the class, no such walker -/
theorem xX11_look1 {G : Gx} {l : Launch} {ly : Ly} {M : Mm} {pl nw : Nat} {x y : Int32} (hlt : l.stackTraces = false) (hw : M.1 (pl + 1) 0 = nI nw ∧ nw ≤ 6) (hx : ¬ ∃ j : Nat, j < nw ∧ x = nI j) (hX : XW ly M.2.2) (hpl : M.2.2 0 3 = some pl) (hp7 : pl = 7 ∨ pl = 41) : Rg G l mX11_look (6, 1, 6, false) 0 [some (.ref 0), some (.int x), some (.int y)] [] ly M (Xth G xIO ly M) := by
  refine Rg.aload_n dX11_look_0 rfl ?_
  refine Rg.iload_n dX11_look_1 rfl ?_
  refine Rg.callV1 dX11_look_2 vX11_125 (xc0 hX) (by decide) rfl (tX11_isWalker (M := M) (x := x) hX hpl hp7) (by decide) ⟨(Nat.le_of_ble_eq_true rfl), (Nat.le_of_ble_eq_true rfl), (Nat.le_of_ble_eq_true rfl)⟩ (fun h => by cases h) (fun v1 ly1 M1 ⟨q1, q2, q3⟩ => ?_)
  rw [q1, q2, q3]
  have g1 : inN x (M.1 (pl + 1) 0) = 0 := by rw [hw.1]; exact (inN_1 (x := x) (k := nw) (by omega)).elim (fun g => g.1) (fun g => absurd g.2 hx)
  show Rg G l mX11_look (6, 1, 6, false) 5 _ [.int (inN x (M.1 (pl + 1) 0))] ly M _
  rw [g1]
  refine Rg.if_ne dX11_look_5 (fun e1 => absurd rfl e1) (fun e1 => ?_)
  exact Rg.throwE (names := ["java/lang/Exception"]) (Y0 := "java/lang/RuntimeException") (text := "no such walker") (ix := 7) (bx := prog_19_method_2_code) hlt (by decide +kernel) (by decide +kernel) (by decide +kernel) (by decide +kernel) (by decide +kernel) (by decide +kernel) (by decide +kernel) (fun s args h => h.xw1) xw1_ok (fun s h => h.xs1) dX11_look_8 dX11_look_11 dX11_look_12 dX11_look_14 dX11_look_17 (by decide)
/-- .. no such what -/
theorem xX11_look2 {G : Gx} {l : Launch} {ly : Ly} {M : Mm} {pl nw : Nat} {x y : Int32} (hlt : l.stackTraces = false) (hw : M.1 (pl + 1) 0 = nI nw ∧ nw ≤ 6) (hx : ∃ j : Nat, j < nw ∧ x = nI j) (hy : y < 0 ∨ 4 < y) (hX : XW ly M.2.2) (hpl : M.2.2 0 3 = some pl) (hp7 : pl = 7 ∨ pl = 41) : Rg G l mX11_look (6, 1, 6, false) 0 [some (.ref 0), some (.int x), some (.int y)] [] ly M (Xth G xNS ly M) := by
  refine Rg.aload_n dX11_look_0 rfl ?_
  refine Rg.iload_n dX11_look_1 rfl ?_
  refine Rg.callV1 dX11_look_2 vX11_125 (xc0 hX) (by decide) rfl (tX11_isWalker (M := M) (x := x) hX hpl hp7) (by decide) ⟨(Nat.le_of_ble_eq_true rfl), (Nat.le_of_ble_eq_true rfl), (Nat.le_of_ble_eq_true rfl)⟩ (fun h => by cases h) (fun v1 ly1 M1 ⟨q1, q2, q3⟩ => ?_)
  rw [q1, q2, q3]
  have g1 : inN x (M.1 (pl + 1) 0) = 1 := by rw [hw.1]; exact (inN_1 (x := x) (k := nw) (by omega)).elim (fun g => absurd hx g.2) (fun g => g.1)
  show Rg G l mX11_look (6, 1, 6, false) 5 _ [.int (inN x (M.1 (pl + 1) 0))] ly M _
  rw [g1]
  refine Rg.if_ne dX11_look_5 (fun e1 => ?_) (fun e1 => absurd e1 (by decide))
  refine Rg.iload_n dX11_look_18 rfl ?_
  refine Rg.tableOut (tgt := 125) dX11_look_19 (hy.elim (fun h => Or.inl (by rw [Int32.lt_iff_toInt_lt] at h; exact h)) (fun h => Or.inr (by rw [Int32.lt_iff_toInt_lt] at h; exact h))) (by decide) ?_
  exact Rg.throwE (names := ["java/lang/Exception"]) (Y0 := "java/lang/RuntimeException") (text := "no such what") (ix := 13) (bx := prog_32_method_4_code) hlt (by decide +kernel) (by decide +kernel) (by decide +kernel) (by decide +kernel) (by decide +kernel) (by decide +kernel) (by decide +kernel) (fun s args h => h.xw2) xw2_ok (fun s h => h.xs2) dX11_look_125 dX11_look_128 dX11_look_129 dX11_look_131 dX11_look_134 (by decide)
/-- the contract of a method that throws E0 -/
theorem Rg.metX {G : Gx} {l : Launch} {d : Md} {dep : Nat} {av : List Value} {ly : Ly} {M : Mm} {E0 : String} (h : Rg G l d (dep, 1, 6, false) 0 (entL d av) [] ly M (Xth G E0 ly M)) (hpl : plainName d.1.cls = true) (hlen : (lg_sl (av.map (tv G))).length ≤ d.2.2.1) :
    vx_Met l d.1 (Cond.code d.1 d.2.1 d.2.2.1 d.2.2.2 :: TB) (rmB (dep, 1, 6, false)) (va_Pc (av.map (tv G)) (Pm G ly M false)) (fun _ _ _ _ => False) (XcQ G E0 ly M) 1 6 (GA G) := by
  refine vx_ofW (cc := d.2.1) (maxL := d.2.2.1) (ret := d.2.2.2) hpl rfl ?_
  intro p e s m args below meth c s₁ B hml htab hv
  obtain ⟨rfl, hP, hK, hSp, hsz, hex⟩ := hv
  have hts := atoms_spec (ws := Cond.code d.1 d.2.1 d.2.2.1 d.2.2.2 :: TB) B.pre
  have hC : Cx G d p s m (av.map (tv G)).toArray meth c := ⟨B.exec, B.bytes, hml, findClass_of_methodNamed B.named, fun w hw => hts w (List.mem_cons_of_mem _ hw), B.notSynchronized, B.returns, hK, hsz, (name_of_methodNamed B.named B.method).1, hSp⟩
  have hl := lv_entry (av.map (tv G)) (n := d.2.2.1) hlen
  rw [lg_entry_eq]
  generalize (lg_sl (av.map (tv G)) ++ List.replicate (d.2.2.1 - (lg_sl (av.map (tv G))).length) Slot.unset).toArray = ls at hl ⊢
  show W p l e (rmB (dep, 1, 6, false)) s m _ below meth c s.heap [] 0 0 _ _
  exact h p e (rmB (dep, 1, 6, false)) s m _ below meth c s.heap [] 0 0 ls _ hC ⟨hP, va_S.rf, fun q => by cases q⟩ ⟨Nat.le_refl _, Nat.le_refl _, Nat.le_refl _, Nat.le_refl _⟩ (lv_less hl (lvG_ent _ av 0)) ⟨rfl, htab, Nat.le_refl _, Nat.le_refl _⟩
