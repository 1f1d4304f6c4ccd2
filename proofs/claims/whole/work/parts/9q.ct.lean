/-- a constructor without arguments: called at a new object, the last cell -/
def CtC (G : Gx) (l : Launch) (d : Md) (dep ca sa ci : Nat) (Cc : Ly) (nc : Nat) (Pc : List (Nat × Nat × Nat)) (F : (Nat → Nat → Int32) → Prop) : Prop := ∀ (l1 : Ly) (a1 : Nat) (M1 : Mm), l1.length = a1 → M1.1 a1 = (fun _ => 0) → Mt G l d (dep, ca, sa, true) [.ref a1] (l1 ++ [.inr ci]) M1 (fun v ly2 K => v = none ∧ ly2 = l1 ++ Cc ∧ ∃ Y, Zr M1 K a1 nc Y Pc ∧ F Y)
section ZRQ
variable {G : Gx} {l : Launch} {d : Md} {b : Bq} {pc n : Nat} {lv : List (Option Value)} {st : List Value} {M0 M : Mm} {Q : Qt} {l0 C C2 : Ly} {a k dep ca sa : Nat} {Z : Nat → Nat → Int32} {P : List (Nat × Nat × Nat)}
theorem Rn.callZN {d' : Md} {host : String} {idx dep' ca' sa' ci nc : Nat} {Cc C3 : Ly} {Pc : List (Nat × Nat × Nat)} {F : (Nat → Nat → Int32) → Prop} (hd : Dc d.2.1 pc n (.invokespecial idx) 3) (hw : NL d.1.cls idx d' 0 host (Cond.instanceMethod d'.1)) (callee : CtC G l d' dep' ca' sa' ci Cc nc Pc F) (hnone : d'.2.2.2 = none) (hini : d'.1.name = "<init>") (hdep : dep' + 1 ≤ dep) (hmx : (lg_sl [.ref (a + k)]).length ≤ d'.2.2.1 ∧ d'.2.2.1 ≤ 40 ∧ (st.map fun v => v.category).sum ≤ 8) (hl : l0.length = a) (hC : C.length = k) (hC2 : C ++ [.inr ci] = C2) (hC3 : C ++ Cc = C3) (hcc : Cc.length = ca' + 1) (hZ : Zr M0 M a (k + 1) Z P) (h1 : M.1 (a + k) = fun _ => 0) (hP : ∀ q ∈ P, q.1 < k) (kk : ∀ (N : Mm) (Y : Nat → Nat → Int32), Zr M0 N a (k + nc) (zj k nc Z Y) (shP k Pc ++ P) → F Y → Rn G l d (dep, ca, sa, true) n lv st (l0 ++ C3) N Q) : Rn G l d (dep, ca + ca', sa + sa', true) pc lv (.ref (a + k) :: st) (l0 ++ C2) M Q := by
  subst hC2; subst hC3
  have hcal := callee (l0 ++ C) (a + k) M (ly_ln hl hC) h1
  rw [List.append_assoc] at hcal
  refine Rn.callIN0 hd hw hcal hnone hini hdep hmx (fun h => h) (fun _ v ly' M' hq => ?_) (fun v ly' M' hq => ?_)
  · rw [hq.2.1]; simp only [List.length_append, List.length_cons, List.length_nil, hcc]; omega
  · obtain ⟨rfl, rfl, Y, hY, hF⟩ := hq
    rw [List.append_assoc]
    exact kk M' Y (hZ.join hY hP) hF
theorem Rn.callZI {d' : Md} {idx dep' ca' sa' ci nc : Nat} {Cc C3 : Ly} {Pc : List (Nat × Nat × Nat)} {F : (Nat → Nat → Int32) → Prop} (hd : Dc d.2.1 pc n (.invokespecial idx) 3) (hw : IL d.1.cls idx d' 0) (callee : CtC G l d' dep' ca' sa' ci Cc nc Pc F) (hnone : d'.2.2.2 = none) (hdep : dep' + 1 ≤ dep) (hmx : (lg_sl [.ref (a + k)]).length ≤ d'.2.2.1 ∧ d'.2.2.1 ≤ 40 ∧ (st.map fun v => v.category).sum ≤ 8) (hl : l0.length = a) (hC : C.length = k) (hC2 : C ++ [.inr ci] = C2) (hC3 : C ++ Cc = C3) (hcc : Cc.length = ca' + 1) (hZ : Zr M0 M a (k + 1) Z P) (h1 : M.1 (a + k) = fun _ => 0) (hP : ∀ q ∈ P, q.1 < k) (kk : ∀ (N : Mm) (Y : Nat → Nat → Int32), Zr M0 N a (k + nc) (zj k nc Z Y) (shP k Pc ++ P) → F Y → Rn G l d (dep, ca, sa, true) n lv st (l0 ++ C3) N Q) : Rn G l d (dep, ca + ca', sa + sa', true) pc lv (.ref (a + k) :: st) (l0 ++ C2) M Q := by
  subst hC2; subst hC3
  have hcal := callee (l0 ++ C) (a + k) M (ly_ln hl hC) h1
  rw [List.append_assoc] at hcal
  refine Rn.callIn0 hd hw hcal hnone hdep hmx (fun h => h) (fun _ v ly' M' hq => ?_) (fun v ly' M' hq => ?_)
  · rw [hq.2.1]; simp only [List.length_append, List.length_cons, List.length_nil, hcc]; omega
  · obtain ⟨rfl, rfl, Y, hY, hF⟩ := hq
    rw [List.append_assoc]
    exact kk M' Y (hZ.join hY hP) hF
theorem Rn.aastL {b : Bq} {ly : Ly} {a0 N0 v : Nat} {i : Int32} (hd : Dc d.2.1 pc n (.aastore) 1) (ho : ly[a0]? = some (.inl (5, N0))) (hv : ly[v]? = some (.inr 5)) (hin : vp_in i N0) (kk : Rn G l d b n lv st ly (sR M a0 (va_up (M.2.2 a0) i.toNatClampNeg (some v))) Q) : Rn G l d b pc lv (.ref v :: .int i :: .ref a0 :: st) ly M Q := by
  obtain ⟨hd, rfl⟩ := hd
  intro p e R s m args below meth c H locs cells slots ls Z hC hH hB hl hK
  refine va_astq hC.hx hC.hb hC.hK hH.1 (wG_D G ly M) hH.2.1 a0 5 v 5 (r := (RX5, TX5, 3)) (wG_get ho) rfl (wG_get hv) rfl hin hd (fun H1 locs1 hP _ hS => kk p e R s m args below meth c H1 locs1 cells slots ls Z hC (hH.put ho (sR_al _ _ _) ?_ hP hS) hB hl hK)
  have hf : (fun j => rG G ((sR M a0 (va_up (M.2.2 a0) i.toNatClampNeg (some v))).2.2 a0 j)) = va_up (fun j => rG G (M.2.2 a0 j)) i.toNatClampNeg (some (G.1 + v)) := by
    refine funext fun j => ?_
    rw [sR_at]
    by_cases hj : j = i.toNatClampNeg
    · subst hj; rw [upR_s, upR_s]; rfl
    · rw [upR_n hj, upR_n hj]
  rw [← hf]
  rfl
theorem Rn.aastZ {N0 i r : Nat} {j : Nat} {x : Int32} (hd : Dc d.2.1 pc n (.aastore) 1) (hx : x = nI j) (hj : j < N0) (hN : N0 < 100) (hl : l0.length = a) (ho : C[i]? = some (.inl (5, N0))) (hv : C[r]? = some (.inr 5)) (hZ : Zr M0 M a k Z P) (hP : ∀ q ∈ P, ¬ (q.1 = i ∧ q.2.1 = j)) (kk : ∀ N : Mm, Zr M0 N a k Z ((i, j, r) :: P) → Rn G l d b n lv st (l0 ++ C) N Q) : Rn G l d b pc lv (.ref (a + r) :: .int x :: .ref (a + i) :: st) (l0 ++ C) M Q := by
  subst hx
  refine Rn.aastL hd (ly_at hl ho) (ly_at hl hv) (vp_in_nI hj (by omega)) ?_
  rw [nI_clamp (by omega)]
  exact kk _ (hZ.pt hP)
theorem Rn.putZI {idx ci i j : Nat} {x : Int32} {Y : Nat → Nat → Int32} (hd : Dc d.2.1 pc n (.putfield idx) 3) (hf : FL d.1.cls idx ci j) (hk : (fcs ci)[j]? = some 0) (hfin : (TXf ci j).2.2.2 = false) (hty : tyXf ci j = .int) (hl : l0.length = a) (ho : C[i]? = some (.inr ci)) (hZ : Zr M0 M a k Z P) (hi : i < k) (h1 : Y i = upd (Z i) j x) (h2 : ∀ q, q < k → q ≠ i → Y q = Z q) (kk : ∀ N : Mm, Zr M0 N a k Y P → Rn G l d b n lv st (l0 ++ C) N Q) : Rn G l d b pc lv (.int x :: .ref (a + i) :: st) (l0 ++ C) M Q :=
  Rn.putI hd hf hk hfin hty (ly_at hl ho) (kk _ (hZ.int (by rw [hZ.2.1 i hi]; exact h1) h2))
theorem Rn.multiZ (hd : Dc d.2.1 pc n (.multianewarray 15 2) 4) (hcl : d.1.cls = RX7) (hl : l0.length = a) (hC : C.length = k) (hC2 : C ++ [.inl (4, 4), .inl (0, 6), .inl (0, 6), .inl (0, 6), .inl (0, 6)] = C2) (hZ : Zr M0 M a k Z P) (hz : ∀ i, i < 5 → Z (k + i) = fun _ => 0) (hP : ∀ q ∈ P, q.1 < k) (kk : ∀ N : Mm, Zr M0 N a (k + 5) Z ((k, 0, k + 1) :: (k, 1, k + 2) :: (k, 2, k + 3) :: (k, 3, k + 4) :: P) → Rn G l d (dep, ca, sa, true) n lv (.ref (a + k) :: st) (l0 ++ C2) N Q) : Rn G l d (dep, ca + 5, sa + 28, true) pc lv (.int 6 :: .int 4 :: st) (l0 ++ C) M Q := by
  subst hC2
  have hlen := ly_ln hl hC
  have z1 := hZ.fresh (hz 0 (by decide)) hP
  have hP1 : ∀ q ∈ P, q.1 < k + 1 := fun q hq => Nat.lt_succ_of_lt (hP q hq)
  have hP2 : ∀ q ∈ P, q.1 < k + 1 + 1 := fun q hq => Nat.lt_succ_of_lt (hP1 q hq)
  have hP3 : ∀ q ∈ P, q.1 < k + 1 + 1 + 1 := fun q hq => Nat.lt_succ_of_lt (hP2 q hq)
  have hP4 : ∀ q ∈ P, q.1 < k + 1 + 1 + 1 + 1 := fun q hq => Nat.lt_succ_of_lt (hP3 q hq)
  have z5 := ((((z1.fresh (hz 1 (by decide)) hP1).fresh (hz 2 (by decide)) hP2).fresh (hz 3 (by decide)) hP3).fresh (hz 4 (by decide)) hP4)
  obtain ⟨N5, e5⟩ : ∃ N9, N9 = nw (nw (nw (nw (nw M (a + k)) (a + (k + 1))) (a + (k + 1 + 1))) (a + (k + 1 + 1 + 1))) (a + (k + 1 + 1 + 1 + 1)) := ⟨_, rfl⟩
  rw [← e5] at z5
  obtain ⟨N6, e6⟩ : ∃ N9, N9 = sR N5 (a + k) (fun j => if j < 4 then some (a + k + 1 + j) else none) := ⟨_, rfl⟩
  have zF : Zr M0 N6 a (k + 5) Z ((k, 0, k + 1) :: (k, 1, k + 2) :: (k, 2, k + 3) :: (k, 3, k + 4) :: P) := by
    refine ⟨fun q hq => ?_, fun i hi => ?_, fun q hq => ?_⟩
    · have := z5.1 q hq
      rw [e6]
      exact ⟨this.1, (sR_ne (by omega)).trans this.2⟩
    · rw [e6]; exact z5.2.1 i hi
    · simp only [List.mem_cons] at hq
      rcases hq with rfl | rfl | rfl | rfl | hq
      · rw [e6]; show (sR N5 (a + k) _).2.2 (a + k) 0 = some (a + (k + 1)); rw [sR_at]; rfl
      · rw [e6]; show (sR N5 (a + k) _).2.2 (a + k) 1 = some (a + (k + 2)); rw [sR_at]; rfl
      · rw [e6]; show (sR N5 (a + k) _).2.2 (a + k) 2 = some (a + (k + 3)); rw [sR_at]; rfl
      · rw [e6]; show (sR N5 (a + k) _).2.2 (a + k) 3 = some (a + (k + 4)); rw [sR_at]; rfl
      · have hne : a + q.1 ≠ a + k := by have := hP q hq; omega
        rw [e6]; exact (congrFun (sR_ne hne) _).trans (z5.2.2 q hq)
  have kF := kk N6 zF
  clear kk zF z5 z1
  obtain ⟨hd, rfl⟩ := hd
  intro p e R s m args below meth c H locs cells slots ls Z9 hC9 hH hB hlv hK
  refine W.size hC9 hH (fun hsz => ?_)
  have hsz := hsz rfl
  rw [hlen] at hsz
  have hb1 := hB.2.2.1
  have hb2 := hB.2.2.2
  dsimp only at hb1 hb2
  have hcl1 : (Cond.classLink d.1.cls 15 ("[" ++ (FieldType.array .int).toString)).before args s = true := by rw [hcl]; exact hC9.hts _ wMul
  refine W.multi (N := 4) (K := 6) hC9.hx hC9.hb hC9.hown hcl1 hC9.hsp.ao.1 (hC9.hts _ ac_int) rfl hd rfl (by decide) (by decide) (by decide) (by decide) (by decide) (by decide) (by omega) (by omega) fun cA cI H1 L f1 f2 hs h0 hold hin hL => ?_
  have hcA : cA = G.2.2.1 4 := by
    have h := (hC9.hK.2 4 _ rfl).2
    exact Option.some.inj (f1.symm.trans h)
  have hcI : cI = G.2.2.1 0 := by
    have h := (hC9.hK.2 0 _ rfl).2
    exact Option.some.inj (f2.symm.trans h)
  subst hcA; subst hcI
  have hst : (Value.ref H.size :: st.map (tv G)) = ((.ref (a + k) :: st).map (tv G)) := by
    show _ = Value.ref (G.1 + (a + k)) :: st.map (tv G)
    rw [hsz]
  rw [hst]
  refine kF p e R s m args below meth c H1 L (cells + 5) (slots + 28) ls Z9 hC9 ⟨?_, ?_, fun _ => ?_⟩ ⟨hB.1, hB.2.1, by dsimp only; omega, by dsimp only; omega⟩ hlv hK
  · have hr : ∀ q, q < a + k → N6.1 q = M.1 q ∧ N6.2.1 q = M.2.1 q ∧ N6.2.2 q = M.2.2 q := fun q hq => by
      have n0 : q ≠ a + k := by omega
      have n1 : q ≠ a + (k + 1) := by omega
      have n2 : q ≠ a + (k + 1 + 1) := by omega
      have n3 : q ≠ a + (k + 1 + 1 + 1) := by omega
      have n4 : q ≠ a + (k + 1 + 1 + 1 + 1) := by omega
      rw [e6, e5]
      simp only [nw, sI, sL, sR, if_neg n0, if_neg n1, if_neg n2, if_neg n3, if_neg n4]
      exact ⟨trivial, trivial, trivial⟩
    have hz6 : ∀ i, 1 ≤ i → i < 5 → N6.1 (a + k + i) = fun _ => 0 := fun i h1 h2 => by
      have hi : i = 1 ∨ i = 2 ∨ i = 3 ∨ i = 4 := by omega
      rw [e6, e5]
      rcases hi with rfl | rfl | rfl | rfl <;> (refine funext fun j => ?_) <;> simp [nw, sI, sL, sR, Nat.add_assoc]
    have hp6 : N6.2.2 (a + k) = fun j => if j < 4 then some (a + k + 1 + j) else none := by rw [e6, sR_at]
    have hkey : ∀ q x, q < a + k → eE G N6 q x = eE G M q x := fun q x hq => by
      obtain ⟨r1, r2, r3⟩ := hr q hq
      cases x with
      | inl y => simp only [eE, aE, r1, r2, r3]
      | inr y =>
        simp only [eE]
        refine congrArg (fun f => Sum.inr (y, (fcs y).mapIdx f)) (funext fun j => funext fun t => ?_)
        unfold fE
        rw [r1, r2, r3]
    intro kx q hq
    simp only [wG, List.getElem?_mapIdx, Option.map_eq_some_iff] at hq
    obtain ⟨x, hx, rfl⟩ := hq
    rw [← List.append_assoc] at hx
    by_cases hlt : kx < a + k
    · rw [List.getElem?_append_left (by rw [hlen]; exact hlt)] at hx
      rw [hkey kx x hlt]
      exact (hH.1 kx _ (wG_get hx)).kept (hold _ (by omega))
    · rw [List.getElem?_append_right (by rw [hlen]; omega), hlen] at hx
      have hi : kx - (a + k) < 5 := by
        have := (List.getElem?_eq_some_iff.mp hx).1
        simpa using this
      obtain ⟨i, rfl⟩ : ∃ i, kx = a + k + i := ⟨kx - (a + k), by omega⟩
      rw [show a + k + i - (a + k) = i by omega] at hx hi
      by_cases h0i : i = 0
      · subst h0i
        cases hx
        show H1[G.1 + (a + k + 0)]? = some (vp_cell (G.2.2.1 4) (4, aE G N6 (a + k + 0) 4))
        rw [Nat.add_zero, ← hsz, h0]
        show _ = some (arrV (G.2.2.1 4) 4 (fun j => va_rf (rG G (N6.2.2 (a + k) j))))
        rw [hp6]
        refine congrArg (fun f => some (arrV (G.2.2.1 4) 4 f)) (funext fun j => ?_)
        by_cases hj : j < 4
        · simp only [if_pos hj, rG, Option.map_some, va_rf]
          have hh : H.size + 1 + j = G.1 + (a + k + 1 + j) := by omega
          exact congrArg Value.ref hh
        · simp only [if_neg hj, rG, Option.map_none, va_rf]
      · have hxi : x = .inl (0, 6) := by
          have hi2 : i = 1 ∨ i = 2 ∨ i = 3 ∨ i = 4 := by omega
          rcases hi2 with rfl | rfl | rfl | rfl <;> (cases hx; rfl)
        subst hxi
        show H1[G.1 + (a + k + i)]? = some (vp_cell (G.2.2.1 0) (6, aE G N6 (a + k + i) 0))
        have h9 := hin (i - 1) (by omega)
        rw [show G.1 + (a + k + i) = H.size + 1 + (i - 1) by omega, h9]
        show _ = some (arrV (G.2.2.1 0) 6 (fun j => .int (N6.1 (a + k + i) j)))
        rw [hz6 i (by omega) hi]
  · exact ⟨by have := hH.2.1.1; omega, fun q h1 h2 => (hold q (by have := hH.2.1.1; omega)).trans (hH.2.1.2.1 q h1 h2), fun x hx => (hL x hx).elim (hH.2.1.2.2 x) (fun h => by rw [h]; show G.1 ≤ _; omega)⟩
  · have := hH.2.2 rfl
    simp only [List.length_append, List.length_cons, List.length_nil] at this ⊢
    omega
end ZRQ
