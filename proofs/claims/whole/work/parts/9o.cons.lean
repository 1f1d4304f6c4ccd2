theorem wMul : Cond.classLink RX7 15 "[[I" ∈ TB := (TB1 (List.mem_of_getElem? (i := 197) rfl) rfl)
theorem wLaw : Cond.classLink RX7 40 "WalkingBridge$Law" ∈ TB := (TB2 (List.mem_of_getElem? (i := 12) rfl) rfl)
theorem aoI_moved {A B : Array Value} {u U : State} (hvm : u.vm.Alike U.vm) (h : (Cond.arrayOver (.array .int)).before A u = true) : (Cond.arrayOver (.array .int)).before B U = true := by
  obtain ⟨comp, c, k, h1, h2, h3, h4, h5⟩ := Cond.arrayOver_specB h
  obtain ⟨k', hk', he⟩ := hvm.2.2 _ _ h3
  have hi : (U.vm.classes.findIdx? fun (x : Class) => match x.kind with | .array component _ => component == comp | _ => false) = some c := by
    rw [← va_idx_bare]
    first | rw [hvm.bare_eq] | rw [← hvm.bare_eq]
    rw [va_idx_bare]
    exact h2
  have hkind : k'.kind = .array comp (.array .int) := by rw [he]; exact h4
  have f1 : U.vm.findClass (FieldType.array .int).toString = some comp := by rw [hvm.findClass]; exact h1
  have f2 : U.vm.findClass ("[" ++ (FieldType.array .int).toString) = some c := by rw [hvm.findClass]; exact h5
  unfold Cond.before Cond.holds
  simp only [Cond.value]
  rw [f1, Option.bind_some]
  refine (congrArg (fun o : Option Nat => (o.bind (fun c => (U.vm.classes[c]?).map fun (k : Class) => match k.kind with | .array _ ty => decide (ty = FieldType.array .int) && decide (U.vm.findClass ("[" ++ (FieldType.array .int).toString) = some c) | _ => false) == some true)) hi).trans ?_
  simp [hk', hkind, f2]
theorem Sp.ao {G : Gx} {s : State} {A : Array Value} (h : Sp G s) : (Cond.arrayOver (.array .int)).before A s = true ∧ (Cond.arrayOver (.object "WalkingBridge$Law")).before A s = true := by
  obtain ⟨s0, h0, hW, hq⟩ := h
  exact ⟨aoI_moved hW.alike (h0.tb (TA1 (List.mem_of_getElem? (i := 198) rfl))), va_AO.use (va_AO.moved hW.alike (va_AO.of (h0.tb (TA2 (List.mem_of_getElem? (i := 31) rfl)))))⟩
section RNC
variable {G : Gx} {l : Launch} {d : Md} {b : Bq} {pc n : Nat} {lv : List (Option Value)} {st : List Value} {ly : Ly} {M : Mm} {Q : Qt}
theorem Rn.anewL {dep ca sa N : Nat} {x : Int32} (hd : Dc d.2.1 pc n (.anewarray 40) 3) (hcl : d.1.cls = RX7) (hN : x = nI N) (hlt : N ≤ 100) (k : Rn G l d (dep, ca, sa, true) n lv (.ref ly.length :: st) (ly ++ [.inl (5, N)]) (nw M ly.length) Q) : Rn G l d (dep, ca + 1, sa + N, true) pc lv (.int x :: st) ly M Q := by
  obtain ⟨hd, rfl⟩ := hd
  subst hN
  intro p e R s m args below meth c H locs cells slots ls Z hC hH hB hl hK
  refine W.size hC hH (fun hz => ?_)
  have hz := hz rfl
  have hb1 := hB.2.2.1
  have hb2 := hB.2.2.2
  dsimp only at hb1 hb2
  have hcl1 : (Cond.classLink d.1.cls 40 "WalkingBridge$Law").before args s = true := by rw [hcl]; exact hC.hts _ wLaw
  have hcN : (nI N).toNatClampNeg = N := nI_clamp (by omega)
  refine W.anew hC.hx hC.hb hC.hown hcl1 hC.hsp.ao.2 rfl hd rfl (nI_pos (by omega)) (by rw [hcN]; omega) (by omega) (by rw [hcN]; omega) fun cA kA comp f1 f2 f3 f4 => ?_
  rw [hcN]
  generalize hH1 : H.push ({ cls := cA, slots := Array.replicate N .null, vm := .none } : Cell) = H1
  have z1 : H1.size = H.size + 1 := by rw [← hH1, Array.size_push]
  have e1 : H1[H.size]? = some (arrV cA N (fun _ => .null)) := by rw [← hH1, Array.getElem?_push_size, ← arrV_new]
  have o1 : ∀ q : Nat, q < H.size → H1[q]? = H[q]? := fun q hq => by rw [← hH1, Array.getElem?_push, if_neg (Nat.ne_of_lt hq)]
  have hcA : cA = G.2.2.1 5 := by
    obtain ⟨_, _, _, _, _, h⟩ := (hC.hK.2 5 _ rfl).2
    exact Option.some.inj (f1.symm.trans h)
  subst hcA
  have hst : (Value.ref H.size :: st.map (tv G)) = ((.ref ly.length :: st).map (tv G)) := by
    show _ = Value.ref (G.1 + ly.length) :: st.map (tv G)
    rw [hz]
  rw [hst]
  refine k p e R s m args below meth c H1 locs (cells + 1) (slots + N) ls Z hC ⟨?_, ?_, fun _ => ?_⟩ ⟨hB.1, hB.2.1, by dsimp only; omega, by dsimp only; omega⟩ hl hK
  · rw [wG_app (nw_al M ly.length)]
    refine (hH.1.kept (fun k x hx => o1 x.1 (by exact (hH.1 k x hx).lt))).app (fun k x hx => ?_)
    have hk0 : k = 0 := by have := (List.getElem?_eq_some_iff.mp hx).1; simp at this; omega
    subst hk0
    cases hx
    show H1[G.1 + ly.length]? = some (vp_cell _ _)
    rw [← hz, e1]
    simp [aE, nw, sI, sL, sR, vp_cell, rG, va_rf]
  · exact ⟨by have := hH.2.1.1; omega, fun q h1 h2 => (o1 q (by have := hH.2.1.1; omega)).trans (hH.2.1.2.1 q h1 h2), hH.2.1.2.2⟩
  · have := hH.2.2 rfl
    simp only [List.length_append, List.length_cons, List.length_nil]
    omega
end RNC
