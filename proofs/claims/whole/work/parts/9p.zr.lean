/-- since M0: nothing below a has changed; the n cells from a on hold Z, and the pointers P (all told from a on) -/
def Zr (M0 M : Mm) (a n : Nat) (Z : Nat → Nat → Int32) (P : List (Nat × Nat × Nat)) : Prop := (∀ k, k < a → M.1 k = M0.1 k ∧ M.2.2 k = M0.2.2 k) ∧ (∀ i, i < n → M.1 (a + i) = Z i) ∧ ∀ q ∈ P, M.2.2 (a + q.1) q.2.1 = some (a + q.2.2)
def z0 : Nat → Nat → Int32 := fun _ _ => 0
def zj (m n : Nat) (Z Y : Nat → Nat → Int32) : Nat → Nat → Int32 := fun i => if i < m then Z i else if i < m + n then Y (i - m) else fun _ => 0
def shP (m : Nat) (P : List (Nat × Nat × Nat)) : List (Nat × Nat × Nat) := P.map (fun q => (m + q.1, q.2.1, m + q.2.2))
theorem Zr.fresh {M0 M : Mm} {a n : Nat} {Z : Nat → Nat → Int32} {P : List (Nat × Nat × Nat)} (h : Zr M0 M a n Z P) (hz : Z n = fun _ => 0) (hP : ∀ q ∈ P, q.1 < n) : Zr M0 (nw M (a + n)) a (n + 1) Z P := by
  refine ⟨fun k hk => ?_, fun i hi => ?_, fun q hq => ?_⟩
  · have hne : k ≠ a + n := by omega
    have := h.1 k hk
    simp only [nw, sI, sL, sR, if_neg hne]
    exact this
  · by_cases e : i = n
    · subst e
      rw [hz]
      simp [nw, sI]
    · have hne : a + i ≠ a + n := by omega
      simp only [nw, sI, sL, sR, if_neg hne]
      exact h.2.1 i (by omega)
  · have hne : a + q.1 ≠ a + n := by have := hP q hq; omega
    simp only [nw, sI, sL, sR, if_neg hne]
    exact h.2.2 q hq
theorem Zr.pt {M0 M : Mm} {a n i j r : Nat} {Z : Nat → Nat → Int32} {P : List (Nat × Nat × Nat)} (h : Zr M0 M a n Z P) (hP : ∀ q ∈ P, ¬ (q.1 = i ∧ q.2.1 = j)) : Zr M0 (sR M (a + i) (va_up (M.2.2 (a + i)) j (some (a + r)))) a n Z ((i, j, r) :: P) := by
  refine ⟨fun k hk => ?_, h.2.1, fun q hq => ?_⟩
  · have hne : k ≠ a + i := by omega
    have := h.1 k hk
    exact ⟨this.1, (sR_ne hne).trans this.2⟩
  · rcases List.mem_cons.mp hq with rfl | hq2
    · show (if a + i = a + i then _ else _ : Nat → Option Nat) j = _
      rw [if_pos rfl]
      exact upR_s
    · have h3 := h.2.2 q hq2
      by_cases e : q.1 = i
      · have hj : q.2.1 ≠ j := fun e2 => hP q hq2 ⟨e, e2⟩
        show (if a + q.1 = a + i then _ else _ : Nat → Option Nat) q.2.1 = _
        rw [if_pos (by rw [e]), upR_n hj, ← e]
        exact h3
      · exact (congrFun (sR_ne (show a + q.1 ≠ a + i by omega)) q.2.1).trans h3
theorem Zr.int {M0 M : Mm} {a n i : Nat} {f : Nat → Int32} {Z Y : Nat → Nat → Int32} {P : List (Nat × Nat × Nat)} (h : Zr M0 M a n Z P) (h1 : Y i = f) (h2 : ∀ k, k < n → k ≠ i → Y k = Z k) : Zr M0 (sI M (a + i) f) a n Y P := by
  refine ⟨fun k hk => ?_, fun k hk => ?_, h.2.2⟩
  · have hne : k ≠ a + i := by omega
    have := h.1 k hk
    exact ⟨(sI_ne hne).trans this.1, this.2⟩
  · have h3 := h.2.1 k hk
    by_cases e : k = i
    · subst e; rw [h1]; exact sI_at _ _ _
    · rw [h2 k hk e]; exact (sI_ne (show a + k ≠ a + i by omega)).trans h3
theorem Zr.join {M0 M K : Mm} {a m n : Nat} {Z Y : Nat → Nat → Int32} {P R : List (Nat × Nat × Nat)} (h : Zr M0 M a (m + 1) Z P) (g : Zr M K (a + m) n Y R) (hP : ∀ q ∈ P, q.1 < m) : Zr M0 K a (m + n) (zj m n Z Y) (shP m R ++ P) := by
  refine ⟨fun k hk => ?_, fun i hi => ?_, fun q hq => ?_⟩
  · have h1 := h.1 k hk
    have g1 := g.1 k (by omega)
    exact ⟨g1.1.trans h1.1, g1.2.trans h1.2⟩
  · unfold zj
    by_cases e : i < m
    · rw [if_pos e]
      have g1 := g.1 (a + i) (by omega)
      have h1 := h.2.1 i (by omega)
      exact g1.1.trans h1
    · rw [if_neg e, if_pos hi]
      have g1 := g.2.1 (i - m) (by omega)
      rw [show a + m + (i - m) = a + i by omega] at g1
      exact g1
  · rcases List.mem_append.mp hq with h1 | h1
    · obtain ⟨x, hx, rfl⟩ := List.mem_map.mp h1
      have g1 := g.2.2 x hx
      show K.2.2 (a + (m + x.1)) x.2.1 = some (a + (m + x.2.2))
      rw [← Nat.add_assoc, ← Nat.add_assoc]
      exact g1
    · have g1 := (g.1 (a + q.1) (by have := hP q h1; omega)).2
      rw [g1]
      exact h.2.2 q h1
theorem Zr.zero {M0 M : Mm} {a n m k : Nat} {P : List (Nat × Nat × Nat)} (h : Zr M0 M a n (zj m k z0 z0) P) : Zr M0 M a n z0 P := by
  have e : zj m k z0 z0 = z0 := funext fun i => by
    unfold zj z0
    by_cases h1 : i < m
    · rw [if_pos h1]
    · rw [if_neg h1]; by_cases h2 : i < m + k
      · rw [if_pos h2]
      · rw [if_neg h2]
  rw [e] at h; exact h
theorem Zr.eqv {M0 M : Mm} {a n : Nat} {Z Y : Nat → Nat → Int32} {P : List (Nat × Nat × Nat)} (h : Zr M0 M a n Z P) (e : ∀ i, i < n → Z i = Y i) : Zr M0 M a n Y P := ⟨h.1, fun i hi => by rw [← e i hi]; exact h.2.1 i hi, h.2.2⟩
theorem Zr.rf {M : Mm} {a : Nat} (h1 : M.1 a = fun _ => 0) : Zr M M a 1 z0 [] := by
  refine ⟨fun k hk => ⟨rfl, rfl⟩, fun i hi => ?_, fun q hq => absurd hq List.not_mem_nil⟩
  obtain rfl : i = 0 := by omega
  exact h1
theorem ly_at {l0 C : Ly} {a i : Nat} {e : (Nat × Nat) ⊕ Nat} (hl : l0.length = a) (h : C[i]? = some e) : (l0 ++ C)[a + i]? = some e := by
  rw [List.getElem?_append_right (by omega), show a + i - l0.length = i by omega]; exact h
theorem ly_ln {l0 C : Ly} {a n : Nat} (hl : l0.length = a) (hC : C.length = n) : (l0 ++ C).length = a + n := by rw [List.length_append, hl, hC]
section ZRR
variable {G : Gx} {l : Launch} {d : Md} {b : Bq} {pc n : Nat} {lv : List (Option Value)} {st : List Value} {M0 M : Mm} {Q : Qt} {l0 C C2 : Ly} {a k dep ca sa : Nat} {Z : Nat → Nat → Int32} {P : List (Nat × Nat × Nat)}
theorem Rn.newZ {idx ci : Nat} (hd : Dc d.2.1 pc n (.new idx) 3) (hw : NW d.1.cls idx ci) (hl : l0.length = a) (hC : C.length = k) (hC2 : C ++ [.inr ci] = C2) (hZ : Zr M0 M a k Z P) (hz : Z k = fun _ => 0) (hP : ∀ q ∈ P, q.1 < k) (kk : ∀ N : Mm, Zr M0 N a (k + 1) Z P → N.1 (a + k) = (fun _ => 0) → Rn G l d (dep, ca, sa, true) n lv (.ref (a + k) :: st) (l0 ++ C2) N Q) : Rn G l d (dep, ca + 1, sa + NXf ci, true) pc lv st (l0 ++ C) M Q := by
  subst hC2
  refine Rn.new hd hw ?_
  rw [ly_ln hl hC, List.append_assoc]
  exact kk _ (hZ.fresh hz hP) (by simp [nw, sI])

theorem Rn.newaIZ {N0 : Nat} {x : Int32} (hd : Dc d.2.1 pc n (.newarray .int) 2) (hN : x = nI N0) (hlt : N0 ≤ 60000) (hl : l0.length = a) (hC : C.length = k) (hC2 : C ++ [.inl (0, N0)] = C2) (hZ : Zr M0 M a k Z P) (hz : Z k = fun _ => 0) (hP : ∀ q ∈ P, q.1 < k) (kk : ∀ N : Mm, Zr M0 N a (k + 1) Z P → Rn G l d (dep, ca, sa, true) n lv (.ref (a + k) :: st) (l0 ++ C2) N Q) : Rn G l d (dep, ca + 1, sa + N0, true) pc lv (.int x :: st) (l0 ++ C) M Q := by
  subst hC2
  refine Rn.newaI hd ac_int hN hlt ?_
  rw [ly_ln hl hC, List.append_assoc]
  exact kk _ (hZ.fresh hz hP)
theorem Rn.newaBZ {N0 : Nat} {x : Int32} (hd : Dc d.2.1 pc n (.newarray .byte) 2) (hN : x = nI N0) (hlt : N0 ≤ 60000) (hl : l0.length = a) (hC : C.length = k) (hC2 : C ++ [.inl (1, N0)] = C2) (hZ : Zr M0 M a k Z P) (hz : Z k = fun _ => 0) (hP : ∀ q ∈ P, q.1 < k) (kk : ∀ N : Mm, Zr M0 N a (k + 1) Z P → Rn G l d (dep, ca, sa, true) n lv (.ref (a + k) :: st) (l0 ++ C2) N Q) : Rn G l d (dep, ca + 1, sa + N0, true) pc lv (.int x :: st) (l0 ++ C) M Q := by
  subst hC2
  refine Rn.newaB hd ac_byte hN hlt ?_
  rw [ly_ln hl hC, List.append_assoc]
  exact kk _ (hZ.fresh hz hP)
theorem Rn.newaZZ {N0 : Nat} {x : Int32} (hd : Dc d.2.1 pc n (.newarray .boolean) 2) (hN : x = nI N0) (hlt : N0 ≤ 60000) (hl : l0.length = a) (hC : C.length = k) (hC2 : C ++ [.inl (2, N0)] = C2) (hZ : Zr M0 M a k Z P) (hz : Z k = fun _ => 0) (hP : ∀ q ∈ P, q.1 < k) (kk : ∀ N : Mm, Zr M0 N a (k + 1) Z P → Rn G l d (dep, ca, sa, true) n lv (.ref (a + k) :: st) (l0 ++ C2) N Q) : Rn G l d (dep, ca + 1, sa + N0, true) pc lv (.int x :: st) (l0 ++ C) M Q := by
  subst hC2
  refine Rn.newaZ hd ac_boolean hN hlt ?_
  rw [ly_ln hl hC, List.append_assoc]
  exact kk _ (hZ.fresh hz hP)
theorem Rn.newaJZ {N0 : Nat} {x : Int32} (hd : Dc d.2.1 pc n (.newarray .long) 2) (hN : x = nI N0) (hlt : N0 ≤ 60000) (hl : l0.length = a) (hC : C.length = k) (hC2 : C ++ [.inl (3, N0)] = C2) (hZ : Zr M0 M a k Z P) (hz : Z k = fun _ => 0) (hP : ∀ q ∈ P, q.1 < k) (kk : ∀ N : Mm, Zr M0 N a (k + 1) Z P → Rn G l d (dep, ca, sa, true) n lv (.ref (a + k) :: st) (l0 ++ C2) N Q) : Rn G l d (dep, ca + 1, sa + N0, true) pc lv (.int x :: st) (l0 ++ C) M Q := by
  subst hC2
  refine Rn.newaJ hd ac_long hN hlt ?_
  rw [ly_ln hl hC, List.append_assoc]
  exact kk _ (hZ.fresh hz hP)
theorem Rn.anewZ {N0 : Nat} {x : Int32} (hd : Dc d.2.1 pc n (.anewarray 40) 3) (hcl : d.1.cls = RX7) (hN : x = nI N0) (hlt : N0 ≤ 100) (hl : l0.length = a) (hC : C.length = k) (hC2 : C ++ [.inl (5, N0)] = C2) (hZ : Zr M0 M a k Z P) (hz : Z k = fun _ => 0) (hP : ∀ q ∈ P, q.1 < k) (kk : ∀ N : Mm, Zr M0 N a (k + 1) Z P → Rn G l d (dep, ca, sa, true) n lv (.ref (a + k) :: st) (l0 ++ C2) N Q) : Rn G l d (dep, ca + 1, sa + N0, true) pc lv (.int x :: st) (l0 ++ C) M Q := by
  subst hC2
  refine Rn.anewL hd hcl hN hlt ?_
  rw [ly_ln hl hC, List.append_assoc]
  exact kk _ (hZ.fresh hz hP)
theorem Rn.putZR {idx ci i j r : Nat} (hd : Dc d.2.1 pc n (.putfield idx) 3) (hf : FL d.1.cls idx ci j) (hk : (fcs ci)[j]? = some 2) (hfin : (TXf ci j).2.2.2 = true) (hin : d.1.name = "<init>") (hdc : RXf ci = d.1.cls) (hty : (tyXf ci j).toString.length ≠ 1) (hl : l0.length = a) (ho : C[i]? = some (.inr ci)) (hZ : Zr M0 M a k Z P) (hP : ∀ q ∈ P, ¬ (q.1 = i ∧ q.2.1 = j)) (kk : ∀ N : Mm, Zr M0 N a k Z ((i, j, r) :: P) → Rn G l d b n lv st (l0 ++ C) N Q) : Rn G l d b pc lv (.ref (a + r) :: .ref (a + i) :: st) (l0 ++ C) M Q :=
  Rn.putRF hd hf hk hfin hin hdc hty (ly_at hl ho) (kk _ (hZ.pt hP))
theorem Rn.putZr {idx ci i j r : Nat} (hd : Dc d.2.1 pc n (.putfield idx) 3) (hf : FL d.1.cls idx ci j) (hk : (fcs ci)[j]? = some 2) (hfin : (TXf ci j).2.2.2 = false) (hty : (tyXf ci j).toString.length ≠ 1) (hl : l0.length = a) (ho : C[i]? = some (.inr ci)) (hZ : Zr M0 M a k Z P) (hP : ∀ q ∈ P, ¬ (q.1 = i ∧ q.2.1 = j)) (kk : ∀ N : Mm, Zr M0 N a k Z ((i, j, r) :: P) → Rn G l d b n lv st (l0 ++ C) N Q) : Rn G l d b pc lv (.ref (a + r) :: .ref (a + i) :: st) (l0 ++ C) M Q :=
  Rn.putR hd hf hk hfin hty (ly_at hl ho) (kk _ (hZ.pt hP))
theorem Rn.getZR {idx ci i j r : Nat} (hd : Dc d.2.1 pc n (.getfield idx) 3) (hf : FL d.1.cls idx ci j) (hk : (fcs ci)[j]? = some 2) (hl : l0.length = a) (ho : C[i]? = some (.inr ci)) (hZ : Zr M0 M a k Z P) (hP : (i, j, r) ∈ P) (kk : Rn G l d b n lv (.ref (a + r) :: st) (l0 ++ C) M Q) : Rn G l d b pc lv (.ref (a + i) :: st) (l0 ++ C) M Q :=
  Rn.getR hd hf hk (ly_at hl ho) (hZ.2.2 _ hP) kk
end ZRR
