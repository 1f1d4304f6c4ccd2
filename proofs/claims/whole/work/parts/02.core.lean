def TB : List Cond := lw_tbl.filter goodWord
theorem TBm {w : Cond} {i : Nat} (h : lw_tbl[i]? = some w) (g : goodWord w = true) : w ∈ TB := List.mem_filter.mpr ⟨List.mem_of_getElem? h, g⟩
theorem TB_in {w : Cond} (h : w ∈ TB) : w ∈ lw_tbl := (List.mem_filter.mp h).1
theorem TB_good {ws : List Cond} (h : ∀ w ∈ ws, w ∈ TB) : GoodIn TB ws := fun w hw => ⟨h w hw, good_of_word (List.mem_filter.mp (h w hw)).2⟩

def RXf : Nat → String := fun k => match k with
  | 0 => RX0
  | 1 => RX1
  | 2 => RX2
  | 3 => RX3
  | 4 => RX4
  | 5 => RX5
  | 6 => RX6
  | 7 => RX7
  | 8 => RX8
  | 9 => RX9
  | 10 => RX10
  | 11 => RX11
  | _ => RX12
def TXf : Nat → u_T := fun k => match k with
  | 0 => TX0
  | 1 => TX1
  | 2 => TX2
  | 3 => TX3
  | 4 => TX4
  | 5 => TX5
  | 6 => TX6
  | 7 => TX7
  | 8 => TX8
  | 9 => TX9
  | 10 => TX10
  | 11 => TX11
  | _ => TX12
def NXf : Nat → Nat := fun k => match k with
  | 0 => 6
  | 1 => 4
  | 2 => 3
  | 3 => 9
  | 4 => 7
  | 5 => 3
  | 6 => 7
  | 7 => 18
  | 8 => 8
  | 9 => 18
  | 10 => 3
  | 11 => 18
  | _ => 78
def tyXf : Nat → Nat → FieldType := fun k => match k with
  | 0 => tyX0
  | 1 => tyX1
  | 2 => tyX2
  | 3 => tyX3
  | 4 => tyX4
  | 5 => tyX5
  | 6 => tyX6
  | 7 => tyX7
  | 8 => tyX8
  | 9 => tyX9
  | 10 => tyX10
  | 11 => tyX11
  | _ => tyX12
def fcs : Nat → List Nat := fun k => match k with
  | 0 => [0, 2, 2, 2, 2, 2]
  | 1 => [0, 2, 2, 2]
  | 2 => [0, 2, 2]
  | 3 => [2, 2, 2, 2, 0, 0, 0, 0, 0]
  | 4 => [0, 0, 2, 2, 2, 2, 2]
  | 5 => [0, 2, 2]
  | 6 => [0, 0, 2, 2, 2, 0, 0]
  | 7 => [0, 0, 0, 0, 0, 0, 0, 0, 0, 2, 2, 2, 2, 2, 2, 2, 2, 2]
  | 8 => [0, 0, 0, 0, 2, 0, 0, 2]
  | 9 => [2, 2, 2, 2, 0, 2, 2, 0, 2, 2, 2, 2, 2, 2, 0, 0, 0, 0]
  | 10 => [2, 2, 2]
  | 11 => [2, 0, 2, 2, 2, 2, 2, 2, 0, 2, 2, 2, 2, 2, 2, 2, 2, 0]
  | _ => [0, 2, 0, 2, 2, 2, 2, 2, 2, 2, 2, 2, 2, 2, 2, 2, 2, 2, 2, 2, 2, 0, 0, 0, 0, 0, 0, 0, 0, 0, 0, 0, 0, 0, 0, 2, 2, 2, 2, 2, 2, 2, 2, 2, 2, 2, 2, 2, 2, 2, 0, 0, 2, 2, 0, 0, 0, 0, 0, 0, 0, 0, 0, 2, 2, 2, 0, 2, 0, 0, 0, 0, 2, 2, 2, 2, 2, 2]

abbrev Gx : Type := Nat × va_G × (Nat → ClassId) × (UInt32 → Nat) × Nat × (Nat → Int32)
abbrev Mm : Type := (Nat → Nat → Int32) × (Nat → Nat → Int64) × (Nat → Nat → Option Nat)
abbrev Ly : Type := List ((Nat × Nat) ⊕ Nat)
abbrev Md : Type := MethodName × ByteArray × Nat × Option FieldType
abbrev Bd : Type := Nat × Nat × Nat
abbrev Qt : Type := Option Value → Ly → Mm → Prop
def sI (M : Mm) (k : Nat) (f : Nat → Int32) : Mm := (fun a => if a = k then f else M.1 a, M.2.1, M.2.2)
def sL (M : Mm) (k : Nat) (f : Nat → Int64) : Mm := (M.1, fun a => if a = k then f else M.2.1 a, M.2.2)
def sR (M : Mm) (k : Nat) (f : Nat → Option Nat) : Mm := (M.1, M.2.1, fun a => if a = k then f else M.2.2 a)
/-- a fresh row -/
def nw (M : Mm) (k : Nat) : Mm := sI (sL (sR M k (fun _ => none)) k (fun _ => 0)) k (fun _ => 0)
def tv (G : Gx) (v : Value) : Value := match v with
  | .ref k => .ref (G.1 + k)
  | .float x => .ref (G.2.2.2.1 x)
  | .int x => .int x
  | .long x => .long x
  | .double x => .double x
  | .null => .null
  | v => v
def rG (G : Gx) (r : Option Nat) : Option Nat := r.map (fun k => G.1 + k)
theorem tv_rf (G : Gx) (r : Option Nat) : tv G (va_rf r) = va_rf (rG G r) := by cases r <;> rfl
def fE (G : Gx) (M : Mm) (k t j : Nat) : Value := match t with
  | 0 => .int (M.1 k j)
  | 1 => .long (M.2.1 k j)
  | _ => va_rf (rG G (M.2.2 k j))
def aE (G : Gx) (M : Mm) (k tc : Nat) : (Nat → Int32) ⊕ (Nat → Int64) ⊕ (Nat → UInt32) ⊕ (Nat → UInt64) ⊕ (Nat → Option Nat) :=
  if tc = 3 then .inr (.inl (M.2.1 k)) else if 4 ≤ tc then .inr (.inr (.inr (.inr (fun j => rG G (M.2.2 k j))))) else .inl (M.1 k)
def eE (G : Gx) (M : Mm) (k : Nat) (e : (Nat × Nat) ⊕ Nat) : va_E := match e with
  | .inl a => .inl (G.2.2.1 a.1, a.2, aE G M k a.1)
  | .inr ci => .inr (ci, (fcs ci).mapIdx (fun j t => fE G M k t j))
def wG (G : Gx) (ly : Ly) (M : Mm) : va_W := ly.mapIdx (fun k e => (G.1 + k, eE G M k e))
theorem wG_get {G : Gx} {ly : Ly} {M : Mm} {k : Nat} {e : (Nat × Nat) ⊕ Nat} (h : ly[k]? = some e) : (wG G ly M)[k]? = some (G.1 + k, eE G M k e) := by
  simp [wG, List.getElem?_mapIdx, h]
theorem wG_len (G : Gx) (ly : Ly) (M : Mm) : (wG G ly M).length = ly.length := by simp [wG]
def GA (G : Gx) : Nat → Prop := fun q => G.1 ≤ q
theorem wG_D (G : Gx) (ly : Ly) (M : Mm) : va_D (GA G) (wG G ly M) := by
  have key : ∀ (k : Nat) (q : Nat × va_E), (wG G ly M)[k]? = some q → q.1 = G.1 + k := by
    intro k q h
    simp only [wG, List.getElem?_mapIdx, Option.map_eq_some_iff] at h
    obtain ⟨a, -, rfl⟩ := h
    rfl
  refine ⟨fun i j p q hi hj h => ?_, fun k q h => ?_⟩
  · have h1 := key i p hi
    have h2 := key j q hj
    omega
  · rw [GA, key k q h]
    omega
/-- two memories, alike but at a row -/
def Mal (M M' : Mm) (k : Nat) : Prop := ∀ a : Nat, a ≠ k → M'.1 a = M.1 a ∧ M'.2.1 a = M.2.1 a ∧ M'.2.2 a = M.2.2 a
theorem eE_al {G : Gx} {M M' : Mm} {k a : Nat} (h : Mal M M' k) (ha : a ≠ k) (e : (Nat × Nat) ⊕ Nat) : eE G M' a e = eE G M a e := by
  obtain ⟨h1, h2, h3⟩ := h a ha
  cases e with
  | inl x => simp only [eE, aE, h1, h2, h3]
  | inr ci => simp only [eE, fE, h1, h2, h3]
theorem wG_set {G : Gx} {ly : Ly} {M M' : Mm} {k : Nat} {e : (Nat × Nat) ⊕ Nat} (hl : ly[k]? = some e) (h : Mal M M' k) : (wG G ly M).set k (G.1 + k, eE G M' k e) = wG G ly M' := by
  refine List.ext_getElem? fun j => ?_
  by_cases hj : j = k
  · subst hj
    have hlt : j < (wG G ly M).length := by rw [wG_len]; exact (List.getElem?_eq_some_iff.mp hl).1
    rw [List.getElem?_set_self hlt, wG_get hl]
  · rw [List.getElem?_set_ne (fun q => hj q.symm)]
    simp only [wG, List.getElem?_mapIdx]
    cases ly[j]? with
    | none => rfl
    | some x => simp only [Option.map_some, eE_al h hj]
theorem wG_app {G : Gx} {ly : Ly} {M M' : Mm} {e : (Nat × Nat) ⊕ Nat} (h : Mal M M' ly.length) : wG G (ly ++ [e]) M' = wG G ly M ++ [(G.1 + ly.length, eE G M' ly.length e)] := by
  refine List.ext_getElem? fun j => ?_
  rcases Nat.lt_trichotomy j ly.length with hj | hj | hj
  · rw [List.getElem?_append_left (by rw [wG_len]; exact hj)]
    simp only [wG, List.getElem?_mapIdx, List.getElem?_append_left hj]
    cases ly[j]? with
    | none => rfl
    | some x => simp only [Option.map_some, eE_al h (Nat.ne_of_lt hj)]
  · subst hj
    rw [List.getElem?_append_right (by rw [wG_len]; exact Nat.le_refl _), wG_len]
    simp [wG, List.getElem?_mapIdx]
  · rw [List.getElem?_eq_none (by simp only [wG_len, List.length_append, List.length_cons, List.length_nil]; omega), List.getElem?_eq_none (by simp only [wG_len, List.length_append, List.length_cons, List.length_nil]; omega)]
theorem sI_al (M : Mm) (k : Nat) (f : Nat → Int32) : Mal M (sI M k f) k := fun a ha => ⟨if_neg ha, rfl, rfl⟩
theorem sL_al (M : Mm) (k : Nat) (f : Nat → Int64) : Mal M (sL M k f) k := fun a ha => ⟨rfl, if_neg ha, rfl⟩
theorem sR_al (M : Mm) (k : Nat) (f : Nat → Option Nat) : Mal M (sR M k f) k := fun a ha => ⟨rfl, rfl, if_neg ha⟩
theorem nw_al (M : Mm) (k : Nat) : Mal M (nw M k) k := fun a ha => ⟨if_neg ha, if_neg ha, if_neg ha⟩
theorem eE_fI {G : Gx} {M : Mm} {k ci j : Nat} {x : Int32} (h : (fcs ci)[j]? = some 0) : eE G (sI M k (upd (M.1 k) j x)) k (.inr ci) = .inr (ci, ((fcs ci).mapIdx (fun j t => fE G M k t j)).set j (.int x)) := by
  show Sum.inr _ = Sum.inr _
  congr 2
  refine List.ext_getElem? fun i => ?_
  have hlt := (List.getElem?_eq_some_iff.mp h).1
  by_cases hi : i = j
  · subst hi
    rw [List.getElem?_set_self (by simpa using hlt), List.getElem?_mapIdx, h]
    simp [fE, sI, upd]
  · rw [List.getElem?_set_ne (fun q => hi q.symm), List.getElem?_mapIdx, List.getElem?_mapIdx]
    cases (fcs ci)[i]? with
    | none => rfl
    | some t => simp [fE, sI, upd, hi]
theorem eE_fL {G : Gx} {M : Mm} {k ci j : Nat} {x : Int64} (h : (fcs ci)[j]? = some 1) : eE G (sL M k (vp_updL (M.2.1 k) j x)) k (.inr ci) = .inr (ci, ((fcs ci).mapIdx (fun j t => fE G M k t j)).set j (.long x)) := by
  show Sum.inr _ = Sum.inr _
  congr 2
  refine List.ext_getElem? fun i => ?_
  have hlt := (List.getElem?_eq_some_iff.mp h).1
  by_cases hi : i = j
  · subst hi
    rw [List.getElem?_set_self (by simpa using hlt), List.getElem?_mapIdx, h]
    simp [fE, sL, vp_updL]
  · rw [List.getElem?_set_ne (fun q => hi q.symm), List.getElem?_mapIdx, List.getElem?_mapIdx]
    cases (fcs ci)[i]? with
    | none => rfl
    | some t => simp [fE, sL, vp_updL, hi]
theorem eE_fR {G : Gx} {M : Mm} {k ci j : Nat} {x : Option Nat} (h : (fcs ci)[j]? = some 2) : eE G (sR M k (va_up (M.2.2 k) j x)) k (.inr ci) = .inr (ci, ((fcs ci).mapIdx (fun j t => fE G M k t j)).set j (va_rf (rG G x))) := by
  show Sum.inr _ = Sum.inr _
  congr 2
  refine List.ext_getElem? fun i => ?_
  have hlt := (List.getElem?_eq_some_iff.mp h).1
  by_cases hi : i = j
  · subst hi
    rw [List.getElem?_set_self (by simpa using hlt), List.getElem?_mapIdx, h]
    simp [fE, sR, va_up]
  · rw [List.getElem?_set_ne (fun q => hi q.symm), List.getElem?_mapIdx, List.getElem?_mapIdx]
    cases (fcs ci)[i]? with
    | none => rfl
    | some t => simp [fE, sR, va_up, hi]
/-- the array classes: int, byte, boolean, long, int[], Law -/
def tyG (G : Gx) : List (ClassId × FieldType) := [(G.2.2.1 0, .int), (G.2.2.1 1, .byte), (G.2.2.1 2, .boolean), (G.2.2.1 3, .long), (G.2.2.1 4, .array .int), (G.2.2.1 5, .object "WalkingBridge$Law")]


def clq (ci : Nat) : Prop := vwCl[ci]? = some (RXf ci, TXf ci, NXf ci) ∧ (∀ w ∈ u_ws (RXf ci) (TXf ci) (NXf ci), w ∈ TB) ∧ (∀ k, k < NXf ci → parseFieldDescriptor (TXf ci k).2.2.1 = some (tyXf ci k)) ∧ (∀ a, a < NXf ci → ∀ b, b < NXf ci → a ≠ b → (TXf ci a).2.1 ≠ (TXf ci b).2.1) ∧ (fcs ci).length = NXf ci
theorem inTB0 : ∀ w ∈ u_ws RX0 TX0 6, w ∈ TB := by decide +kernel
theorem clq0 : clq 0 := ⟨rfl, inTB0, tyX0_ok, nmX0, rfl⟩
theorem inTB1 : ∀ w ∈ u_ws RX1 TX1 4, w ∈ TB := by decide +kernel
theorem clq1 : clq 1 := ⟨rfl, inTB1, tyX1_ok, nmX1, rfl⟩
theorem inTB2 : ∀ w ∈ u_ws RX2 TX2 3, w ∈ TB := by decide +kernel
theorem clq2 : clq 2 := ⟨rfl, inTB2, tyX2_ok, nmX2, rfl⟩
theorem inTB3 : ∀ w ∈ u_ws RX3 TX3 9, w ∈ TB := by decide +kernel
theorem clq3 : clq 3 := ⟨rfl, inTB3, tyX3_ok, nmX3, rfl⟩
theorem inTB4 : ∀ w ∈ u_ws RX4 TX4 7, w ∈ TB := by decide +kernel
theorem clq4 : clq 4 := ⟨rfl, inTB4, tyX4_ok, nmX4, rfl⟩
theorem inTB5 : ∀ w ∈ u_ws RX5 TX5 3, w ∈ TB := by decide +kernel
theorem clq5 : clq 5 := ⟨rfl, inTB5, tyX5_ok, nmX5, rfl⟩
theorem inTB6 : ∀ w ∈ u_ws RX6 TX6 7, w ∈ TB := by decide +kernel
theorem clq6 : clq 6 := ⟨rfl, inTB6, tyX6_ok, nmX6, rfl⟩
theorem inTB7 : ∀ w ∈ u_ws RX7 TX7 18, w ∈ TB := by decide +kernel
theorem clq7 : clq 7 := ⟨rfl, inTB7, tyX7_ok, nmX7, rfl⟩
theorem inTB8 : ∀ w ∈ u_ws RX8 TX8 8, w ∈ TB := by decide +kernel
theorem clq8 : clq 8 := ⟨rfl, inTB8, tyX8_ok, nmX8, rfl⟩
theorem inTB9 : ∀ w ∈ u_ws RX9 TX9 18, w ∈ TB := by decide +kernel
theorem clq9 : clq 9 := ⟨rfl, inTB9, tyX9_ok, nmX9, rfl⟩
theorem inTB10 : ∀ w ∈ u_ws RX10 TX10 3, w ∈ TB := by decide +kernel
theorem clq10 : clq 10 := ⟨rfl, inTB10, tyX10_ok, nmX10, rfl⟩
theorem inTB11 : ∀ w ∈ u_ws RX11 TX11 18, w ∈ TB := by decide +kernel
theorem clq11 : clq 11 := ⟨rfl, inTB11, tyX11_ok, nmX11, rfl⟩
theorem inTB12 : ∀ w ∈ u_ws RX12 TX12 78, w ∈ TB := by decide +kernel
theorem clq12 : clq 12 := ⟨rfl, inTB12, tyX12_ok, nmX12, rfl⟩
theorem clq_all : ∀ ci : Nat, ci < 13 → clq ci
  | 0, _ => clq0
  | 1, _ => clq1
  | 2, _ => clq2
  | 3, _ => clq3
  | 4, _ => clq4
  | 5, _ => clq5
  | 6, _ => clq6
  | 7, _ => clq7
  | 8, _ => clq8
  | 9, _ => clq9
  | 10, _ => clq10
  | 11, _ => clq11
  | 12, _ => clq12
  | n + 13, h => absurd h (by omega)
