
/-- the first n of F, then g -/
def pre (n : Nat) (F g : Nat → Int32) : Nat → Int32 := fun j => if j < n then F j else g j
theorem pre_0 (F g : Nat → Int32) : pre 0 F g = g := by funext j; simp [pre]
theorem pre_up (n : Nat) (F g : Nat → Int32) : upd (pre n F g) n (F n) = pre (n + 1) F g := by
  funext j
  by_cases h : j = n
  · subst h; simp [pre, upd]
  · by_cases h2 : j < n
    · simp [pre, upd, h, h2, Nat.lt_succ_of_lt h2]
    · simp [pre, upd, h, h2, show ¬ j < n + 1 by omega]
theorem pre_lt {n j : Nat} {F g : Nat → Int32} (h : j < n) : pre n F g j = F j := if_pos h
theorem pre_ge {n j : Nat} {F g : Nat → Int32} (h : n ≤ j) : pre n F g j = g j := if_neg (Nat.not_lt.mpr h)
theorem pre_pre (n : Nat) (F g h : Nat → Int32) : pre n F (pre n g h) = pre n F h := by funext j; simp only [pre]; split <;> rfl
theorem pre_congr {n : Nat} {F F' g : Nat → Int32} (h : ∀ j, j < n → F j = F' j) : pre n F g = pre n F' g := by
  funext j
  by_cases hj : j < n
  · rw [pre_lt hj, pre_lt hj, h j hj]
  · rw [pre_ge (Nat.le_of_not_lt hj), pre_ge (Nat.le_of_not_lt hj)]
theorem cpy_pre (n : Nat) (F g : Nat → Int32) : va_cpy F g 0 0 n = pre n F g := by
  funext j
  by_cases h : j < n
  · rw [pk_cpy_in (Nat.zero_le j) (by omega), pre_lt h]; congr 1; omega
  · rw [pk_cpy_out (Or.inr (by omega)), pre_ge (Nat.le_of_not_lt h)]
theorem sI_at (M : Mm) (a : Nat) (f : Nat → Int32) : (sI M a f).1 a = f := by simp [sI]
theorem sI_ne {M : Mm} {a b : Nat} {f : Nat → Int32} (h : b ≠ a) : (sI M a f).1 b = M.1 b := by simp [sI, h]
theorem sI_sI (M : Mm) (a : Nat) (f g : Nat → Int32) : sI (sI M a f) a g = sI M a g := by
  unfold sI
  congr 1
  funext x
  by_cases h : x = a <;> simp [h]
theorem sI_self (M : Mm) (a : Nat) : sI M a (M.1 a) = M := by
  have h : (fun x => if x = a then M.1 a else M.1 x) = M.1 := by
    funext x
    by_cases h : x = a <;> simp [h]
  unfold sI
  rw [h]
theorem sI_comm {M : Mm} {a b : Nat} {f g : Nat → Int32} (h : a ≠ b) : sI (sI M a f) b g = sI (sI M b g) a f := by
  unfold sI
  congr 1
  funext x
  by_cases h1 : x = a
  · subst h1; simp [h]
  · by_cases h2 : x = b
    · subst h2; simp [h1]
    · simp [h1, h2]
theorem upd_self (f : Nat → Int32) (k : Nat) : upd f k (f k) = f := by
  funext j
  by_cases h : j = k <;> simp [upd, h]
theorem upd_upd (f : Nat → Int32) (k : Nat) (x y : Int32) : upd (upd f k x) k y = upd f k y := by
  funext j
  by_cases h : j = k <;> simp [upd, h]
theorem le_of_nI1 {i n : Nat} (h : nI n ≤ nI i + 1) (hi : i + 1 < 2 ^ 31) (hn : n < 2 ^ 31) : n ≤ i + 1 := by
  rw [← nI_succ, nI_leI hn hi] at h
  exact h
theorem lt_of_nI1 {i n : Nat} (h : ¬ nI n ≤ nI i + 1) (hi : i + 1 < 2 ^ 31) (hn : n < 2 ^ 31) : i + 1 < n := by
  rw [← nI_succ, nI_leI hn hi] at h
  omega
theorem sI_self2 {M : Mm} {a b : Nat} {f : Nat → Int32} (h : b ≠ a) : sI (sI M a f) b (M.1 b) = sI M a f := by
  have := sI_self (sI M a f) b
  rw [sI_ne h] at this
  exact this
theorem sI_selfN {M : Mm} {a b c : Nat} {f g : Nat → Int32} (h : c ≠ b) (h2 : c ≠ a) : sI (sI (sI M a f) b g) c (M.1 c) = sI (sI M a f) b g := by
  have := sI_self (sI (sI M a f) b g) c
  rw [sI_ne h, sI_ne h2] at this
  exact this
theorem sL_at (M : Mm) (a : Nat) (f : Nat → Int64) : (sL M a f).2.1 a = f := by simp [sL]
theorem sL_ne {M : Mm} {a b : Nat} {f : Nat → Int64} (h : b ≠ a) : (sL M a f).2.1 b = M.2.1 b := by simp [sL, h]
theorem sL_sL (M : Mm) (a : Nat) (f g : Nat → Int64) : sL (sL M a f) a g = sL M a g := by
  unfold sL
  congr 2
  funext x
  by_cases h : x = a <;> simp [h]
theorem sL_self (M : Mm) (a : Nat) : sL M a (M.2.1 a) = M := by
  have h : (fun x => if x = a then M.2.1 a else M.2.1 x) = M.2.1 := by
    funext x
    by_cases h : x = a <;> simp [h]
  unfold sL
  rw [h]
theorem sL_comm {M : Mm} {a b : Nat} {f g : Nat → Int64} (h : a ≠ b) : sL (sL M a f) b g = sL (sL M b g) a f := by
  unfold sL
  congr 2
  funext x
  by_cases h1 : x = a
  · subst h1; simp [h]
  · by_cases h2 : x = b
    · subst h2; simp [h1]
    · simp [h1, h2]
theorem sR_at (M : Mm) (a : Nat) (f : Nat → Option Nat) : (sR M a f).2.2 a = f := by simp [sR]
theorem sR_ne {M : Mm} {a b : Nat} {f : Nat → Option Nat} (h : b ≠ a) : (sR M a f).2.2 b = M.2.2 b := by simp [sR, h]
theorem sR_sR (M : Mm) (a : Nat) (f g : Nat → Option Nat) : sR (sR M a f) a g = sR M a g := by
  unfold sR
  congr 2
  funext x
  by_cases h : x = a <;> simp [h]
theorem sR_comm {M : Mm} {a b : Nat} {f g : Nat → Option Nat} (h : a ≠ b) : sR (sR M a f) b g = sR (sR M b g) a f := by
  unfold sR
  congr 2
  funext x
  by_cases h1 : x = a
  · subst h1; simp [h]
  · by_cases h2 : x = b
    · subst h2; simp [h1]
    · simp [h1, h2]
theorem upR_s {f : Nat → Option Nat} {k : Nat} {x : Option Nat} : va_up f k x k = x := by simp [va_up]
theorem upR_n {f : Nat → Option Nat} {k j : Nat} {x : Option Nat} (h : j ≠ k) : va_up f k x j = f j := by simp [va_up, h]
theorem Mt.is {G : Gx} {l : Launch} {d : Md} {b : Bq} {av : List Value} {ly ly2 : Ly} {M M2 : Mm} {v : Option Value} (h : ∀ Q : Qt, Q v ly2 M2 → Mt G l d b av ly M Q) : Mt G l d b av ly M (Is v ly2 M2) := h _ ⟨rfl, rfl, rfl⟩
section RN3
variable {G : Gx} {l : Launch} {d : Md} {b : Bq} {pc : Nat} {lv : List (Option Value)} {st : List Value} {ly : Ly} {M M2 : Mm} {Q : Qt}
theorem Rn.meq (h : M = M2) (k : Rn G l d b pc lv st ly M2 Q) : Rn G l d b pc lv st ly M Q := h ▸ k
def lvSub : List (Option Value) → List (Option Value) → Prop
  | [], _ => True
  | none :: r, _ :: q => lvSub r q
  | some v :: r, some w :: q => v = w ∧ lvSub r q
  | _, _ => False
theorem lvSub_get {v : Value} : ∀ (a b : List (Option Value)) (k : Nat), lvSub a b → a[k]? = some (some v) → b[k]? = some (some v)
  | [], _, k, _, h => by simp at h
  | none :: r, _ :: q, 0, _, h => by simp at h
  | none :: r, _ :: q, k + 1, hs, h => by simpa using lvSub_get r q k hs (by simpa using h)
  | some v :: r, some w :: q, 0, hs, h => by rw [← hs.1]; exact h
  | some v :: r, some w :: q, k + 1, hs, h => by simpa using lvSub_get r q k hs.2 (by simpa using h)
  | none :: r, [], _, hs, _ => hs.elim
  | some v :: r, [], _, hs, _ => hs.elim
  | some v :: r, none :: q, _, hs, _ => hs.elim
theorem Rn.forget {lv' : List (Option Value)} (h : lvSub lv' lv) (k : Rn G l d b pc lv' st ly M Q) : Rn G l d b pc lv st ly M Q := by
  intro p e R s m args below meth c H locs cells slots ls Z hC hH hB hl hK
  refine k p e R s m args below meth c H locs cells slots ls Z hC hH hB (lv_less hl (fun q hq => ?_)) hK
  obtain ⟨i, v, h1, rfl⟩ := lvG_of lv' 0 q hq
  exact lvG_mem lv 0 i (lvSub_get lv' lv i h h1)
theorem Rn.topI {x y : Int32} (h : x = y) (k : Rn G l d b pc lv (.int y :: st) ly M Q) : Rn G l d b pc lv (.int x :: st) ly M Q := h ▸ k
theorem Rn.topL {x y : Int64} (h : x = y) (k : Rn G l d b pc lv (.long y :: st) ly M Q) : Rn G l d b pc lv (.long x :: st) ly M Q := h ▸ k
end RN3
