theorem Sp.scr {G : Gx} {s : State} (h : Sp G s) (hz : G.1 ≤ s.heap.size) : va_X (G.2.2.2.1 0) G.2.2.2.2.1 G.2.2.2.2.2 s s.heap ∧ G.2.2.2.1 0 < s.heap.size ∧ (¬ GA G (G.2.2.2.1 0)) ∧ G.2.2.2.2.1 ≤ 3072 := by
  obtain ⟨s0, h0, hW, hq⟩ := h
  exact ⟨(va_X.moved hW.alike h0.1).kept (hq _ h0.2.2.2.2.2.1), Nat.lt_of_lt_of_le h0.2.2.2.2.2.1 hz, Nat.not_le.mpr h0.2.2.2.2.2.1, h0.2.1⟩
section SCR
variable {G : Gx} {l : Launch} {d : Md} {b : Bq} {pc n : Nat} {lv : List (Option Value)} {st : List Value} {ly : Ly} {M : Mm} {Q : Qt}
/-- the script's length -/
theorem Rn.alenS (hd : Dc d.2.1 pc n (.arraylength) 1) (k : G.2.2.2.2.1 ≤ 3072 → Rn G l d b n lv (.int (nI G.2.2.2.2.1) :: st) ly M Q) : Rn G l d b pc lv (.float 0 :: st) ly M Q := by
  obtain ⟨hd, rfl⟩ := hd
  intro p e R s m args below meth c H locs cells slots ls Z hC hH hB hl hK
  obtain ⟨h1, h2, h3, h4⟩ := Sp.scr hC.hsp hC.hsz
  exact va_slen hC.hx hC.hb h1 h2 h3 hH.2.1 hd (k h4 p e R s m args below meth c H locs cells slots ls Z hC hH hB hl hK)
/-- a place of the script -/
theorem Rn.ialdS {j : Nat} (hd : Dc d.2.1 pc n (.iaload) 1) (hin : j < G.2.2.2.2.1) (hL : G.2.2.2.2.1 ≤ 3072) (k : Rn G l d b n lv (.int (G.2.2.2.2.2 j) :: st) ly M Q) : Rn G l d b pc lv (.int (nI j) :: .float 0 :: st) ly M Q := by
  obtain ⟨hd, rfl⟩ := hd
  intro p e R s m args below meth c H locs cells slots ls Z hC hH hB hl hK
  obtain ⟨h1, h2, h3, h4⟩ := Sp.scr hC.hsp hC.hsz
  have w := k p e R s m args below meth c H locs cells slots ls Z hC hH hB hl hK
  exact va_sld hC.hx hC.hb h1 h2 h3 hH.2.1 (vp_in_nI hin (by omega)) hd (by rw [nI_clamp (by omega)]; exact w)
end SCR
