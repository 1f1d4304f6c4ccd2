def rLy : Ly := [.inr 12, .inl (0, 700), .inl (0, 26), .inl (0, 12), .inl (0, 12), .inl (0, 12), .inl (0, 12), .inl (0, 12), .inl (0, 12), .inl (0, 8), .inl (0, 8), .inl (0, 8), .inl (0, 8), .inl (0, 8), .inl (0, 8), .inl (0, 6), .inl (0, 10), .inl (0, 10), .inl (0, 128), .inl (0, 128), .inl (0, 24), .inl (0, 24), .inl (2, 24), .inl (0, 24), .inl (0, 288), .inl (0, 288), .inl (0, 288), .inl (0, 288), .inl (0, 144), .inl (0, 144), .inl (0, 144), .inl (0, 24), .inl (0, 288), .inl (0, 288), .inl (0, 120), .inl (3, 6), .inl (3, 64), .inl (0, 12), .inl (0, 12), .inl (0, 12), .inl (0, 3), .inl (0, 24), .inl (0, 24), .inl (0, 24), .inl (2, 24), .inl (0, 24), .inl (2, 24)]
def rFin : List (Nat × Nat) := [(1, 150), (3, 151), (4, 152), (5, 153), (6, 154), (7, 155), (8, 156), (9, 157), (10, 158), (11, 159), (12, 160), (13, 161), (14, 162), (15, 163), (16, 164), (17, 165), (18, 166), (19, 167), (20, 168), (35, 169), (36, 170), (37, 171), (38, 172), (39, 173), (40, 174), (41, 175), (42, 176), (43, 177), (44, 178), (45, 179), (46, 180), (47, 181), (48, 182), (49, 183), (52, 184), (53, 185), (63, 186), (64, 187), (65, 188), (67, 189), (72, 190), (73, 191), (74, 192), (75, 193), (76, 194), (77, 195)]
/-- the reference's cells and final pointers -/
def RW (ly : Ly) (R : Nat → Nat → Option Nat) : Prop := (∀ k, k < 47 → ly[149 + k]? = rLy[k]?) ∧ ∀ q ∈ rFin, R 149 q.1 = some q.2
theorem rc149 {ly : Ly} {R : Nat → Nat → Option Nat} (h : RW ly R) : ly[149]? = some (.inr 12) := h.1 0 (by decide)
theorem rc150 {ly : Ly} {R : Nat → Nat → Option Nat} (h : RW ly R) : ly[150]? = some (.inl (0, 700)) := h.1 1 (by decide)
theorem rc151 {ly : Ly} {R : Nat → Nat → Option Nat} (h : RW ly R) : ly[151]? = some (.inl (0, 26)) := h.1 2 (by decide)
theorem rc152 {ly : Ly} {R : Nat → Nat → Option Nat} (h : RW ly R) : ly[152]? = some (.inl (0, 12)) := h.1 3 (by decide)
theorem rc153 {ly : Ly} {R : Nat → Nat → Option Nat} (h : RW ly R) : ly[153]? = some (.inl (0, 12)) := h.1 4 (by decide)
theorem rc154 {ly : Ly} {R : Nat → Nat → Option Nat} (h : RW ly R) : ly[154]? = some (.inl (0, 12)) := h.1 5 (by decide)
theorem rc155 {ly : Ly} {R : Nat → Nat → Option Nat} (h : RW ly R) : ly[155]? = some (.inl (0, 12)) := h.1 6 (by decide)
theorem rc156 {ly : Ly} {R : Nat → Nat → Option Nat} (h : RW ly R) : ly[156]? = some (.inl (0, 12)) := h.1 7 (by decide)
theorem rc157 {ly : Ly} {R : Nat → Nat → Option Nat} (h : RW ly R) : ly[157]? = some (.inl (0, 12)) := h.1 8 (by decide)
theorem rc158 {ly : Ly} {R : Nat → Nat → Option Nat} (h : RW ly R) : ly[158]? = some (.inl (0, 8)) := h.1 9 (by decide)
theorem rc159 {ly : Ly} {R : Nat → Nat → Option Nat} (h : RW ly R) : ly[159]? = some (.inl (0, 8)) := h.1 10 (by decide)
theorem rc160 {ly : Ly} {R : Nat → Nat → Option Nat} (h : RW ly R) : ly[160]? = some (.inl (0, 8)) := h.1 11 (by decide)
theorem rc161 {ly : Ly} {R : Nat → Nat → Option Nat} (h : RW ly R) : ly[161]? = some (.inl (0, 8)) := h.1 12 (by decide)
theorem rc162 {ly : Ly} {R : Nat → Nat → Option Nat} (h : RW ly R) : ly[162]? = some (.inl (0, 8)) := h.1 13 (by decide)
theorem rc163 {ly : Ly} {R : Nat → Nat → Option Nat} (h : RW ly R) : ly[163]? = some (.inl (0, 8)) := h.1 14 (by decide)
theorem rc164 {ly : Ly} {R : Nat → Nat → Option Nat} (h : RW ly R) : ly[164]? = some (.inl (0, 6)) := h.1 15 (by decide)
theorem rc165 {ly : Ly} {R : Nat → Nat → Option Nat} (h : RW ly R) : ly[165]? = some (.inl (0, 10)) := h.1 16 (by decide)
theorem rc166 {ly : Ly} {R : Nat → Nat → Option Nat} (h : RW ly R) : ly[166]? = some (.inl (0, 10)) := h.1 17 (by decide)
theorem rc167 {ly : Ly} {R : Nat → Nat → Option Nat} (h : RW ly R) : ly[167]? = some (.inl (0, 128)) := h.1 18 (by decide)
theorem rc168 {ly : Ly} {R : Nat → Nat → Option Nat} (h : RW ly R) : ly[168]? = some (.inl (0, 128)) := h.1 19 (by decide)
theorem rc169 {ly : Ly} {R : Nat → Nat → Option Nat} (h : RW ly R) : ly[169]? = some (.inl (0, 24)) := h.1 20 (by decide)
theorem rc170 {ly : Ly} {R : Nat → Nat → Option Nat} (h : RW ly R) : ly[170]? = some (.inl (0, 24)) := h.1 21 (by decide)
theorem rc171 {ly : Ly} {R : Nat → Nat → Option Nat} (h : RW ly R) : ly[171]? = some (.inl (2, 24)) := h.1 22 (by decide)
theorem rc172 {ly : Ly} {R : Nat → Nat → Option Nat} (h : RW ly R) : ly[172]? = some (.inl (0, 24)) := h.1 23 (by decide)
theorem rc173 {ly : Ly} {R : Nat → Nat → Option Nat} (h : RW ly R) : ly[173]? = some (.inl (0, 288)) := h.1 24 (by decide)
theorem rc174 {ly : Ly} {R : Nat → Nat → Option Nat} (h : RW ly R) : ly[174]? = some (.inl (0, 288)) := h.1 25 (by decide)
theorem rc175 {ly : Ly} {R : Nat → Nat → Option Nat} (h : RW ly R) : ly[175]? = some (.inl (0, 288)) := h.1 26 (by decide)
theorem rc176 {ly : Ly} {R : Nat → Nat → Option Nat} (h : RW ly R) : ly[176]? = some (.inl (0, 288)) := h.1 27 (by decide)
theorem rc177 {ly : Ly} {R : Nat → Nat → Option Nat} (h : RW ly R) : ly[177]? = some (.inl (0, 144)) := h.1 28 (by decide)
theorem rc178 {ly : Ly} {R : Nat → Nat → Option Nat} (h : RW ly R) : ly[178]? = some (.inl (0, 144)) := h.1 29 (by decide)
theorem rc179 {ly : Ly} {R : Nat → Nat → Option Nat} (h : RW ly R) : ly[179]? = some (.inl (0, 144)) := h.1 30 (by decide)
theorem rc180 {ly : Ly} {R : Nat → Nat → Option Nat} (h : RW ly R) : ly[180]? = some (.inl (0, 24)) := h.1 31 (by decide)
theorem rc181 {ly : Ly} {R : Nat → Nat → Option Nat} (h : RW ly R) : ly[181]? = some (.inl (0, 288)) := h.1 32 (by decide)
theorem rc182 {ly : Ly} {R : Nat → Nat → Option Nat} (h : RW ly R) : ly[182]? = some (.inl (0, 288)) := h.1 33 (by decide)
theorem rc183 {ly : Ly} {R : Nat → Nat → Option Nat} (h : RW ly R) : ly[183]? = some (.inl (0, 120)) := h.1 34 (by decide)
theorem rc184 {ly : Ly} {R : Nat → Nat → Option Nat} (h : RW ly R) : ly[184]? = some (.inl (3, 6)) := h.1 35 (by decide)
theorem rc185 {ly : Ly} {R : Nat → Nat → Option Nat} (h : RW ly R) : ly[185]? = some (.inl (3, 64)) := h.1 36 (by decide)
theorem rc186 {ly : Ly} {R : Nat → Nat → Option Nat} (h : RW ly R) : ly[186]? = some (.inl (0, 12)) := h.1 37 (by decide)
theorem rc187 {ly : Ly} {R : Nat → Nat → Option Nat} (h : RW ly R) : ly[187]? = some (.inl (0, 12)) := h.1 38 (by decide)
theorem rc188 {ly : Ly} {R : Nat → Nat → Option Nat} (h : RW ly R) : ly[188]? = some (.inl (0, 12)) := h.1 39 (by decide)
theorem rc189 {ly : Ly} {R : Nat → Nat → Option Nat} (h : RW ly R) : ly[189]? = some (.inl (0, 3)) := h.1 40 (by decide)
theorem rc190 {ly : Ly} {R : Nat → Nat → Option Nat} (h : RW ly R) : ly[190]? = some (.inl (0, 24)) := h.1 41 (by decide)
theorem rc191 {ly : Ly} {R : Nat → Nat → Option Nat} (h : RW ly R) : ly[191]? = some (.inl (0, 24)) := h.1 42 (by decide)
theorem rc192 {ly : Ly} {R : Nat → Nat → Option Nat} (h : RW ly R) : ly[192]? = some (.inl (0, 24)) := h.1 43 (by decide)
theorem rc193 {ly : Ly} {R : Nat → Nat → Option Nat} (h : RW ly R) : ly[193]? = some (.inl (2, 24)) := h.1 44 (by decide)
theorem rc194 {ly : Ly} {R : Nat → Nat → Option Nat} (h : RW ly R) : ly[194]? = some (.inl (0, 24)) := h.1 45 (by decide)
theorem rc195 {ly : Ly} {R : Nat → Nat → Option Nat} (h : RW ly R) : ly[195]? = some (.inl (2, 24)) := h.1 46 (by decide)
theorem rpt1 {ly : Ly} {R : Nat → Nat → Option Nat} (h : RW ly R) : R 149 1 = some 150 := h.2 (1, 150) (by decide)
theorem rpt3 {ly : Ly} {R : Nat → Nat → Option Nat} (h : RW ly R) : R 149 3 = some 151 := h.2 (3, 151) (by decide)
theorem rpt4 {ly : Ly} {R : Nat → Nat → Option Nat} (h : RW ly R) : R 149 4 = some 152 := h.2 (4, 152) (by decide)
theorem rpt5 {ly : Ly} {R : Nat → Nat → Option Nat} (h : RW ly R) : R 149 5 = some 153 := h.2 (5, 153) (by decide)
theorem rpt6 {ly : Ly} {R : Nat → Nat → Option Nat} (h : RW ly R) : R 149 6 = some 154 := h.2 (6, 154) (by decide)
theorem rpt7 {ly : Ly} {R : Nat → Nat → Option Nat} (h : RW ly R) : R 149 7 = some 155 := h.2 (7, 155) (by decide)
theorem rpt8 {ly : Ly} {R : Nat → Nat → Option Nat} (h : RW ly R) : R 149 8 = some 156 := h.2 (8, 156) (by decide)
theorem rpt9 {ly : Ly} {R : Nat → Nat → Option Nat} (h : RW ly R) : R 149 9 = some 157 := h.2 (9, 157) (by decide)
theorem rpt10 {ly : Ly} {R : Nat → Nat → Option Nat} (h : RW ly R) : R 149 10 = some 158 := h.2 (10, 158) (by decide)
theorem rpt11 {ly : Ly} {R : Nat → Nat → Option Nat} (h : RW ly R) : R 149 11 = some 159 := h.2 (11, 159) (by decide)
theorem rpt12 {ly : Ly} {R : Nat → Nat → Option Nat} (h : RW ly R) : R 149 12 = some 160 := h.2 (12, 160) (by decide)
theorem rpt13 {ly : Ly} {R : Nat → Nat → Option Nat} (h : RW ly R) : R 149 13 = some 161 := h.2 (13, 161) (by decide)
theorem rpt14 {ly : Ly} {R : Nat → Nat → Option Nat} (h : RW ly R) : R 149 14 = some 162 := h.2 (14, 162) (by decide)
theorem rpt15 {ly : Ly} {R : Nat → Nat → Option Nat} (h : RW ly R) : R 149 15 = some 163 := h.2 (15, 163) (by decide)
theorem rpt16 {ly : Ly} {R : Nat → Nat → Option Nat} (h : RW ly R) : R 149 16 = some 164 := h.2 (16, 164) (by decide)
theorem rpt17 {ly : Ly} {R : Nat → Nat → Option Nat} (h : RW ly R) : R 149 17 = some 165 := h.2 (17, 165) (by decide)
theorem rpt18 {ly : Ly} {R : Nat → Nat → Option Nat} (h : RW ly R) : R 149 18 = some 166 := h.2 (18, 166) (by decide)
theorem rpt19 {ly : Ly} {R : Nat → Nat → Option Nat} (h : RW ly R) : R 149 19 = some 167 := h.2 (19, 167) (by decide)
theorem rpt20 {ly : Ly} {R : Nat → Nat → Option Nat} (h : RW ly R) : R 149 20 = some 168 := h.2 (20, 168) (by decide)
theorem rpt35 {ly : Ly} {R : Nat → Nat → Option Nat} (h : RW ly R) : R 149 35 = some 169 := h.2 (35, 169) (by decide)
theorem rpt36 {ly : Ly} {R : Nat → Nat → Option Nat} (h : RW ly R) : R 149 36 = some 170 := h.2 (36, 170) (by decide)
theorem rpt37 {ly : Ly} {R : Nat → Nat → Option Nat} (h : RW ly R) : R 149 37 = some 171 := h.2 (37, 171) (by decide)
theorem rpt38 {ly : Ly} {R : Nat → Nat → Option Nat} (h : RW ly R) : R 149 38 = some 172 := h.2 (38, 172) (by decide)
theorem rpt39 {ly : Ly} {R : Nat → Nat → Option Nat} (h : RW ly R) : R 149 39 = some 173 := h.2 (39, 173) (by decide)
theorem rpt40 {ly : Ly} {R : Nat → Nat → Option Nat} (h : RW ly R) : R 149 40 = some 174 := h.2 (40, 174) (by decide)
theorem rpt41 {ly : Ly} {R : Nat → Nat → Option Nat} (h : RW ly R) : R 149 41 = some 175 := h.2 (41, 175) (by decide)
theorem rpt42 {ly : Ly} {R : Nat → Nat → Option Nat} (h : RW ly R) : R 149 42 = some 176 := h.2 (42, 176) (by decide)
theorem rpt43 {ly : Ly} {R : Nat → Nat → Option Nat} (h : RW ly R) : R 149 43 = some 177 := h.2 (43, 177) (by decide)
theorem rpt44 {ly : Ly} {R : Nat → Nat → Option Nat} (h : RW ly R) : R 149 44 = some 178 := h.2 (44, 178) (by decide)
theorem rpt45 {ly : Ly} {R : Nat → Nat → Option Nat} (h : RW ly R) : R 149 45 = some 179 := h.2 (45, 179) (by decide)
theorem rpt46 {ly : Ly} {R : Nat → Nat → Option Nat} (h : RW ly R) : R 149 46 = some 180 := h.2 (46, 180) (by decide)
theorem rpt47 {ly : Ly} {R : Nat → Nat → Option Nat} (h : RW ly R) : R 149 47 = some 181 := h.2 (47, 181) (by decide)
theorem rpt48 {ly : Ly} {R : Nat → Nat → Option Nat} (h : RW ly R) : R 149 48 = some 182 := h.2 (48, 182) (by decide)
theorem rpt49 {ly : Ly} {R : Nat → Nat → Option Nat} (h : RW ly R) : R 149 49 = some 183 := h.2 (49, 183) (by decide)
theorem rpt52 {ly : Ly} {R : Nat → Nat → Option Nat} (h : RW ly R) : R 149 52 = some 184 := h.2 (52, 184) (by decide)
theorem rpt53 {ly : Ly} {R : Nat → Nat → Option Nat} (h : RW ly R) : R 149 53 = some 185 := h.2 (53, 185) (by decide)
theorem rpt63 {ly : Ly} {R : Nat → Nat → Option Nat} (h : RW ly R) : R 149 63 = some 186 := h.2 (63, 186) (by decide)
theorem rpt64 {ly : Ly} {R : Nat → Nat → Option Nat} (h : RW ly R) : R 149 64 = some 187 := h.2 (64, 187) (by decide)
theorem rpt65 {ly : Ly} {R : Nat → Nat → Option Nat} (h : RW ly R) : R 149 65 = some 188 := h.2 (65, 188) (by decide)
theorem rpt67 {ly : Ly} {R : Nat → Nat → Option Nat} (h : RW ly R) : R 149 67 = some 189 := h.2 (67, 189) (by decide)
theorem rpt72 {ly : Ly} {R : Nat → Nat → Option Nat} (h : RW ly R) : R 149 72 = some 190 := h.2 (72, 190) (by decide)
theorem rpt73 {ly : Ly} {R : Nat → Nat → Option Nat} (h : RW ly R) : R 149 73 = some 191 := h.2 (73, 191) (by decide)
theorem rpt74 {ly : Ly} {R : Nat → Nat → Option Nat} (h : RW ly R) : R 149 74 = some 192 := h.2 (74, 192) (by decide)
theorem rpt75 {ly : Ly} {R : Nat → Nat → Option Nat} (h : RW ly R) : R 149 75 = some 193 := h.2 (75, 193) (by decide)
theorem rpt76 {ly : Ly} {R : Nat → Nat → Option Nat} (h : RW ly R) : R 149 76 = some 194 := h.2 (76, 194) (by decide)
theorem rpt77 {ly : Ly} {R : Nat → Nat → Option Nat} (h : RW ly R) : R 149 77 = some 195 := h.2 (77, 195) (by decide)
theorem nI_mul (a b : Nat) : nI a * nI b = nI (a * b) := (Int32.ofNat_mul a b).symm
theorem nI_subk (a d : Nat) : nI (a + d) - nI d = nI a := by rw [← nI_add]; exact Int32.add_sub_cancel _ _
/-- n places from o on are F's -/
def blk (o n : Nat) (F f : Nat → Int32) : Nat → Int32 := fun j => if o ≤ j ∧ j < o + n then F (j - o) else f j
theorem blk_0 (o : Nat) (F f : Nat → Int32) : blk o 0 F f = f := by
  funext j
  unfold blk
  rw [if_neg (by omega)]
theorem blk_in {o n j : Nat} {F f : Nat → Int32} (h : j < n) : blk o n F f (o + j) = F j := by
  unfold blk
  rw [if_pos (by omega), show o + j - o = j by omega]
theorem blk_out {o n j : Nat} {F f : Nat → Int32} (h : j < o ∨ o + n ≤ j) : blk o n F f j = f j := by
  unfold blk
  rw [if_neg (by omega)]
theorem blk_up (o i : Nat) (F f : Nat → Int32) : upd (blk o i F f) (o + i) (F i) = blk o (i + 1) F f := by
  funext j
  by_cases h : j = o + i
  · subst h
    rw [pk_us, blk_in (Nat.lt_succ_self i)]
  · rw [pk_un h]
    by_cases h2 : o ≤ j ∧ j < o + i
    · obtain ⟨k, rfl⟩ : ∃ k, j = o + k := ⟨j - o, by omega⟩
      rw [blk_in (by omega), blk_in (by omega)]
    · rw [blk_out (by omega), blk_out (by omega)]
theorem sI_sf {M : Mm} {a : Nat} {f : Nat → Int32} (h : M.1 a = f) : sI M a f = M := h ▸ sI_self M a
/-- from o on -/
def sh (o : Nat) (f : Nat → Int32) : Nat → Int32 := fun j => f (o + j)
theorem sh_in {o n : Nat} {F f : Nat → Int32} : eqN n (sh o (blk o n F f)) F := fun _ hj => blk_in hj
theorem sh_out {o p n m : Nat} {F f : Nat → Int32} (h : p + m ≤ o ∨ o + n ≤ p) : eqN m (sh p (blk o n F f)) (sh p f) := fun _ hj => blk_out (by omega)
theorem tX12_isWalker {G : Gx} {l : Launch} {ly : Ly} {M : Mm} {x : Int32} (hR : RW ly M.2.2) : Mt G l mX12_isWalker (1, 0, 0, false) [.ref 149, .int x] ly M (Is (some (.int (inN x (M.1 151 6)))) ly M) := by
  refine Mt.is (fun Q hQ => ?_)
  refine Mt.of (lv := [some (.ref 149), some (.int x)]) rfl ?_
  refine Rn.iload_n dX12_isWalker_0 rfl ?_
  refine Rn.if_lt dX12_isWalker_1 (fun h1 => ?_) (fun h1 => ?_)
  · skip
    refine Rn.iconstv (v := 0) dX12_isWalker_19 ic_0 ?_
    have hv : inN x (M.1 151 6) = 0 := by simp only [inN, h1, ↓reduceIte]
    rw [hv] at hQ
    exact Rn.iret (ty := .boolean) dX12_isWalker_20 rfl rfl hQ
  · skip
    refine Rn.iload_n dX12_isWalker_4 rfl ?_
    refine Rn.aload_n dX12_isWalker_5 rfl ?_
    refine Rn.getR dX12_isWalker_6 fX12_15 rfl (rc149 hR) (show M.2.2 149 3 = some 151 from (rpt3 hR)) ?_
    refine Rn.bipushv (v := 6) dX12_isWalker_9 bp_6 ?_
    refine Rn.iald dX12_isWalker_11 (rc151 hR) (by unfold vp_in; decide) ?_
    refine Rn.topI (y := M.1 151 6) (rfl) ?_
    refine Rn.icmp_ge dX12_isWalker_12 (fun h12 => ?_) (fun h12 => ?_)
    · skip
      refine Rn.iconstv (v := 0) dX12_isWalker_19 ic_0 ?_
      have hv : inN x (M.1 151 6) = 0 := by simp only [inN, h1, h12, ↓reduceIte]
      rw [hv] at hQ
      exact Rn.iret (ty := .boolean) dX12_isWalker_20 rfl rfl hQ
    · skip
      refine Rn.iconstv (v := 1) dX12_isWalker_15 ic_1 ?_
      refine Rn.goto dX12_isWalker_16 ?_
      have hv : inN x (M.1 151 6) = 1 := by simp only [inN, h1, h12, ↓reduceIte]
      rw [hv] at hQ
      exact Rn.iret (ty := .boolean) dX12_isWalker_20 rfl rfl hQ
theorem tX12_isCell {G : Gx} {l : Launch} {ly : Ly} {M : Mm} {x : Int32} (hR : RW ly M.2.2) : Mt G l mX12_isCell (1, 0, 0, false) [.ref 149, .int x] ly M (Is (some (.int (inN x (M.1 151 0)))) ly M) := by
  refine Mt.is (fun Q hQ => ?_)
  refine Mt.of (lv := [some (.ref 149), some (.int x)]) rfl ?_
  refine Rn.iload_n dX12_isCell_0 rfl ?_
  refine Rn.if_lt dX12_isCell_1 (fun h1 => ?_) (fun h1 => ?_)
  · skip
    refine Rn.iconstv (v := 0) dX12_isCell_18 ic_0 ?_
    have hv : inN x (M.1 151 0) = 0 := by simp only [inN, h1, ↓reduceIte]
    rw [hv] at hQ
    exact Rn.iret (ty := .boolean) dX12_isCell_19 rfl rfl hQ
  · skip
    refine Rn.iload_n dX12_isCell_4 rfl ?_
    refine Rn.aload_n dX12_isCell_5 rfl ?_
    refine Rn.getR dX12_isCell_6 fX12_15 rfl (rc149 hR) (show M.2.2 149 3 = some 151 from (rpt3 hR)) ?_
    refine Rn.iconstv (v := 0) dX12_isCell_9 ic_0 ?_
    refine Rn.iald dX12_isCell_10 (rc151 hR) (by unfold vp_in; decide) ?_
    refine Rn.topI (y := M.1 151 0) (rfl) ?_
    refine Rn.icmp_ge dX12_isCell_11 (fun h11 => ?_) (fun h11 => ?_)
    · skip
      refine Rn.iconstv (v := 0) dX12_isCell_18 ic_0 ?_
      have hv : inN x (M.1 151 0) = 0 := by simp only [inN, h1, h11, ↓reduceIte]
      rw [hv] at hQ
      exact Rn.iret (ty := .boolean) dX12_isCell_19 rfl rfl hQ
    · skip
      refine Rn.iconstv (v := 1) dX12_isCell_14 ic_1 ?_
      refine Rn.goto dX12_isCell_15 ?_
      have hv : inN x (M.1 151 0) = 1 := by simp only [inN, h1, h11, ↓reduceIte]
      rw [hv] at hQ
      exact Rn.iret (ty := .boolean) dX12_isCell_19 rfl rfl hQ
theorem tX12_isCalm {G : Gx} {l : Launch} {ly : Ly} {M : Mm} {x : Int32} : Mt G l mX12_isCalm (1, 0, 0, false) [.int x] ly M (Is (some (.int (inR x 1 99))) ly M) := by
  refine Mt.is (fun Q hQ => ?_)
  refine Mt.of (lv := [some (.int x)]) rfl ?_
  refine Rn.iload_n dX12_isCalm_0 rfl ?_
  refine Rn.iconstv (v := 1) dX12_isCalm_1 ic_1 ?_
  refine Rn.icmp_lt dX12_isCalm_2 (fun h2 => ?_) (fun h2 => ?_)
  · skip
    refine Rn.iconstv (v := 0) dX12_isCalm_15 ic_0 ?_
    have hv : inR x 1 99 = 0 := by simp only [inR, h2, ↓reduceIte]
    rw [hv] at hQ
    exact Rn.iret (ty := .boolean) dX12_isCalm_16 rfl rfl hQ
  · skip
    refine Rn.iload_n dX12_isCalm_5 rfl ?_
    refine Rn.bipushv (v := 99) dX12_isCalm_6 bp_99 ?_
    refine Rn.icmp_gt dX12_isCalm_8 (fun h8 => ?_) (fun h8 => ?_)
    · skip
      refine Rn.iconstv (v := 0) dX12_isCalm_15 ic_0 ?_
      have hv : inR x 1 99 = 0 := by simp only [inR, h2, h8, ↓reduceIte]
      rw [hv] at hQ
      exact Rn.iret (ty := .boolean) dX12_isCalm_16 rfl rfl hQ
    · skip
      refine Rn.iconstv (v := 1) dX12_isCalm_11 ic_1 ?_
      refine Rn.goto dX12_isCalm_12 ?_
      have hv : inR x 1 99 = 1 := by simp only [inR, h2, h8, ↓reduceIte]
      rw [hv] at hQ
      exact Rn.iret (ty := .boolean) dX12_isCalm_16 rfl rfl hQ
theorem tX12_isForce {G : Gx} {l : Launch} {ly : Ly} {M : Mm} {x : Int32} : Mt G l mX12_isForce (1, 0, 0, false) [.int x] ly M (Is (some (.int (inR x 1 99))) ly M) := by
  refine Mt.is (fun Q hQ => ?_)
  refine Mt.of (lv := [some (.int x)]) rfl ?_
  refine Rn.iload_n dX12_isForce_0 rfl ?_
  refine Rn.iconstv (v := 1) dX12_isForce_1 ic_1 ?_
  refine Rn.icmp_lt dX12_isForce_2 (fun h2 => ?_) (fun h2 => ?_)
  · skip
    refine Rn.iconstv (v := 0) dX12_isForce_15 ic_0 ?_
    have hv : inR x 1 99 = 0 := by simp only [inR, h2, ↓reduceIte]
    rw [hv] at hQ
    exact Rn.iret (ty := .boolean) dX12_isForce_16 rfl rfl hQ
  · skip
    refine Rn.iload_n dX12_isForce_5 rfl ?_
    refine Rn.bipushv (v := 99) dX12_isForce_6 bp_99 ?_
    refine Rn.icmp_gt dX12_isForce_8 (fun h8 => ?_) (fun h8 => ?_)
    · skip
      refine Rn.iconstv (v := 0) dX12_isForce_15 ic_0 ?_
      have hv : inR x 1 99 = 0 := by simp only [inR, h2, h8, ↓reduceIte]
      rw [hv] at hQ
      exact Rn.iret (ty := .boolean) dX12_isForce_16 rfl rfl hQ
    · skip
      refine Rn.iconstv (v := 1) dX12_isForce_11 ic_1 ?_
      refine Rn.goto dX12_isForce_12 ?_
      have hv : inR x 1 99 = 1 := by simp only [inR, h2, h8, ↓reduceIte]
      rw [hv] at hQ
      exact Rn.iret (ty := .boolean) dX12_isForce_16 rfl rfl hQ
theorem tX12_isLong {G : Gx} {l : Launch} {ly : Ly} {M : Mm} {x y : Int32} : Mt G l mX12_isLong (1, 0, 0, false) [.int x, .int y] ly M (Is (some (.int (inR x 1 y))) ly M) := by
  refine Mt.is (fun Q hQ => ?_)
  refine Mt.of (lv := [some (.int x), some (.int y)]) rfl ?_
  refine Rn.iload_n dX12_isLong_0 rfl ?_
  refine Rn.iconstv (v := 1) dX12_isLong_1 ic_1 ?_
  refine Rn.icmp_lt dX12_isLong_2 (fun h2 => ?_) (fun h2 => ?_)
  · skip
    refine Rn.iconstv (v := 0) dX12_isLong_14 ic_0 ?_
    have hv : inR x 1 y = 0 := by simp only [inR, h2, ↓reduceIte]
    rw [hv] at hQ
    exact Rn.iret (ty := .boolean) dX12_isLong_15 rfl rfl hQ
  · skip
    refine Rn.iload_n dX12_isLong_5 rfl ?_
    refine Rn.iload_n dX12_isLong_6 rfl ?_
    refine Rn.icmp_gt dX12_isLong_7 (fun h7 => ?_) (fun h7 => ?_)
    · skip
      refine Rn.iconstv (v := 0) dX12_isLong_14 ic_0 ?_
      have hv : inR x 1 y = 0 := by simp only [inR, h2, h7, ↓reduceIte]
      rw [hv] at hQ
      exact Rn.iret (ty := .boolean) dX12_isLong_15 rfl rfl hQ
    · skip
      refine Rn.iconstv (v := 1) dX12_isLong_10 ic_1 ?_
      refine Rn.goto dX12_isLong_11 ?_
      have hv : inR x 1 y = 1 := by simp only [inR, h2, h7, ↓reduceIte]
      rw [hv] at hQ
      exact Rn.iret (ty := .boolean) dX12_isLong_15 rfl rfl hQ
theorem tX12_within {G : Gx} {l : Launch} {ly : Ly} {M : Mm} {x b : Int32} : Mt G l mX12_within (1, 0, 0, false) [.int x, .int b] ly M (Is (some (.int (mx (-b) (mn b x)))) ly M) := by
  refine Mt.is (fun Q hQ => ?_)
  refine Mt.of (lv := [some (.int x), some (.int b)]) rfl ?_
  refine Rn.iload_n dX12_within_0 rfl ?_
  refine Rn.ineg dX12_within_1 ?_
  refine Rn.iload_n dX12_within_2 rfl ?_
  refine Rn.iload_n dX12_within_3 rfl ?_
  refine Rn.mmin dX12_within_4 jX12_346 jw_mmin ⟨(Nat.le_of_ble_eq_true rfl), (Nat.le_of_ble_eq_true rfl)⟩ ?_
  refine Rn.mmax dX12_within_7 jX12_351 jw_mmax ⟨(Nat.le_of_ble_eq_true rfl), (Nat.le_of_ble_eq_true rfl)⟩ ?_
  exact Rn.iret (ty := .int) dX12_within_10 rfl rfl hQ
def isL (x : Int32) : Int64 := if x = 0 then 0 else 1
theorem tX12_is {G : Gx} {l : Launch} {ly : Ly} {M : Mm} {x : Int32} : Mt G l mX12_is (1, 0, 0, false) [.int x] ly M (Is (some (.long (isL x))) ly M) := by
  refine Mt.is (fun Q hQ => ?_)
  refine Mt.of (lv := [some (.int x)]) rfl ?_
  refine Rn.iload_n dX12_is_0 rfl ?_
  refine Rn.if_eq dX12_is_1 (fun h1 => ?_) (fun h1 => ?_)
  · skip
    refine Rn.lconstv (v := 0) dX12_is_8 rfl ?_
    have hv : isL x = 0 := by simp only [isL, h1, ↓reduceIte]
    rw [hv] at hQ
    exact Rn.lret dX12_is_9 rfl hQ
  · skip
    refine Rn.lconstv (v := 1) dX12_is_4 rfl ?_
    refine Rn.goto dX12_is_5 ?_
    have hv : isL x = 1 := by simp only [isL, h1, ↓reduceIte]
    rw [hv] at hQ
    exact Rn.lret dX12_is_9 rfl hQ
def htR (t h : Int32) : Int32 := if t = 0 then 0 else h
theorem tX12_heat {G : Gx} {l : Launch} {ly : Ly} {M : Mm}  (hR : RW ly M.2.2) : Mt G l mX12_heat (1, 0, 0, false) [.ref 149] ly M (Is (some (.int (htR (M.1 149 55) (M.1 151 4)))) ly M) := by
  refine Mt.is (fun Q hQ => ?_)
  refine Mt.of (lv := [some (.ref 149)]) rfl ?_
  refine Rn.aload_n dX12_heat_0 rfl ?_
  refine Rn.getI dX12_heat_1 fX12_126 rfl (rc149 hR) ?_
  refine Rn.if_ne dX12_heat_4 (fun h4 => ?_) (fun h4 => ?_)
  · skip
    refine Rn.aload_n dX12_heat_11 rfl ?_
    refine Rn.getR dX12_heat_12 fX12_15 rfl (rc149 hR) (show M.2.2 149 3 = some 151 from (rpt3 hR)) ?_
    refine Rn.iconstv (v := 4) dX12_heat_15 ic_4 ?_
    refine Rn.iald dX12_heat_16 (rc151 hR) (by unfold vp_in; decide) ?_
    refine Rn.topI (y := M.1 151 4) (rfl) ?_
    have hv : htR (M.1 149 55) (M.1 151 4) = M.1 151 4 := by simp only [htR, h4, ↓reduceIte]
    rw [hv] at hQ
    exact Rn.iret (ty := .int) dX12_heat_17 rfl rfl hQ
  · skip
    refine Rn.iconstv (v := 0) dX12_heat_7 ic_0 ?_
    refine Rn.goto dX12_heat_8 ?_
    have hv : htR (M.1 149 55) (M.1 151 4) = 0 := by simp only [htR, h4, ↓reduceIte]
    rw [hv] at hQ
    exact Rn.iret (ty := .int) dX12_heat_17 rfl rfl hQ
theorem tX12_plain {G : Gx} {l : Launch} {ly : Ly} {M : Mm}  (hR : RW ly M.2.2) : Mt G l mX12_plain (1, 0, 0, false) [.ref 149] ly M (Is none ly (sI M 149 (upd (upd (upd (upd (upd (M.1 149) 55 (-1)) 56 0) 57 (-1)) 61 0) 62 0))) := by
  refine Mt.is (fun Q hQ => ?_)
  refine Mt.of (lv := [some (.ref 149)]) rfl ?_
  refine Rn.aload_n dX12_plain_0 rfl ?_
  refine Rn.iconstv (v := -1) dX12_plain_1 ic_m1 ?_
  refine Rn.putI dX12_plain_2 fX12_126 rfl rfl rfl (rc149 hR) ?_
  refine Rn.aload_n dX12_plain_5 rfl ?_
  refine Rn.iconstv (v := 0) dX12_plain_6 ic_0 ?_
  refine Rn.putI dX12_plain_7 fX12_390 rfl rfl rfl (rc149 hR) ?_
  refine Rn.meq (M2 := sI M 149 (upd (upd (M.1 149) 55 (-1)) 56 0)) (sI_sI _ _ _ _) ?_
  refine Rn.aload_n dX12_plain_10 rfl ?_
  refine Rn.iconstv (v := -1) dX12_plain_11 ic_m1 ?_
  refine Rn.putI dX12_plain_12 fX12_129 rfl rfl rfl (rc149 hR) ?_
  refine Rn.meq (M2 := sI M 149 (upd (upd (upd (M.1 149) 55 (-1)) 56 0) 57 (-1))) (sI_sI _ _ _ _) ?_
  refine Rn.aload_n dX12_plain_15 rfl ?_
  refine Rn.iconstv (v := 0) dX12_plain_16 ic_0 ?_
  refine Rn.putI dX12_plain_17 fX12_393 rfl rfl rfl (rc149 hR) ?_
  refine Rn.meq (M2 := sI M 149 (upd (upd (upd (upd (M.1 149) 55 (-1)) 56 0) 57 (-1)) 61 0)) (sI_sI _ _ _ _) ?_
  refine Rn.aload_n dX12_plain_20 rfl ?_
  refine Rn.iconstv (v := 0) dX12_plain_21 ic_0 ?_
  refine Rn.putI dX12_plain_22 fX12_396 rfl rfl rfl (rc149 hR) ?_
  refine Rn.meq (M2 := sI M 149 (upd (upd (upd (upd (upd (M.1 149) 55 (-1)) 56 0) 57 (-1)) 61 0) 62 0)) (sI_sI _ _ _ _) ?_
  exact Rn.vret dX12_plain_25 rfl hQ
theorem tX12_thrown {G : Gx} {l : Launch} {ly : Ly} {M : Mm}  (hR : RW ly M.2.2) : Mt G l mX12_thrown (1, 0, 0, false) [.ref 149] ly M (Is (some (.int (M.1 149 0))) ly M) := by
  refine Mt.is (fun Q hQ => ?_)
  refine Mt.of (lv := [some (.ref 149)]) rfl ?_
  refine Rn.aload_n dX12_thrown_0 rfl ?_
  refine Rn.getI dX12_thrown_1 fX12_169 rfl (rc149 hR) ?_
  exact Rn.iret (ty := .int) dX12_thrown_4 rfl rfl hQ
def hlR (t f : Int32) : Int32 := if t ≤ f then 0 else 1
theorem tX12_hasLaw {G : Gx} {l : Launch} {ly : Ly} {M : Mm} {k : Nat} (hk : k < 10) (hR : RW ly M.2.2) : Mt G l mX12_hasLaw (1, 0, 0, false) [.ref 149, .int (nI k)] ly M (Is (some (.int (hlR (M.1 166 k) (M.1 165 k)))) ly M) := by
  refine Mt.is (fun Q hQ => ?_)
  refine Mt.of (lv := [some (.ref 149), some (.int (nI k))]) rfl ?_
  refine Rn.aload_n dX12_hasLaw_0 rfl ?_
  refine Rn.getR dX12_hasLaw_1 fX12_60 rfl (rc149 hR) (show M.2.2 149 18 = some 166 from (rpt18 hR)) ?_
  refine Rn.iload_n dX12_hasLaw_4 rfl ?_
  refine Rn.ialdN (k0 := k) dX12_hasLaw_5 (rc166 hR) (by omega) (by decide) ?_
  refine Rn.aload_n dX12_hasLaw_6 rfl ?_
  refine Rn.getR dX12_hasLaw_7 fX12_57 rfl (rc149 hR) (show M.2.2 149 17 = some 165 from (rpt17 hR)) ?_
  refine Rn.iload_n dX12_hasLaw_10 rfl ?_
  refine Rn.ialdN (k0 := k) dX12_hasLaw_11 (rc165 hR) (by omega) (by decide) ?_
  refine Rn.icmp_le dX12_hasLaw_12 (fun h12 => ?_) (fun h12 => ?_)
  · skip
    refine Rn.iconstv (v := 0) dX12_hasLaw_19 ic_0 ?_
    have hv : hlR (M.1 166 k) (M.1 165 k) = 0 := by simp only [hlR, h12, ↓reduceIte]
    rw [hv] at hQ
    exact Rn.iret (ty := .boolean) dX12_hasLaw_20 rfl rfl hQ
  · skip
    refine Rn.iconstv (v := 1) dX12_hasLaw_15 ic_1 ?_
    refine Rn.goto dX12_hasLaw_16 ?_
    have hv : hlR (M.1 166 k) (M.1 165 k) = 1 := by simp only [hlR, h12, ↓reduceIte]
    rw [hv] at hQ
    exact Rn.iret (ty := .boolean) dX12_hasLaw_20 rfl rfl hQ
def nxR (c : Int32) : Int32 := (c * 1103515245 + 12345) &&& 2147483647
def drR (x b : Int32) : Int32 := x >>> (16 &&& 31) - x >>> (16 &&& 31) / b * b
theorem tX12_draw {G : Gx} {l : Launch} {ly : Ly} {M : Mm} {b : Nat} {x : Int32} (hb : b < 24) (hx : ¬ x = 0) (hR : RW ly M.2.2) : Mt G l mX12_draw (1, 0, 0, false) [.ref 149, .int (nI b), .int x] ly M (Is (some (.int (drR (nxR (M.1 170 b)) x))) ly (sI M 170 (upd (M.1 170) b (nxR (M.1 170 b))))) := by
  refine Mt.is (fun Q hQ => ?_)
  refine Mt.of (lv := [some (.ref 149), some (.int (nI b)), some (.int x)]) rfl ?_
  refine Rn.aload_n dX12_draw_0 rfl ?_
  refine Rn.getR dX12_draw_1 fX12_76 rfl (rc149 hR) (show M.2.2 149 36 = some 170 from (rpt36 hR)) ?_
  refine Rn.iload_n dX12_draw_4 rfl ?_
  refine Rn.aload_n dX12_draw_5 rfl ?_
  refine Rn.getR dX12_draw_6 fX12_76 rfl (rc149 hR) (show M.2.2 149 36 = some 170 from (rpt36 hR)) ?_
  refine Rn.iload_n dX12_draw_9 rfl ?_
  refine Rn.ialdN (k0 := b) dX12_draw_10 (rc170 hR) (by omega) (by decide) ?_
  refine Rn.ldcw dX12_draw_11 kX12_413 ?_
  refine Rn.imul dX12_draw_14 ?_
  refine Rn.sipushv (v := 12345) dX12_draw_15 sp_12345 ?_
  refine Rn.iadd dX12_draw_18 ?_
  refine Rn.ldcw dX12_draw_19 kX12_414 ?_
  refine Rn.iand dX12_draw_22 ?_
  refine Rn.iastN (k0 := b) dX12_draw_23 (rc170 hR) (by omega) (by decide) ?_
  refine Rn.aload_n dX12_draw_24 rfl ?_
  refine Rn.getR dX12_draw_25 fX12_76 rfl (rc149 hR) (show M.2.2 149 36 = some 170 from (rpt36 hR)) ?_
  refine Rn.iload_n dX12_draw_28 rfl ?_
  refine Rn.ialdN (k0 := b) dX12_draw_29 (rc170 hR) (by omega) (by decide) ?_
  refine Rn.topI (y := (((M.1 170 b) * 1103515245) + 12345) &&& 2147483647) (pk_us) ?_
  refine Rn.bipushv (v := 16) dX12_draw_30 bp_16 ?_
  refine Rn.ishr dX12_draw_32 ?_
  refine Rn.iload_n dX12_draw_33 rfl ?_
  refine Rn.irem dX12_draw_34 hx ?_
  exact Rn.iret (ty := .int) dX12_draw_35 rfl rfl hQ
/-- the calm of a cell, of the first k who are fat -/
def cmR (c0 : Int32) (fa fk : Nat → Int32) (x : Int32) : Nat → Int32
  | 0 => c0
  | i + 1 => cmR c0 fa fk x i + (if fa i = x then fk i else 0)
theorem tX12_calmAt {G : Gx} {l : Launch} {ly : Ly} {M : Mm} {b nf : Nat} {x : Int32} (hb : b < 24) (hk : M.1 180 b = nI nf) (hk12 : nf ≤ 12) (ht : ¬ M.1 149 55 = 1) (hR : RW ly M.2.2) : Mt G l mX12_calmAt (1, 0, 0, false) [.ref 149, .int (nI b), .int x] ly M (Is (some (.int (mn 100 (cmR (M.1 151 3) (sh (12 * b) (M.1 181)) (sh (12 * b) (M.1 182)) x nf)))) ly M) := by
  refine Mt.is (fun Q hQ => ?_)
  refine Mt.of (lv := [some (.ref 149), some (.int (nI b)), some (.int x), none, none]) rfl ?_
  refine Rn.aload_n dX12_calmAt_0 rfl ?_
  refine Rn.getR dX12_calmAt_1 fX12_15 rfl (rc149 hR) (show M.2.2 149 3 = some 151 from (rpt3 hR)) ?_
  refine Rn.iconstv (v := 3) dX12_calmAt_4 ic_3 ?_
  refine Rn.iald dX12_calmAt_5 (rc151 hR) (by unfold vp_in; decide) ?_
  refine Rn.topI (y := M.1 151 3) (rfl) ?_
  refine Rn.istore_n (lv' := [some (.ref 149), some (.int (nI b)), some (.int x), some (.int (M.1 151 3)), none]) dX12_calmAt_6 (by decide) rfl ?_
  refine Rn.iconstv (v := 0) dX12_calmAt_7 ic_0 ?_
  refine Rn.istore (lv' := [some (.ref 149), some (.int (nI b)), some (.int x), some (.int (M.1 151 3)), some (.int 0)]) dX12_calmAt_8 (by decide) rfl ?_
  have loop : ∀ (k i : Nat) , i + k = nf → Rn G l mX12_calmAt (1, 0, 0, false) 10 [some (.ref 149), some (.int (nI b)), some (.int x), some (.int (cmR (M.1 151 3) (sh (12 * b) (M.1 181)) (sh (12 * b) (M.1 182)) x i)), some (.int (nI i))] [] ly M Q := by
    intro k
    induction k with
    | zero =>
      intro i  hi 
      refine Rn.iload dX12_calmAt_10 rfl ?_
      refine Rn.aload_n dX12_calmAt_12 rfl ?_
      refine Rn.getR dX12_calmAt_13 fX12_107 rfl (rc149 hR) (show M.2.2 149 46 = some 180 from (rpt46 hR)) ?_
      refine Rn.iload_n dX12_calmAt_16 rfl ?_
      refine Rn.ialdN (k0 := b) dX12_calmAt_17 (rc180 hR) (by omega) (by decide) ?_
      refine Rn.topI (y := nI nf) (hk) ?_
      refine Rn.icmp_ge dX12_calmAt_18 (fun hc => ?_) (fun hc => ?_)
      · skip
        have hi : i = nf := by omega
        subst hi
        refine Rn.bipushv (v := 100) dX12_calmAt_70 bp_100 ?_
        refine Rn.iload_n dX12_calmAt_72 rfl ?_
        refine Rn.mmin dX12_calmAt_73 jX12_346 jw_mmin ⟨(Nat.le_of_ble_eq_true rfl), (Nat.le_of_ble_eq_true rfl)⟩ ?_
        exact Rn.iret (ty := .int) dX12_calmAt_76 rfl rfl hQ
      · exact absurd (nI_le (a := nf) (b := i) (by omega) (by omega)) hc
    | succ k ih =>
      intro i  hi 
      refine Rn.iload dX12_calmAt_10 rfl ?_
      refine Rn.aload_n dX12_calmAt_12 rfl ?_
      refine Rn.getR dX12_calmAt_13 fX12_107 rfl (rc149 hR) (show M.2.2 149 46 = some 180 from (rpt46 hR)) ?_
      refine Rn.iload_n dX12_calmAt_16 rfl ?_
      refine Rn.ialdN (k0 := b) dX12_calmAt_17 (rc180 hR) (by omega) (by decide) ?_
      refine Rn.topI (y := nI nf) (hk) ?_
      refine Rn.icmp_ge dX12_calmAt_18 (fun hc => ?_) (fun hc => ?_)
      · exact absurd hc (nI_ge (a := i) (b := nf) (by omega) (by omega))
      · skip
        refine Rn.aload_n dX12_calmAt_21 rfl ?_
        refine Rn.getI dX12_calmAt_22 fX12_126 rfl (rc149 hR) ?_
        refine Rn.iconstv (v := 1) dX12_calmAt_25 ic_1 ?_
        refine Rn.icmp_eq dX12_calmAt_26 (fun g1 => ?_) (fun g1 => ?_)
        · skip
          exact absurd g1 ht
        · skip
          refine Rn.iload_n dX12_calmAt_29 rfl ?_
          refine Rn.aload_n dX12_calmAt_30 rfl ?_
          refine Rn.getR dX12_calmAt_31 fX12_110 rfl (rc149 hR) (show M.2.2 149 47 = some 181 from (rpt47 hR)) ?_
          refine Rn.bipushv (v := 12) dX12_calmAt_34 bp_12 ?_
          refine Rn.iload_n dX12_calmAt_36 rfl ?_
          refine Rn.imul dX12_calmAt_37 ?_
          refine Rn.topI (y := nI (12 * b)) (nI_mul 12 b) ?_
          refine Rn.iload dX12_calmAt_38 rfl ?_
          refine Rn.iadd dX12_calmAt_40 ?_
          refine Rn.topI (y := nI (12 * b + i)) (nI_add (12 * b) i) ?_
          refine Rn.ialdN (k0 := (12 * b + i)) dX12_calmAt_41 (rc181 hR) (by omega) (by decide) ?_
          refine Rn.iload_n dX12_calmAt_42 rfl ?_
          have join : ∀ y : Int32, y = (if M.1 181 (12 * b + i) = x then M.1 182 (12 * b + i) else 0) → Rn G l mX12_calmAt (1, 0, 0, false) 62 [some (.ref 149), some (.int (nI b)), some (.int x), some (.int (cmR (M.1 151 3) (sh (12 * b) (M.1 181)) (sh (12 * b) (M.1 182)) x i)), some (.int (nI i))] [.int y, .int (cmR (M.1 151 3) (sh (12 * b) (M.1 181)) (sh (12 * b) (M.1 182)) x i)] ly M Q := by
            intro y hy
            refine Rn.iadd dX12_calmAt_62 ?_
            refine Rn.topI (y := cmR (M.1 151 3) (sh (12 * b) (M.1 181)) (sh (12 * b) (M.1 182)) x (i + 1)) (by rw [hy]; rfl) ?_
            refine Rn.istore_n (lv' := [some (.ref 149), some (.int (nI b)), some (.int x), some (.int (cmR (M.1 151 3) (sh (12 * b) (M.1 181)) (sh (12 * b) (M.1 182)) x (i + 1))), some (.int (nI i))]) dX12_calmAt_63 (by decide) rfl ?_
            refine Rn.iincN (lv' := [some (.ref 149), some (.int (nI b)), some (.int x), some (.int (cmR (M.1 151 3) (sh (12 * b) (M.1 181)) (sh (12 * b) (M.1 182)) x (i + 1))), some (.int (nI (i + 1)))]) dX12_calmAt_64 rfl (by decide) rfl ?_
            refine Rn.goto dX12_calmAt_67 ?_
            exact ih (i + 1) (by omega)
          refine Rn.icmp_ne dX12_calmAt_43 (fun g2 => ?_) (fun g2 => ?_)
          · skip
            refine Rn.iconstv (v := 0) dX12_calmAt_61 ic_0 ?_
            exact join 0 (by rw [if_neg g2])
          · skip
            refine Rn.aload_n dX12_calmAt_46 rfl ?_
            refine Rn.getR dX12_calmAt_47 fX12_113 rfl (rc149 hR) (show M.2.2 149 48 = some 182 from (rpt48 hR)) ?_
            refine Rn.bipushv (v := 12) dX12_calmAt_50 bp_12 ?_
            refine Rn.iload_n dX12_calmAt_52 rfl ?_
            refine Rn.imul dX12_calmAt_53 ?_
            refine Rn.topI (y := nI (12 * b)) (nI_mul 12 b) ?_
            refine Rn.iload dX12_calmAt_54 rfl ?_
            refine Rn.iadd dX12_calmAt_56 ?_
            refine Rn.topI (y := nI (12 * b + i)) (nI_add (12 * b) i) ?_
            refine Rn.ialdN (k0 := (12 * b + i)) dX12_calmAt_57 (rc182 hR) (by omega) (by decide) ?_
            refine Rn.goto dX12_calmAt_58 ?_
            exact join _ (by rw [if_pos g2])
  exact loop nf 0 (by omega)
theorem tX12_calmAt1 {G : Gx} {l : Launch} {ly : Ly} {M : Mm} {b : Nat} {x : Int32} (hb : b < 24) (ht : M.1 149 55 = 1) (hR : RW ly M.2.2) : Mt G l mX12_calmAt (1, 0, 0, false) [.ref 149, .int (nI b), .int x] ly M (Is (some (.int (mn 100 (M.1 151 3)))) ly M) := by
  refine Mt.is (fun Q hQ => ?_)
  refine Mt.of (lv := [some (.ref 149), some (.int (nI b)), some (.int x), none, none]) rfl ?_
  refine Rn.aload_n dX12_calmAt_0 rfl ?_
  refine Rn.getR dX12_calmAt_1 fX12_15 rfl (rc149 hR) (show M.2.2 149 3 = some 151 from (rpt3 hR)) ?_
  refine Rn.iconstv (v := 3) dX12_calmAt_4 ic_3 ?_
  refine Rn.iald dX12_calmAt_5 (rc151 hR) (by unfold vp_in; decide) ?_
  refine Rn.topI (y := M.1 151 3) (rfl) ?_
  refine Rn.istore_n (lv' := [some (.ref 149), some (.int (nI b)), some (.int x), some (.int (M.1 151 3)), none]) dX12_calmAt_6 (by decide) rfl ?_
  refine Rn.iconstv (v := 0) dX12_calmAt_7 ic_0 ?_
  refine Rn.istore (lv' := [some (.ref 149), some (.int (nI b)), some (.int x), some (.int (M.1 151 3)), some (.int 0)]) dX12_calmAt_8 (by decide) rfl ?_
  refine Rn.iload dX12_calmAt_10 rfl ?_
  refine Rn.aload_n dX12_calmAt_12 rfl ?_
  refine Rn.getR dX12_calmAt_13 fX12_107 rfl (rc149 hR) (show M.2.2 149 46 = some 180 from (rpt46 hR)) ?_
  refine Rn.iload_n dX12_calmAt_16 rfl ?_
  refine Rn.ialdN (k0 := b) dX12_calmAt_17 (rc180 hR) (by omega) (by decide) ?_
  refine Rn.icmp_ge dX12_calmAt_18 (fun g1 => ?_) (fun g1 => ?_)
  · skip
    refine Rn.bipushv (v := 100) dX12_calmAt_70 bp_100 ?_
    refine Rn.iload_n dX12_calmAt_72 rfl ?_
    refine Rn.mmin dX12_calmAt_73 jX12_346 jw_mmin ⟨(Nat.le_of_ble_eq_true rfl), (Nat.le_of_ble_eq_true rfl)⟩ ?_
    exact Rn.iret (ty := .int) dX12_calmAt_76 rfl rfl hQ
  · skip
    refine Rn.aload_n dX12_calmAt_21 rfl ?_
    refine Rn.getI dX12_calmAt_22 fX12_126 rfl (rc149 hR) ?_
    refine Rn.iconstv (v := 1) dX12_calmAt_25 ic_1 ?_
    refine Rn.icmp_eq dX12_calmAt_26 (fun g2 => ?_) (fun g2 => ?_)
    · skip
      refine Rn.bipushv (v := 100) dX12_calmAt_70 bp_100 ?_
      refine Rn.iload_n dX12_calmAt_72 rfl ?_
      refine Rn.mmin dX12_calmAt_73 jX12_346 jw_mmin ⟨(Nat.le_of_ble_eq_true rfl), (Nat.le_of_ble_eq_true rfl)⟩ ?_
      exact Rn.iret (ty := .int) dX12_calmAt_76 rfl rfl hQ
    · skip
      exact absurd ht g2
theorem tX12_greatest173 {G : Gx} {l : Launch} {ly : Ly} {M : Mm} {b n : Nat} (hb : b < 24) (hn : M.1 151 0 = nI n) (hn12 : n ≤ 12) (hR : RW ly M.2.2) : Mt G l mX12_greatest (2, 0, 0, false) [.ref 149, .int (nI b), .ref 173] ly M (Is (some (.int (gr (sh (12 * b) (M.1 173)) n))) ly M) := by
  refine Mt.is (fun Q hQ => ?_)
  refine Mt.of (lv := [some (.ref 149), some (.int (nI b)), some (.ref 173), none, none]) rfl ?_
  refine Rn.iconstv (v := 0) dX12_greatest_0 ic_0 ?_
  refine Rn.istore_n (lv' := [some (.ref 149), some (.int (nI b)), some (.ref 173), some (.int 0), none]) dX12_greatest_1 (by decide) rfl ?_
  refine Rn.iconstv (v := 0) dX12_greatest_2 ic_0 ?_
  refine Rn.istore (lv' := [some (.ref 149), some (.int (nI b)), some (.ref 173), some (.int 0), some (.int 0)]) dX12_greatest_3 (by decide) rfl ?_
  have loop : ∀ (k i : Nat) , i + k = n → Rn G l mX12_greatest (2, 0, 0, false) 5 [some (.ref 149), some (.int (nI b)), some (.ref 173), some (.int (gr (sh (12 * b) (M.1 173)) i)), some (.int (nI i))] [] ly M Q := by
    intro k
    induction k with
    | zero =>
      intro i  hi 
      refine Rn.iload dX12_greatest_5 rfl ?_
      refine Rn.aload_n dX12_greatest_7 rfl ?_
      refine Rn.getR dX12_greatest_8 fX12_15 rfl (rc149 hR) (show M.2.2 149 3 = some 151 from (rpt3 hR)) ?_
      refine Rn.iconstv (v := 0) dX12_greatest_11 ic_0 ?_
      refine Rn.iald dX12_greatest_12 (rc151 hR) (by unfold vp_in; decide) ?_
      refine Rn.topI (y := M.1 151 0) (rfl) ?_
      refine Rn.topI (y := nI n) (hn) ?_
      refine Rn.icmp_ge dX12_greatest_13 (fun hc => ?_) (fun hc => ?_)
      · skip
        have hi : i = n := by omega
        subst hi
        refine Rn.iload_n dX12_greatest_39 rfl ?_
        exact Rn.iret (ty := .int) dX12_greatest_40 rfl rfl hQ
      · exact absurd (nI_le (a := n) (b := i) (by omega) (by omega)) hc
    | succ k ih =>
      intro i  hi 
      refine Rn.iload dX12_greatest_5 rfl ?_
      refine Rn.aload_n dX12_greatest_7 rfl ?_
      refine Rn.getR dX12_greatest_8 fX12_15 rfl (rc149 hR) (show M.2.2 149 3 = some 151 from (rpt3 hR)) ?_
      refine Rn.iconstv (v := 0) dX12_greatest_11 ic_0 ?_
      refine Rn.iald dX12_greatest_12 (rc151 hR) (by unfold vp_in; decide) ?_
      refine Rn.topI (y := M.1 151 0) (rfl) ?_
      refine Rn.topI (y := nI n) (hn) ?_
      refine Rn.icmp_ge dX12_greatest_13 (fun hc => ?_) (fun hc => ?_)
      · exact absurd hc (nI_ge (a := i) (b := n) (by omega) (by omega))
      · skip
        refine Rn.iload_n dX12_greatest_16 rfl ?_
        refine Rn.aload_n dX12_greatest_17 rfl ?_
        refine Rn.bipushv (v := 12) dX12_greatest_18 bp_12 ?_
        refine Rn.iload_n dX12_greatest_20 rfl ?_
        refine Rn.imul dX12_greatest_21 ?_
        refine Rn.topI (y := nI (12 * b)) (nI_mul 12 b) ?_
        refine Rn.iload dX12_greatest_22 rfl ?_
        refine Rn.iadd dX12_greatest_24 ?_
        refine Rn.topI (y := nI (12 * b + i)) (nI_add (12 * b) i) ?_
        refine Rn.ialdN (k0 := (12 * b + i)) dX12_greatest_25 (rc173 hR) (by omega) (by decide) ?_
        refine Rn.mabs dX12_greatest_26 jX12_441 jw_mabs ⟨(Nat.le_of_ble_eq_true rfl), (Nat.le_of_ble_eq_true rfl)⟩ ?_
        refine Rn.mmax dX12_greatest_29 jX12_351 jw_mmax ⟨(Nat.le_of_ble_eq_true rfl), (Nat.le_of_ble_eq_true rfl)⟩ ?_
        refine Rn.topI (y := gr (sh (12 * b) (M.1 173)) (i + 1)) (rfl) ?_
        refine Rn.istore_n (lv' := [some (.ref 149), some (.int (nI b)), some (.ref 173), some (.int (gr (sh (12 * b) (M.1 173)) (i + 1))), some (.int (nI i))]) dX12_greatest_32 (by decide) rfl ?_
        refine Rn.iincN (lv' := [some (.ref 149), some (.int (nI b)), some (.ref 173), some (.int (gr (sh (12 * b) (M.1 173)) (i + 1))), some (.int (nI (i + 1)))]) dX12_greatest_33 rfl (by decide) rfl ?_
        refine Rn.goto dX12_greatest_36 ?_
        exact ih (i + 1) (by omega)
  exact loop n 0 (by omega)
theorem tX12_greatest175 {G : Gx} {l : Launch} {ly : Ly} {M : Mm} {b n : Nat} (hb : b < 24) (hn : M.1 151 0 = nI n) (hn12 : n ≤ 12) (hR : RW ly M.2.2) : Mt G l mX12_greatest (2, 0, 0, false) [.ref 149, .int (nI b), .ref 175] ly M (Is (some (.int (gr (sh (12 * b) (M.1 175)) n))) ly M) := by
  refine Mt.is (fun Q hQ => ?_)
  refine Mt.of (lv := [some (.ref 149), some (.int (nI b)), some (.ref 175), none, none]) rfl ?_
  refine Rn.iconstv (v := 0) dX12_greatest_0 ic_0 ?_
  refine Rn.istore_n (lv' := [some (.ref 149), some (.int (nI b)), some (.ref 175), some (.int 0), none]) dX12_greatest_1 (by decide) rfl ?_
  refine Rn.iconstv (v := 0) dX12_greatest_2 ic_0 ?_
  refine Rn.istore (lv' := [some (.ref 149), some (.int (nI b)), some (.ref 175), some (.int 0), some (.int 0)]) dX12_greatest_3 (by decide) rfl ?_
  have loop : ∀ (k i : Nat) , i + k = n → Rn G l mX12_greatest (2, 0, 0, false) 5 [some (.ref 149), some (.int (nI b)), some (.ref 175), some (.int (gr (sh (12 * b) (M.1 175)) i)), some (.int (nI i))] [] ly M Q := by
    intro k
    induction k with
    | zero =>
      intro i  hi 
      refine Rn.iload dX12_greatest_5 rfl ?_
      refine Rn.aload_n dX12_greatest_7 rfl ?_
      refine Rn.getR dX12_greatest_8 fX12_15 rfl (rc149 hR) (show M.2.2 149 3 = some 151 from (rpt3 hR)) ?_
      refine Rn.iconstv (v := 0) dX12_greatest_11 ic_0 ?_
      refine Rn.iald dX12_greatest_12 (rc151 hR) (by unfold vp_in; decide) ?_
      refine Rn.topI (y := M.1 151 0) (rfl) ?_
      refine Rn.topI (y := nI n) (hn) ?_
      refine Rn.icmp_ge dX12_greatest_13 (fun hc => ?_) (fun hc => ?_)
      · skip
        have hi : i = n := by omega
        subst hi
        refine Rn.iload_n dX12_greatest_39 rfl ?_
        exact Rn.iret (ty := .int) dX12_greatest_40 rfl rfl hQ
      · exact absurd (nI_le (a := n) (b := i) (by omega) (by omega)) hc
    | succ k ih =>
      intro i  hi 
      refine Rn.iload dX12_greatest_5 rfl ?_
      refine Rn.aload_n dX12_greatest_7 rfl ?_
      refine Rn.getR dX12_greatest_8 fX12_15 rfl (rc149 hR) (show M.2.2 149 3 = some 151 from (rpt3 hR)) ?_
      refine Rn.iconstv (v := 0) dX12_greatest_11 ic_0 ?_
      refine Rn.iald dX12_greatest_12 (rc151 hR) (by unfold vp_in; decide) ?_
      refine Rn.topI (y := M.1 151 0) (rfl) ?_
      refine Rn.topI (y := nI n) (hn) ?_
      refine Rn.icmp_ge dX12_greatest_13 (fun hc => ?_) (fun hc => ?_)
      · exact absurd hc (nI_ge (a := i) (b := n) (by omega) (by omega))
      · skip
        refine Rn.iload_n dX12_greatest_16 rfl ?_
        refine Rn.aload_n dX12_greatest_17 rfl ?_
        refine Rn.bipushv (v := 12) dX12_greatest_18 bp_12 ?_
        refine Rn.iload_n dX12_greatest_20 rfl ?_
        refine Rn.imul dX12_greatest_21 ?_
        refine Rn.topI (y := nI (12 * b)) (nI_mul 12 b) ?_
        refine Rn.iload dX12_greatest_22 rfl ?_
        refine Rn.iadd dX12_greatest_24 ?_
        refine Rn.topI (y := nI (12 * b + i)) (nI_add (12 * b) i) ?_
        refine Rn.ialdN (k0 := (12 * b + i)) dX12_greatest_25 (rc175 hR) (by omega) (by decide) ?_
        refine Rn.mabs dX12_greatest_26 jX12_441 jw_mabs ⟨(Nat.le_of_ble_eq_true rfl), (Nat.le_of_ble_eq_true rfl)⟩ ?_
        refine Rn.mmax dX12_greatest_29 jX12_351 jw_mmax ⟨(Nat.le_of_ble_eq_true rfl), (Nat.le_of_ble_eq_true rfl)⟩ ?_
        refine Rn.topI (y := gr (sh (12 * b) (M.1 175)) (i + 1)) (rfl) ?_
        refine Rn.istore_n (lv' := [some (.ref 149), some (.int (nI b)), some (.ref 175), some (.int (gr (sh (12 * b) (M.1 175)) (i + 1))), some (.int (nI i))]) dX12_greatest_32 (by decide) rfl ?_
        refine Rn.iincN (lv' := [some (.ref 149), some (.int (nI b)), some (.ref 175), some (.int (gr (sh (12 * b) (M.1 175)) (i + 1))), some (.int (nI (i + 1)))]) dX12_greatest_33 rfl (by decide) rfl ?_
        refine Rn.goto dX12_greatest_36 ?_
        exact ih (i + 1) (by omega)
  exact loop n 0 (by omega)
theorem tX12_leaves {G : Gx} {l : Launch} {ly : Ly} {M : Mm} {b w : Nat} (hb : b < 24) (hw : w < 6) (hR : RW ly M.2.2) : Mt G l mX12_leaves (1, 0, 0, false) [.ref 149, .int (nI b), .int (nI w)] ly M (Is none ly (sI (sI M 179 (upd (M.1 179) (6 * b + w) 2)) 177 (upd (M.1 177) (6 * b + w) (-1)))) := by
  refine Mt.is (fun Q hQ => ?_)
  refine Mt.of (lv := [some (.ref 149), some (.int (nI b)), some (.int (nI w))]) rfl ?_
  refine Rn.aload_n dX12_leaves_0 rfl ?_
  refine Rn.getR dX12_leaves_1 fX12_104 rfl (rc149 hR) (show M.2.2 149 45 = some 179 from (rpt45 hR)) ?_
  refine Rn.bipushv (v := 6) dX12_leaves_4 bp_6 ?_
  refine Rn.iload_n dX12_leaves_6 rfl ?_
  refine Rn.imul dX12_leaves_7 ?_
  refine Rn.topI (y := nI (6 * b)) (nI_mul 6 b) ?_
  refine Rn.iload_n dX12_leaves_8 rfl ?_
  refine Rn.iadd dX12_leaves_9 ?_
  refine Rn.topI (y := nI (6 * b + w)) (nI_add (6 * b) w) ?_
  refine Rn.iconstv (v := 2) dX12_leaves_10 ic_2 ?_
  refine Rn.iastN (k0 := (6 * b + w)) dX12_leaves_11 (rc179 hR) (by omega) (by decide) ?_
  refine Rn.aload_n dX12_leaves_12 rfl ?_
  refine Rn.getR dX12_leaves_13 fX12_98 rfl (rc149 hR) (show M.2.2 149 43 = some 177 from (rpt43 hR)) ?_
  refine Rn.bipushv (v := 6) dX12_leaves_16 bp_6 ?_
  refine Rn.iload_n dX12_leaves_18 rfl ?_
  refine Rn.imul dX12_leaves_19 ?_
  refine Rn.topI (y := nI (6 * b)) (nI_mul 6 b) ?_
  refine Rn.iload_n dX12_leaves_20 rfl ?_
  refine Rn.iadd dX12_leaves_21 ?_
  refine Rn.topI (y := nI (6 * b + w)) (nI_add (6 * b) w) ?_
  refine Rn.iconstv (v := -1) dX12_leaves_22 ic_m1 ?_
  refine Rn.iastN (k0 := (6 * b + w)) dX12_leaves_23 (rc177 hR) (by omega) (by decide) ?_
  exact Rn.vret dX12_leaves_24 rfl hQ
theorem tX12_grows {G : Gx} {l : Launch} {ly : Ly} {M : Mm} {b nf : Nat} {x y : Int32} (hb : b < 24) (hk : M.1 180 b = nI nf) (hk12 : nf < 12) (hR : RW ly M.2.2) : Mt G l mX12_grows (1, 0, 0, false) [.ref 149, .int (nI b), .int x, .int y] ly M (Is none ly (sI (sI (sI M 181 (upd (M.1 181) (12 * b + nf) x)) 182 (upd (M.1 182) (12 * b + nf) y)) 180 (upd (M.1 180) b (nI (nf + 1))))) := by
  refine Mt.is (fun Q hQ => ?_)
  refine Mt.of (lv := [some (.ref 149), some (.int (nI b)), some (.int x), some (.int y)]) rfl ?_
  refine Rn.aload_n dX12_grows_0 rfl ?_
  refine Rn.getR dX12_grows_1 fX12_110 rfl (rc149 hR) (show M.2.2 149 47 = some 181 from (rpt47 hR)) ?_
  refine Rn.bipushv (v := 12) dX12_grows_4 bp_12 ?_
  refine Rn.iload_n dX12_grows_6 rfl ?_
  refine Rn.imul dX12_grows_7 ?_
  refine Rn.topI (y := nI (12 * b)) (nI_mul 12 b) ?_
  refine Rn.aload_n dX12_grows_8 rfl ?_
  refine Rn.getR dX12_grows_9 fX12_107 rfl (rc149 hR) (show M.2.2 149 46 = some 180 from (rpt46 hR)) ?_
  refine Rn.iload_n dX12_grows_12 rfl ?_
  refine Rn.ialdN (k0 := b) dX12_grows_13 (rc180 hR) (by omega) (by decide) ?_
  refine Rn.topI (y := nI nf) (hk) ?_
  refine Rn.iadd dX12_grows_14 ?_
  refine Rn.topI (y := nI (12 * b + nf)) (nI_add (12 * b) nf) ?_
  refine Rn.iload_n dX12_grows_15 rfl ?_
  refine Rn.iastN (k0 := (12 * b + nf)) dX12_grows_16 (rc181 hR) (by omega) (by decide) ?_
  refine Rn.aload_n dX12_grows_17 rfl ?_
  refine Rn.getR dX12_grows_18 fX12_113 rfl (rc149 hR) (show M.2.2 149 48 = some 182 from (rpt48 hR)) ?_
  refine Rn.bipushv (v := 12) dX12_grows_21 bp_12 ?_
  refine Rn.iload_n dX12_grows_23 rfl ?_
  refine Rn.imul dX12_grows_24 ?_
  refine Rn.topI (y := nI (12 * b)) (nI_mul 12 b) ?_
  refine Rn.aload_n dX12_grows_25 rfl ?_
  refine Rn.getR dX12_grows_26 fX12_107 rfl (rc149 hR) (show M.2.2 149 46 = some 180 from (rpt46 hR)) ?_
  refine Rn.iload_n dX12_grows_29 rfl ?_
  refine Rn.ialdN (k0 := b) dX12_grows_30 (rc180 hR) (by omega) (by decide) ?_
  refine Rn.topI (y := nI nf) (hk) ?_
  refine Rn.iadd dX12_grows_31 ?_
  refine Rn.topI (y := nI (12 * b + nf)) (nI_add (12 * b) nf) ?_
  refine Rn.iload_n dX12_grows_32 rfl ?_
  refine Rn.iastN (k0 := (12 * b + nf)) dX12_grows_33 (rc182 hR) (by omega) (by decide) ?_
  refine Rn.aload_n dX12_grows_34 rfl ?_
  refine Rn.getR dX12_grows_35 fX12_107 rfl (rc149 hR) (show M.2.2 149 46 = some 180 from (rpt46 hR)) ?_
  refine Rn.iload_n dX12_grows_38 rfl ?_
  refine Rn.dup2 dX12_grows_39 rfl rfl ?_
  refine Rn.ialdN (k0 := b) dX12_grows_40 (rc180 hR) (by omega) (by decide) ?_
  refine Rn.topI (y := nI nf) (hk) ?_
  refine Rn.iconstv (v := 1) dX12_grows_41 ic_1 ?_
  refine Rn.iadd dX12_grows_42 ?_
  refine Rn.topI (y := nI (nf + 1)) (nI_add nf 1) ?_
  refine Rn.iastN (k0 := b) dX12_grows_43 (rc180 hR) (by omega) (by decide) ?_
  exact Rn.vret dX12_grows_44 rfl hQ
theorem tX12_rests {G : Gx} {l : Launch} {ly : Ly} {M : Mm} {b : Nat} (hb : b < 24) (hR : RW ly M.2.2) : Mt G l mX12_rests (1, 0, 0, false) [.ref 149, .int (nI b)] ly M (Is none ly (sI (sI (sI (sI (sI (sI (sI (sI (sI M 169 (upd (M.1 169) b 0)) 172 (upd (M.1 172) b 0)) 173 (blk (12 * b) 12 (fun _ => 0) (M.1 173))) 174 (blk (12 * b) 12 (fun _ => 0) (M.1 174))) 175 (blk (12 * b) 12 (fun _ => 0) (M.1 175))) 176 (blk (12 * b) 12 (fun _ => 0) (M.1 176))) 177 (blk (6 * b) 6 (fun _ => -1) (M.1 177))) 178 (blk (6 * b) 6 (fun _ => 0) (M.1 178))) 179 (blk (6 * b) 6 (fun _ => 0) (M.1 179)))) := by
  refine Mt.is (fun Q hQ => ?_)
  refine Mt.of (lv := [some (.ref 149), some (.int (nI b)), none]) rfl ?_
  refine Rn.aload_n dX12_rests_0 rfl ?_
  refine Rn.getR dX12_rests_1 fX12_73 rfl (rc149 hR) (show M.2.2 149 35 = some 169 from (rpt35 hR)) ?_
  refine Rn.iload_n dX12_rests_4 rfl ?_
  refine Rn.iconstv (v := 0) dX12_rests_5 ic_0 ?_
  refine Rn.iastN (k0 := b) dX12_rests_6 (rc169 hR) (by omega) (by decide) ?_
  refine Rn.aload_n dX12_rests_7 rfl ?_
  refine Rn.getR dX12_rests_8 fX12_83 rfl (rc149 hR) (show M.2.2 149 38 = some 172 from (rpt38 hR)) ?_
  refine Rn.iload_n dX12_rests_11 rfl ?_
  refine Rn.iconstv (v := 0) dX12_rests_12 ic_0 ?_
  refine Rn.iastN (k0 := b) dX12_rests_13 (rc172 hR) (by omega) (by decide) ?_
  refine Rn.iconstv (v := 0) dX12_rests_14 ic_0 ?_
  refine Rn.istore_n (lv' := [some (.ref 149), some (.int (nI b)), some (.int 0)]) dX12_rests_15 (by decide) rfl ?_
  refine Rn.meq (M2 := sI (sI (sI (sI (sI (sI M 169 (upd (M.1 169) b 0)) 172 (upd (M.1 172) b 0)) 173 (blk (12 * b) 0 (fun _ => 0) (M.1 173))) 174 (blk (12 * b) 0 (fun _ => 0) (M.1 174))) 175 (blk (12 * b) 0 (fun _ => 0) (M.1 175))) 176 (blk (12 * b) 0 (fun _ => 0) (M.1 176))) (by simp only [blk_0]; exact Eq.symm ((sI_sf rfl).trans ((sI_sf rfl).trans ((sI_sf rfl).trans (sI_sf rfl))))) ?_
  have loop : ∀ (k i : Nat) , i + k = 12 → Rn G l mX12_rests (1, 0, 0, false) 16 [some (.ref 149), some (.int (nI b)), some (.int (nI i))] [] ly (sI (sI (sI (sI (sI (sI M 169 (upd (M.1 169) b 0)) 172 (upd (M.1 172) b 0)) 173 (blk (12 * b) i (fun _ => 0) (M.1 173))) 174 (blk (12 * b) i (fun _ => 0) (M.1 174))) 175 (blk (12 * b) i (fun _ => 0) (M.1 175))) 176 (blk (12 * b) i (fun _ => 0) (M.1 176))) Q := by
    intro k
    induction k with
    | zero =>
      intro i  hi 
      refine Rn.iload_n dX12_rests_16 rfl ?_
      refine Rn.bipushv (v := 12) dX12_rests_17 bp_12 ?_
      refine Rn.icmp_ge dX12_rests_19 (fun hc => ?_) (fun hc => ?_)
      · skip
        have hi : i = 12 := by omega
        subst hi
        refine Rn.iconstv (v := 0) dX12_rests_76 ic_0 ?_
        refine Rn.istore_n (lv' := [some (.ref 149), some (.int (nI b)), some (.int 0)]) dX12_rests_77 (by decide) rfl ?_
        refine Rn.meq (M2 := sI (sI (sI (sI (sI (sI (sI (sI (sI M 169 (upd (M.1 169) b 0)) 172 (upd (M.1 172) b 0)) 173 (blk (12 * b) 12 (fun _ => 0) (M.1 173))) 174 (blk (12 * b) 12 (fun _ => 0) (M.1 174))) 175 (blk (12 * b) 12 (fun _ => 0) (M.1 175))) 176 (blk (12 * b) 12 (fun _ => 0) (M.1 176))) 177 (blk (6 * b) 0 (fun _ => -1) (M.1 177))) 178 (blk (6 * b) 0 (fun _ => 0) (M.1 178))) 179 (blk (6 * b) 0 (fun _ => 0) (M.1 179))) (by simp only [blk_0]; exact Eq.symm ((sI_sf rfl).trans ((sI_sf rfl).trans (sI_sf rfl)))) ?_
        have loop2 : ∀ (k i : Nat) , i + k = 6 → Rn G l mX12_rests (1, 0, 0, false) 78 [some (.ref 149), some (.int (nI b)), some (.int (nI i))] [] ly (sI (sI (sI (sI (sI (sI (sI (sI (sI M 169 (upd (M.1 169) b 0)) 172 (upd (M.1 172) b 0)) 173 (blk (12 * b) 12 (fun _ => 0) (M.1 173))) 174 (blk (12 * b) 12 (fun _ => 0) (M.1 174))) 175 (blk (12 * b) 12 (fun _ => 0) (M.1 175))) 176 (blk (12 * b) 12 (fun _ => 0) (M.1 176))) 177 (blk (6 * b) i (fun _ => -1) (M.1 177))) 178 (blk (6 * b) i (fun _ => 0) (M.1 178))) 179 (blk (6 * b) i (fun _ => 0) (M.1 179))) Q := by
          intro k
          induction k with
          | zero =>
            intro i  hi 
            refine Rn.iload_n dX12_rests_78 rfl ?_
            refine Rn.bipushv (v := 6) dX12_rests_79 bp_6 ?_
            refine Rn.icmp_ge dX12_rests_81 (fun hc => ?_) (fun hc => ?_)
            · skip
              have hi : i = 6 := by omega
              subst hi
              exact Rn.vret dX12_rests_126 rfl hQ
            · exact absurd (nI_le (a := 6) (b := i) (by omega) (by omega)) hc
          | succ k ih =>
            intro i  hi 
            refine Rn.iload_n dX12_rests_78 rfl ?_
            refine Rn.bipushv (v := 6) dX12_rests_79 bp_6 ?_
            refine Rn.icmp_ge dX12_rests_81 (fun hc => ?_) (fun hc => ?_)
            · exact absurd hc (nI_ge (a := i) (b := 6) (by omega) (by omega))
            · skip
              refine Rn.aload_n dX12_rests_84 rfl ?_
              refine Rn.getR dX12_rests_85 fX12_98 rfl (rc149 hR) (show M.2.2 149 43 = some 177 from (rpt43 hR)) ?_
              refine Rn.bipushv (v := 6) dX12_rests_88 bp_6 ?_
              refine Rn.iload_n dX12_rests_90 rfl ?_
              refine Rn.imul dX12_rests_91 ?_
              refine Rn.topI (y := nI (6 * b)) (nI_mul 6 b) ?_
              refine Rn.iload_n dX12_rests_92 rfl ?_
              refine Rn.iadd dX12_rests_93 ?_
              refine Rn.topI (y := nI (6 * b + i)) (nI_add (6 * b) i) ?_
              refine Rn.iconstv (v := -1) dX12_rests_94 ic_m1 ?_
              refine Rn.iastN (k0 := (6 * b + i)) dX12_rests_95 (rc177 hR) (by omega) (by decide) ?_
              refine Rn.meq (M2 := sI (sI (sI (sI (sI (sI (sI (sI (sI M 169 (upd (M.1 169) b 0)) 172 (upd (M.1 172) b 0)) 173 (blk (12 * b) 12 (fun _ => 0) (M.1 173))) 174 (blk (12 * b) 12 (fun _ => 0) (M.1 174))) 175 (blk (12 * b) 12 (fun _ => 0) (M.1 175))) 176 (blk (12 * b) 12 (fun _ => 0) (M.1 176))) 177 (upd (blk (6 * b) i (fun _ => -1) (M.1 177)) (6 * b + i) (-1))) 178 (blk (6 * b) i (fun _ => 0) (M.1 178))) 179 (blk (6 * b) i (fun _ => 0) (M.1 179))) ((sI_comm (show 179 ≠ 177 by decide)).trans (congrArg (fun m9 => sI m9 179 (blk (6 * b) i (fun _ => 0) (M.1 179))) ((sI_comm (show 178 ≠ 177 by decide)).trans (congrArg (fun m9 => sI m9 178 (blk (6 * b) i (fun _ => 0) (M.1 178))) (sI_sI _ _ _ _))))) ?_
              refine Rn.aload_n dX12_rests_96 rfl ?_
              refine Rn.getR dX12_rests_97 fX12_101 rfl (rc149 hR) (show M.2.2 149 44 = some 178 from (rpt44 hR)) ?_
              refine Rn.bipushv (v := 6) dX12_rests_100 bp_6 ?_
              refine Rn.iload_n dX12_rests_102 rfl ?_
              refine Rn.imul dX12_rests_103 ?_
              refine Rn.topI (y := nI (6 * b)) (nI_mul 6 b) ?_
              refine Rn.iload_n dX12_rests_104 rfl ?_
              refine Rn.iadd dX12_rests_105 ?_
              refine Rn.topI (y := nI (6 * b + i)) (nI_add (6 * b) i) ?_
              refine Rn.iconstv (v := 0) dX12_rests_106 ic_0 ?_
              refine Rn.iastN (k0 := (6 * b + i)) dX12_rests_107 (rc178 hR) (by omega) (by decide) ?_
              refine Rn.meq (M2 := sI (sI (sI (sI (sI (sI (sI (sI (sI M 169 (upd (M.1 169) b 0)) 172 (upd (M.1 172) b 0)) 173 (blk (12 * b) 12 (fun _ => 0) (M.1 173))) 174 (blk (12 * b) 12 (fun _ => 0) (M.1 174))) 175 (blk (12 * b) 12 (fun _ => 0) (M.1 175))) 176 (blk (12 * b) 12 (fun _ => 0) (M.1 176))) 177 (upd (blk (6 * b) i (fun _ => -1) (M.1 177)) (6 * b + i) (-1))) 178 (upd (blk (6 * b) i (fun _ => 0) (M.1 178)) (6 * b + i) 0)) 179 (blk (6 * b) i (fun _ => 0) (M.1 179))) ((sI_comm (show 179 ≠ 178 by decide)).trans (congrArg (fun m9 => sI m9 179 (blk (6 * b) i (fun _ => 0) (M.1 179))) (sI_sI _ _ _ _))) ?_
              refine Rn.aload_n dX12_rests_108 rfl ?_
              refine Rn.getR dX12_rests_109 fX12_104 rfl (rc149 hR) (show M.2.2 149 45 = some 179 from (rpt45 hR)) ?_
              refine Rn.bipushv (v := 6) dX12_rests_112 bp_6 ?_
              refine Rn.iload_n dX12_rests_114 rfl ?_
              refine Rn.imul dX12_rests_115 ?_
              refine Rn.topI (y := nI (6 * b)) (nI_mul 6 b) ?_
              refine Rn.iload_n dX12_rests_116 rfl ?_
              refine Rn.iadd dX12_rests_117 ?_
              refine Rn.topI (y := nI (6 * b + i)) (nI_add (6 * b) i) ?_
              refine Rn.iconstv (v := 0) dX12_rests_118 ic_0 ?_
              refine Rn.iastN (k0 := (6 * b + i)) dX12_rests_119 (rc179 hR) (by omega) (by decide) ?_
              refine Rn.meq (M2 := sI (sI (sI (sI (sI (sI (sI (sI (sI M 169 (upd (M.1 169) b 0)) 172 (upd (M.1 172) b 0)) 173 (blk (12 * b) 12 (fun _ => 0) (M.1 173))) 174 (blk (12 * b) 12 (fun _ => 0) (M.1 174))) 175 (blk (12 * b) 12 (fun _ => 0) (M.1 175))) 176 (blk (12 * b) 12 (fun _ => 0) (M.1 176))) 177 (upd (blk (6 * b) i (fun _ => -1) (M.1 177)) (6 * b + i) (-1))) 178 (upd (blk (6 * b) i (fun _ => 0) (M.1 178)) (6 * b + i) 0)) 179 (upd (blk (6 * b) i (fun _ => 0) (M.1 179)) (6 * b + i) 0)) (sI_sI _ _ _ _) ?_
              refine Rn.meq (M2 := sI (sI (sI (sI (sI (sI (sI (sI (sI M 169 (upd (M.1 169) b 0)) 172 (upd (M.1 172) b 0)) 173 (blk (12 * b) 12 (fun _ => 0) (M.1 173))) 174 (blk (12 * b) 12 (fun _ => 0) (M.1 174))) 175 (blk (12 * b) 12 (fun _ => 0) (M.1 175))) 176 (blk (12 * b) 12 (fun _ => 0) (M.1 176))) 177 (blk (6 * b) (i + 1) (fun _ => -1) (M.1 177))) 178 (upd (blk (6 * b) i (fun _ => 0) (M.1 178)) (6 * b + i) 0)) 179 (upd (blk (6 * b) i (fun _ => 0) (M.1 179)) (6 * b + i) 0)) (congrArg (fun m9 => sI m9 179 (upd (blk (6 * b) i (fun _ => 0) (M.1 179)) (6 * b + i) 0)) (congrArg (fun m9 => sI m9 178 (upd (blk (6 * b) i (fun _ => 0) (M.1 178)) (6 * b + i) 0)) (congrArg (fun r9 => sI (sI (sI (sI (sI (sI (sI M 169 (upd (M.1 169) b 0)) 172 (upd (M.1 172) b 0)) 173 (blk (12 * b) 12 (fun _ => 0) (M.1 173))) 174 (blk (12 * b) 12 (fun _ => 0) (M.1 174))) 175 (blk (12 * b) 12 (fun _ => 0) (M.1 175))) 176 (blk (12 * b) 12 (fun _ => 0) (M.1 176))) 177 r9) (blk_up (6 * b) i (fun _ => -1) (M.1 177))))) ?_
              refine Rn.meq (M2 := sI (sI (sI (sI (sI (sI (sI (sI (sI M 169 (upd (M.1 169) b 0)) 172 (upd (M.1 172) b 0)) 173 (blk (12 * b) 12 (fun _ => 0) (M.1 173))) 174 (blk (12 * b) 12 (fun _ => 0) (M.1 174))) 175 (blk (12 * b) 12 (fun _ => 0) (M.1 175))) 176 (blk (12 * b) 12 (fun _ => 0) (M.1 176))) 177 (blk (6 * b) (i + 1) (fun _ => -1) (M.1 177))) 178 (blk (6 * b) (i + 1) (fun _ => 0) (M.1 178))) 179 (upd (blk (6 * b) i (fun _ => 0) (M.1 179)) (6 * b + i) 0)) (congrArg (fun m9 => sI m9 179 (upd (blk (6 * b) i (fun _ => 0) (M.1 179)) (6 * b + i) 0)) (congrArg (fun r9 => sI (sI (sI (sI (sI (sI (sI (sI M 169 (upd (M.1 169) b 0)) 172 (upd (M.1 172) b 0)) 173 (blk (12 * b) 12 (fun _ => 0) (M.1 173))) 174 (blk (12 * b) 12 (fun _ => 0) (M.1 174))) 175 (blk (12 * b) 12 (fun _ => 0) (M.1 175))) 176 (blk (12 * b) 12 (fun _ => 0) (M.1 176))) 177 (blk (6 * b) (i + 1) (fun _ => -1) (M.1 177))) 178 r9) (blk_up (6 * b) i (fun _ => 0) (M.1 178)))) ?_
              refine Rn.meq (M2 := sI (sI (sI (sI (sI (sI (sI (sI (sI M 169 (upd (M.1 169) b 0)) 172 (upd (M.1 172) b 0)) 173 (blk (12 * b) 12 (fun _ => 0) (M.1 173))) 174 (blk (12 * b) 12 (fun _ => 0) (M.1 174))) 175 (blk (12 * b) 12 (fun _ => 0) (M.1 175))) 176 (blk (12 * b) 12 (fun _ => 0) (M.1 176))) 177 (blk (6 * b) (i + 1) (fun _ => -1) (M.1 177))) 178 (blk (6 * b) (i + 1) (fun _ => 0) (M.1 178))) 179 (blk (6 * b) (i + 1) (fun _ => 0) (M.1 179))) (congrArg (fun r9 => sI (sI (sI (sI (sI (sI (sI (sI (sI M 169 (upd (M.1 169) b 0)) 172 (upd (M.1 172) b 0)) 173 (blk (12 * b) 12 (fun _ => 0) (M.1 173))) 174 (blk (12 * b) 12 (fun _ => 0) (M.1 174))) 175 (blk (12 * b) 12 (fun _ => 0) (M.1 175))) 176 (blk (12 * b) 12 (fun _ => 0) (M.1 176))) 177 (blk (6 * b) (i + 1) (fun _ => -1) (M.1 177))) 178 (blk (6 * b) (i + 1) (fun _ => 0) (M.1 178))) 179 r9) (blk_up (6 * b) i (fun _ => 0) (M.1 179))) ?_
              refine Rn.iincN (lv' := [some (.ref 149), some (.int (nI b)), some (.int (nI (i + 1)))]) dX12_rests_120 rfl (by decide) rfl ?_
              refine Rn.goto dX12_rests_123 ?_
              exact ih (i + 1) (by omega)
        exact loop2 6 0 (by omega)
      · exact absurd (nI_le (a := 12) (b := i) (by omega) (by omega)) hc
    | succ k ih =>
      intro i  hi 
      refine Rn.iload_n dX12_rests_16 rfl ?_
      refine Rn.bipushv (v := 12) dX12_rests_17 bp_12 ?_
      refine Rn.icmp_ge dX12_rests_19 (fun hc => ?_) (fun hc => ?_)
      · exact absurd hc (nI_ge (a := i) (b := 12) (by omega) (by omega))
      · skip
        refine Rn.aload_n dX12_rests_22 rfl ?_
        refine Rn.getR dX12_rests_23 fX12_86 rfl (rc149 hR) (show M.2.2 149 39 = some 173 from (rpt39 hR)) ?_
        refine Rn.bipushv (v := 12) dX12_rests_26 bp_12 ?_
        refine Rn.iload_n dX12_rests_28 rfl ?_
        refine Rn.imul dX12_rests_29 ?_
        refine Rn.topI (y := nI (12 * b)) (nI_mul 12 b) ?_
        refine Rn.iload_n dX12_rests_30 rfl ?_
        refine Rn.iadd dX12_rests_31 ?_
        refine Rn.topI (y := nI (12 * b + i)) (nI_add (12 * b) i) ?_
        refine Rn.iconstv (v := 0) dX12_rests_32 ic_0 ?_
        refine Rn.iastN (k0 := (12 * b + i)) dX12_rests_33 (rc173 hR) (by omega) (by decide) ?_
        refine Rn.meq (M2 := sI (sI (sI (sI (sI (sI M 169 (upd (M.1 169) b 0)) 172 (upd (M.1 172) b 0)) 173 (upd (blk (12 * b) i (fun _ => 0) (M.1 173)) (12 * b + i) 0)) 174 (blk (12 * b) i (fun _ => 0) (M.1 174))) 175 (blk (12 * b) i (fun _ => 0) (M.1 175))) 176 (blk (12 * b) i (fun _ => 0) (M.1 176))) ((sI_comm (show 176 ≠ 173 by decide)).trans (congrArg (fun m9 => sI m9 176 (blk (12 * b) i (fun _ => 0) (M.1 176))) ((sI_comm (show 175 ≠ 173 by decide)).trans (congrArg (fun m9 => sI m9 175 (blk (12 * b) i (fun _ => 0) (M.1 175))) ((sI_comm (show 174 ≠ 173 by decide)).trans (congrArg (fun m9 => sI m9 174 (blk (12 * b) i (fun _ => 0) (M.1 174))) (sI_sI _ _ _ _))))))) ?_
        refine Rn.aload_n dX12_rests_34 rfl ?_
        refine Rn.getR dX12_rests_35 fX12_89 rfl (rc149 hR) (show M.2.2 149 40 = some 174 from (rpt40 hR)) ?_
        refine Rn.bipushv (v := 12) dX12_rests_38 bp_12 ?_
        refine Rn.iload_n dX12_rests_40 rfl ?_
        refine Rn.imul dX12_rests_41 ?_
        refine Rn.topI (y := nI (12 * b)) (nI_mul 12 b) ?_
        refine Rn.iload_n dX12_rests_42 rfl ?_
        refine Rn.iadd dX12_rests_43 ?_
        refine Rn.topI (y := nI (12 * b + i)) (nI_add (12 * b) i) ?_
        refine Rn.iconstv (v := 0) dX12_rests_44 ic_0 ?_
        refine Rn.iastN (k0 := (12 * b + i)) dX12_rests_45 (rc174 hR) (by omega) (by decide) ?_
        refine Rn.meq (M2 := sI (sI (sI (sI (sI (sI M 169 (upd (M.1 169) b 0)) 172 (upd (M.1 172) b 0)) 173 (upd (blk (12 * b) i (fun _ => 0) (M.1 173)) (12 * b + i) 0)) 174 (upd (blk (12 * b) i (fun _ => 0) (M.1 174)) (12 * b + i) 0)) 175 (blk (12 * b) i (fun _ => 0) (M.1 175))) 176 (blk (12 * b) i (fun _ => 0) (M.1 176))) ((sI_comm (show 176 ≠ 174 by decide)).trans (congrArg (fun m9 => sI m9 176 (blk (12 * b) i (fun _ => 0) (M.1 176))) ((sI_comm (show 175 ≠ 174 by decide)).trans (congrArg (fun m9 => sI m9 175 (blk (12 * b) i (fun _ => 0) (M.1 175))) (sI_sI _ _ _ _))))) ?_
        refine Rn.aload_n dX12_rests_46 rfl ?_
        refine Rn.getR dX12_rests_47 fX12_92 rfl (rc149 hR) (show M.2.2 149 41 = some 175 from (rpt41 hR)) ?_
        refine Rn.bipushv (v := 12) dX12_rests_50 bp_12 ?_
        refine Rn.iload_n dX12_rests_52 rfl ?_
        refine Rn.imul dX12_rests_53 ?_
        refine Rn.topI (y := nI (12 * b)) (nI_mul 12 b) ?_
        refine Rn.iload_n dX12_rests_54 rfl ?_
        refine Rn.iadd dX12_rests_55 ?_
        refine Rn.topI (y := nI (12 * b + i)) (nI_add (12 * b) i) ?_
        refine Rn.iconstv (v := 0) dX12_rests_56 ic_0 ?_
        refine Rn.iastN (k0 := (12 * b + i)) dX12_rests_57 (rc175 hR) (by omega) (by decide) ?_
        refine Rn.meq (M2 := sI (sI (sI (sI (sI (sI M 169 (upd (M.1 169) b 0)) 172 (upd (M.1 172) b 0)) 173 (upd (blk (12 * b) i (fun _ => 0) (M.1 173)) (12 * b + i) 0)) 174 (upd (blk (12 * b) i (fun _ => 0) (M.1 174)) (12 * b + i) 0)) 175 (upd (blk (12 * b) i (fun _ => 0) (M.1 175)) (12 * b + i) 0)) 176 (blk (12 * b) i (fun _ => 0) (M.1 176))) ((sI_comm (show 176 ≠ 175 by decide)).trans (congrArg (fun m9 => sI m9 176 (blk (12 * b) i (fun _ => 0) (M.1 176))) (sI_sI _ _ _ _))) ?_
        refine Rn.aload_n dX12_rests_58 rfl ?_
        refine Rn.getR dX12_rests_59 fX12_95 rfl (rc149 hR) (show M.2.2 149 42 = some 176 from (rpt42 hR)) ?_
        refine Rn.bipushv (v := 12) dX12_rests_62 bp_12 ?_
        refine Rn.iload_n dX12_rests_64 rfl ?_
        refine Rn.imul dX12_rests_65 ?_
        refine Rn.topI (y := nI (12 * b)) (nI_mul 12 b) ?_
        refine Rn.iload_n dX12_rests_66 rfl ?_
        refine Rn.iadd dX12_rests_67 ?_
        refine Rn.topI (y := nI (12 * b + i)) (nI_add (12 * b) i) ?_
        refine Rn.iconstv (v := 0) dX12_rests_68 ic_0 ?_
        refine Rn.iastN (k0 := (12 * b + i)) dX12_rests_69 (rc176 hR) (by omega) (by decide) ?_
        refine Rn.meq (M2 := sI (sI (sI (sI (sI (sI M 169 (upd (M.1 169) b 0)) 172 (upd (M.1 172) b 0)) 173 (upd (blk (12 * b) i (fun _ => 0) (M.1 173)) (12 * b + i) 0)) 174 (upd (blk (12 * b) i (fun _ => 0) (M.1 174)) (12 * b + i) 0)) 175 (upd (blk (12 * b) i (fun _ => 0) (M.1 175)) (12 * b + i) 0)) 176 (upd (blk (12 * b) i (fun _ => 0) (M.1 176)) (12 * b + i) 0)) (sI_sI _ _ _ _) ?_
        refine Rn.meq (M2 := sI (sI (sI (sI (sI (sI M 169 (upd (M.1 169) b 0)) 172 (upd (M.1 172) b 0)) 173 (blk (12 * b) (i + 1) (fun _ => 0) (M.1 173))) 174 (upd (blk (12 * b) i (fun _ => 0) (M.1 174)) (12 * b + i) 0)) 175 (upd (blk (12 * b) i (fun _ => 0) (M.1 175)) (12 * b + i) 0)) 176 (upd (blk (12 * b) i (fun _ => 0) (M.1 176)) (12 * b + i) 0)) (congrArg (fun m9 => sI m9 176 (upd (blk (12 * b) i (fun _ => 0) (M.1 176)) (12 * b + i) 0)) (congrArg (fun m9 => sI m9 175 (upd (blk (12 * b) i (fun _ => 0) (M.1 175)) (12 * b + i) 0)) (congrArg (fun m9 => sI m9 174 (upd (blk (12 * b) i (fun _ => 0) (M.1 174)) (12 * b + i) 0)) (congrArg (fun r9 => sI (sI (sI M 169 (upd (M.1 169) b 0)) 172 (upd (M.1 172) b 0)) 173 r9) (blk_up (12 * b) i (fun _ => 0) (M.1 173)))))) ?_
        refine Rn.meq (M2 := sI (sI (sI (sI (sI (sI M 169 (upd (M.1 169) b 0)) 172 (upd (M.1 172) b 0)) 173 (blk (12 * b) (i + 1) (fun _ => 0) (M.1 173))) 174 (blk (12 * b) (i + 1) (fun _ => 0) (M.1 174))) 175 (upd (blk (12 * b) i (fun _ => 0) (M.1 175)) (12 * b + i) 0)) 176 (upd (blk (12 * b) i (fun _ => 0) (M.1 176)) (12 * b + i) 0)) (congrArg (fun m9 => sI m9 176 (upd (blk (12 * b) i (fun _ => 0) (M.1 176)) (12 * b + i) 0)) (congrArg (fun m9 => sI m9 175 (upd (blk (12 * b) i (fun _ => 0) (M.1 175)) (12 * b + i) 0)) (congrArg (fun r9 => sI (sI (sI (sI M 169 (upd (M.1 169) b 0)) 172 (upd (M.1 172) b 0)) 173 (blk (12 * b) (i + 1) (fun _ => 0) (M.1 173))) 174 r9) (blk_up (12 * b) i (fun _ => 0) (M.1 174))))) ?_
        refine Rn.meq (M2 := sI (sI (sI (sI (sI (sI M 169 (upd (M.1 169) b 0)) 172 (upd (M.1 172) b 0)) 173 (blk (12 * b) (i + 1) (fun _ => 0) (M.1 173))) 174 (blk (12 * b) (i + 1) (fun _ => 0) (M.1 174))) 175 (blk (12 * b) (i + 1) (fun _ => 0) (M.1 175))) 176 (upd (blk (12 * b) i (fun _ => 0) (M.1 176)) (12 * b + i) 0)) (congrArg (fun m9 => sI m9 176 (upd (blk (12 * b) i (fun _ => 0) (M.1 176)) (12 * b + i) 0)) (congrArg (fun r9 => sI (sI (sI (sI (sI M 169 (upd (M.1 169) b 0)) 172 (upd (M.1 172) b 0)) 173 (blk (12 * b) (i + 1) (fun _ => 0) (M.1 173))) 174 (blk (12 * b) (i + 1) (fun _ => 0) (M.1 174))) 175 r9) (blk_up (12 * b) i (fun _ => 0) (M.1 175)))) ?_
        refine Rn.meq (M2 := sI (sI (sI (sI (sI (sI M 169 (upd (M.1 169) b 0)) 172 (upd (M.1 172) b 0)) 173 (blk (12 * b) (i + 1) (fun _ => 0) (M.1 173))) 174 (blk (12 * b) (i + 1) (fun _ => 0) (M.1 174))) 175 (blk (12 * b) (i + 1) (fun _ => 0) (M.1 175))) 176 (blk (12 * b) (i + 1) (fun _ => 0) (M.1 176))) (congrArg (fun r9 => sI (sI (sI (sI (sI (sI M 169 (upd (M.1 169) b 0)) 172 (upd (M.1 172) b 0)) 173 (blk (12 * b) (i + 1) (fun _ => 0) (M.1 173))) 174 (blk (12 * b) (i + 1) (fun _ => 0) (M.1 174))) 175 (blk (12 * b) (i + 1) (fun _ => 0) (M.1 175))) 176 r9) (blk_up (12 * b) i (fun _ => 0) (M.1 176))) ?_
        refine Rn.iincN (lv' := [some (.ref 149), some (.int (nI b)), some (.int (nI (i + 1)))]) dX12_rests_70 rfl (by decide) rfl ?_
        refine Rn.goto dX12_rests_73 ?_
        exact ih (i + 1) (by omega)
  exact loop 12 0 (by omega)
