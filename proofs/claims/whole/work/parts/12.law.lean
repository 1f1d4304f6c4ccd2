def hdL (k : Int32) (x y : Int64) : Int32 :=
  if k = 16 then (if x = 0 then (if y = 0 then 0 else 1) else 1)
  else if k = 17 then (if x = 0 then 0 else if y = 0 then 0 else 1)
  else if k = 25 then (if y ≤ x then 0 else 1)
  else if k = 26 then (if y < x then 0 else 1)
  else if k = 27 then (if x = y then 1 else 0)
  else if k = 28 then (if x = y then 0 else 1)
  else if k = 29 then (if x < y then 0 else 1)
  else (if x ≤ y then 0 else 1)
def erL : Int64 := -9223372036854775808
def jnL (k : Int32) (x y : Int64) : Int64 :=
  if k = 31 then x + y
  else if k = 32 then x - y
  else if k = 33 then (if x = 0 then x * y else if abL y ≤ 1000000000000 / abL x then x * y else erL)
  else if k = 34 then (if y = 0 then erL else x / y)
  else if hdL k x y = 0 then 0 else 1
theorem abL_ne {x : Int64} (h : ¬ x = 0) : ¬ abL x = 0 := by
  unfold abL
  split
  · exact h
  · intro h2
    exact h (by rw [← Int64.neg_neg (a := x), h2]; rfl)
theorem tX5_holds {G : Gx} {l : Launch} {ly : Ly} {M : Mm} {k : Int32} {x y : Int64} : Mt G l mX5_holds (1, 0, 0, false) [.int k, .long x, .long y] ly M (Is (some (.int (hdL k x y))) ly M) := by
  refine Mt.is (fun Q hQ => ?_)
  refine Mt.of (lv := [some (.int k), some (.long x), none, some (.long y), none]) rfl ?_
  refine Rn.iload_n dX5_holds_0 rfl ?_
  by_cases c16 : k = 16
  · subst c16
    refine Rn.tableIn (off := 71) (tgt := 72) dX5_holds_1 (by decide) (by decide) (by decide) (by decide) ?_
    refine Rn.lload_n dX5_holds_72 rfl ?_
    refine Rn.lconstv (v := 0) dX5_holds_73 rfl ?_
    refine Rn.lcmp dX5_holds_74 ?_
    refine Rn.if_ne dX5_holds_75 (fun h75 => ?_) (fun h75 => ?_)
    · rw [lg_cmp_eq] at h75
      refine Rn.iconstv (v := 1) dX5_holds_84 ic_1 ?_
      refine Rn.goto dX5_holds_85 ?_
      have hv : hdL 16 x y = 1 := by simp only [hdL, (by decide : ((16 : Int32) = 17) = False), (by decide : ((16 : Int32) = 25) = False), (by decide : ((16 : Int32) = 26) = False), (by decide : ((16 : Int32) = 27) = False), (by decide : ((16 : Int32) = 28) = False), (by decide : ((16 : Int32) = 29) = False), h75, ↓reduceIte]
      rw [hv] at hQ
      exact Rn.iret (ty := .boolean) dX5_holds_89 rfl rfl hQ
    · rw [lg_cmp_eq] at h75
      refine Rn.lload_n dX5_holds_78 rfl ?_
      refine Rn.lconstv (v := 0) dX5_holds_79 rfl ?_
      refine Rn.lcmp dX5_holds_80 ?_
      refine Rn.if_eq dX5_holds_81 (fun h81 => ?_) (fun h81 => ?_)
      · rw [lg_cmp_eq] at h81
        refine Rn.iconstv (v := 0) dX5_holds_88 ic_0 ?_
        have hv : hdL 16 x y = 0 := by simp only [hdL, (by decide : ((16 : Int32) = 17) = False), (by decide : ((16 : Int32) = 25) = False), (by decide : ((16 : Int32) = 26) = False), (by decide : ((16 : Int32) = 27) = False), (by decide : ((16 : Int32) = 28) = False), (by decide : ((16 : Int32) = 29) = False), h75, h81, ↓reduceIte]
        rw [hv] at hQ
        exact Rn.iret (ty := .boolean) dX5_holds_89 rfl rfl hQ
      · rw [lg_cmp_eq] at h81
        refine Rn.iconstv (v := 1) dX5_holds_84 ic_1 ?_
        refine Rn.goto dX5_holds_85 ?_
        have hv : hdL 16 x y = 1 := by simp only [hdL, (by decide : ((16 : Int32) = 17) = False), (by decide : ((16 : Int32) = 25) = False), (by decide : ((16 : Int32) = 26) = False), (by decide : ((16 : Int32) = 27) = False), (by decide : ((16 : Int32) = 28) = False), (by decide : ((16 : Int32) = 29) = False), h75, h81, ↓reduceIte]
        rw [hv] at hQ
        exact Rn.iret (ty := .boolean) dX5_holds_89 rfl rfl hQ
  · skip
    by_cases c17 : k = 17
    · subst c17
      refine Rn.tableIn (off := 89) (tgt := 90) dX5_holds_1 (by decide) (by decide) (by decide) (by decide) ?_
      refine Rn.lload_n dX5_holds_90 rfl ?_
      refine Rn.lconstv (v := 0) dX5_holds_91 rfl ?_
      refine Rn.lcmp dX5_holds_92 ?_
      refine Rn.if_eq dX5_holds_93 (fun h93 => ?_) (fun h93 => ?_)
      · rw [lg_cmp_eq] at h93
        refine Rn.iconstv (v := 0) dX5_holds_106 ic_0 ?_
        have hv : hdL 17 x y = 0 := by simp only [hdL, (by decide : ((17 : Int32) = 16) = False), (by decide : ((17 : Int32) = 25) = False), (by decide : ((17 : Int32) = 26) = False), (by decide : ((17 : Int32) = 27) = False), (by decide : ((17 : Int32) = 28) = False), (by decide : ((17 : Int32) = 29) = False), h93, ↓reduceIte]
        rw [hv] at hQ
        exact Rn.iret (ty := .boolean) dX5_holds_107 rfl rfl hQ
      · rw [lg_cmp_eq] at h93
        refine Rn.lload_n dX5_holds_96 rfl ?_
        refine Rn.lconstv (v := 0) dX5_holds_97 rfl ?_
        refine Rn.lcmp dX5_holds_98 ?_
        refine Rn.if_eq dX5_holds_99 (fun h99 => ?_) (fun h99 => ?_)
        · rw [lg_cmp_eq] at h99
          refine Rn.iconstv (v := 0) dX5_holds_106 ic_0 ?_
          have hv : hdL 17 x y = 0 := by simp only [hdL, (by decide : ((17 : Int32) = 16) = False), (by decide : ((17 : Int32) = 25) = False), (by decide : ((17 : Int32) = 26) = False), (by decide : ((17 : Int32) = 27) = False), (by decide : ((17 : Int32) = 28) = False), (by decide : ((17 : Int32) = 29) = False), h93, h99, ↓reduceIte]
          rw [hv] at hQ
          exact Rn.iret (ty := .boolean) dX5_holds_107 rfl rfl hQ
        · rw [lg_cmp_eq] at h99
          refine Rn.iconstv (v := 1) dX5_holds_102 ic_1 ?_
          refine Rn.goto dX5_holds_103 ?_
          have hv : hdL 17 x y = 1 := by simp only [hdL, (by decide : ((17 : Int32) = 16) = False), (by decide : ((17 : Int32) = 25) = False), (by decide : ((17 : Int32) = 26) = False), (by decide : ((17 : Int32) = 27) = False), (by decide : ((17 : Int32) = 28) = False), (by decide : ((17 : Int32) = 29) = False), h93, h99, ↓reduceIte]
          rw [hv] at hQ
          exact Rn.iret (ty := .boolean) dX5_holds_107 rfl rfl hQ
    · skip
      by_cases c25 : k = 25
      · subst c25
        refine Rn.tableIn (off := 107) (tgt := 108) dX5_holds_1 (by decide) (by decide) (by decide) (by decide) ?_
        refine Rn.lload_n dX5_holds_108 rfl ?_
        refine Rn.lload_n dX5_holds_109 rfl ?_
        refine Rn.lcmp dX5_holds_110 ?_
        refine Rn.if_ge dX5_holds_111 (fun h111 => ?_) (fun h111 => ?_)
        · rw [lg_cmp_ge] at h111
          refine Rn.iconstv (v := 0) dX5_holds_118 ic_0 ?_
          have hv : hdL 25 x y = 0 := by simp only [hdL, (by decide : ((25 : Int32) = 16) = False), (by decide : ((25 : Int32) = 17) = False), (by decide : ((25 : Int32) = 26) = False), (by decide : ((25 : Int32) = 27) = False), (by decide : ((25 : Int32) = 28) = False), (by decide : ((25 : Int32) = 29) = False), h111, ↓reduceIte]
          rw [hv] at hQ
          exact Rn.iret (ty := .boolean) dX5_holds_119 rfl rfl hQ
        · rw [lg_cmp_ge] at h111
          refine Rn.iconstv (v := 1) dX5_holds_114 ic_1 ?_
          refine Rn.goto dX5_holds_115 ?_
          have hv : hdL 25 x y = 1 := by simp only [hdL, (by decide : ((25 : Int32) = 16) = False), (by decide : ((25 : Int32) = 17) = False), (by decide : ((25 : Int32) = 26) = False), (by decide : ((25 : Int32) = 27) = False), (by decide : ((25 : Int32) = 28) = False), (by decide : ((25 : Int32) = 29) = False), h111, ↓reduceIte]
          rw [hv] at hQ
          exact Rn.iret (ty := .boolean) dX5_holds_119 rfl rfl hQ
      · skip
        by_cases c26 : k = 26
        · subst c26
          refine Rn.tableIn (off := 119) (tgt := 120) dX5_holds_1 (by decide) (by decide) (by decide) (by decide) ?_
          refine Rn.lload_n dX5_holds_120 rfl ?_
          refine Rn.lload_n dX5_holds_121 rfl ?_
          refine Rn.lcmp dX5_holds_122 ?_
          refine Rn.if_gt dX5_holds_123 (fun h123 => ?_) (fun h123 => ?_)
          · rw [lg_cmp_gt] at h123
            refine Rn.iconstv (v := 0) dX5_holds_130 ic_0 ?_
            have hv : hdL 26 x y = 0 := by simp only [hdL, (by decide : ((26 : Int32) = 16) = False), (by decide : ((26 : Int32) = 17) = False), (by decide : ((26 : Int32) = 25) = False), (by decide : ((26 : Int32) = 27) = False), (by decide : ((26 : Int32) = 28) = False), (by decide : ((26 : Int32) = 29) = False), h123, ↓reduceIte]
            rw [hv] at hQ
            exact Rn.iret (ty := .boolean) dX5_holds_131 rfl rfl hQ
          · rw [lg_cmp_gt] at h123
            refine Rn.iconstv (v := 1) dX5_holds_126 ic_1 ?_
            refine Rn.goto dX5_holds_127 ?_
            have hv : hdL 26 x y = 1 := by simp only [hdL, (by decide : ((26 : Int32) = 16) = False), (by decide : ((26 : Int32) = 17) = False), (by decide : ((26 : Int32) = 25) = False), (by decide : ((26 : Int32) = 27) = False), (by decide : ((26 : Int32) = 28) = False), (by decide : ((26 : Int32) = 29) = False), h123, ↓reduceIte]
            rw [hv] at hQ
            exact Rn.iret (ty := .boolean) dX5_holds_131 rfl rfl hQ
        · skip
          by_cases c27 : k = 27
          · subst c27
            refine Rn.tableIn (off := 131) (tgt := 132) dX5_holds_1 (by decide) (by decide) (by decide) (by decide) ?_
            refine Rn.lload_n dX5_holds_132 rfl ?_
            refine Rn.lload_n dX5_holds_133 rfl ?_
            refine Rn.lcmp dX5_holds_134 ?_
            refine Rn.if_ne dX5_holds_135 (fun h135 => ?_) (fun h135 => ?_)
            · rw [lg_cmp_eq] at h135
              refine Rn.iconstv (v := 0) dX5_holds_142 ic_0 ?_
              have hv : hdL 27 x y = 0 := by simp only [hdL, (by decide : ((27 : Int32) = 16) = False), (by decide : ((27 : Int32) = 17) = False), (by decide : ((27 : Int32) = 25) = False), (by decide : ((27 : Int32) = 26) = False), (by decide : ((27 : Int32) = 28) = False), (by decide : ((27 : Int32) = 29) = False), h135, ↓reduceIte]
              rw [hv] at hQ
              exact Rn.iret (ty := .boolean) dX5_holds_143 rfl rfl hQ
            · rw [lg_cmp_eq] at h135
              refine Rn.iconstv (v := 1) dX5_holds_138 ic_1 ?_
              refine Rn.goto dX5_holds_139 ?_
              have hv : hdL 27 x y = 1 := by simp only [hdL, (by decide : ((27 : Int32) = 16) = False), (by decide : ((27 : Int32) = 17) = False), (by decide : ((27 : Int32) = 25) = False), (by decide : ((27 : Int32) = 26) = False), (by decide : ((27 : Int32) = 28) = False), (by decide : ((27 : Int32) = 29) = False), h135, ↓reduceIte]
              rw [hv] at hQ
              exact Rn.iret (ty := .boolean) dX5_holds_143 rfl rfl hQ
          · skip
            by_cases c28 : k = 28
            · subst c28
              refine Rn.tableIn (off := 143) (tgt := 144) dX5_holds_1 (by decide) (by decide) (by decide) (by decide) ?_
              refine Rn.lload_n dX5_holds_144 rfl ?_
              refine Rn.lload_n dX5_holds_145 rfl ?_
              refine Rn.lcmp dX5_holds_146 ?_
              refine Rn.if_eq dX5_holds_147 (fun h147 => ?_) (fun h147 => ?_)
              · rw [lg_cmp_eq] at h147
                refine Rn.iconstv (v := 0) dX5_holds_154 ic_0 ?_
                have hv : hdL 28 x y = 0 := by simp only [hdL, (by decide : ((28 : Int32) = 16) = False), (by decide : ((28 : Int32) = 17) = False), (by decide : ((28 : Int32) = 25) = False), (by decide : ((28 : Int32) = 26) = False), (by decide : ((28 : Int32) = 27) = False), (by decide : ((28 : Int32) = 29) = False), h147, ↓reduceIte]
                rw [hv] at hQ
                exact Rn.iret (ty := .boolean) dX5_holds_155 rfl rfl hQ
              · rw [lg_cmp_eq] at h147
                refine Rn.iconstv (v := 1) dX5_holds_150 ic_1 ?_
                refine Rn.goto dX5_holds_151 ?_
                have hv : hdL 28 x y = 1 := by simp only [hdL, (by decide : ((28 : Int32) = 16) = False), (by decide : ((28 : Int32) = 17) = False), (by decide : ((28 : Int32) = 25) = False), (by decide : ((28 : Int32) = 26) = False), (by decide : ((28 : Int32) = 27) = False), (by decide : ((28 : Int32) = 29) = False), h147, ↓reduceIte]
                rw [hv] at hQ
                exact Rn.iret (ty := .boolean) dX5_holds_155 rfl rfl hQ
            · skip
              by_cases c29 : k = 29
              · subst c29
                refine Rn.tableIn (off := 155) (tgt := 156) dX5_holds_1 (by decide) (by decide) (by decide) (by decide) ?_
                refine Rn.lload_n dX5_holds_156 rfl ?_
                refine Rn.lload_n dX5_holds_157 rfl ?_
                refine Rn.lcmp dX5_holds_158 ?_
                refine Rn.if_lt dX5_holds_159 (fun h159 => ?_) (fun h159 => ?_)
                · rw [lg_cmp_lt] at h159
                  refine Rn.iconstv (v := 0) dX5_holds_166 ic_0 ?_
                  have hv : hdL 29 x y = 0 := by simp only [hdL, (by decide : ((29 : Int32) = 16) = False), (by decide : ((29 : Int32) = 17) = False), (by decide : ((29 : Int32) = 25) = False), (by decide : ((29 : Int32) = 26) = False), (by decide : ((29 : Int32) = 27) = False), (by decide : ((29 : Int32) = 28) = False), h159, ↓reduceIte]
                  rw [hv] at hQ
                  exact Rn.iret (ty := .boolean) dX5_holds_167 rfl rfl hQ
                · rw [lg_cmp_lt] at h159
                  refine Rn.iconstv (v := 1) dX5_holds_162 ic_1 ?_
                  refine Rn.goto dX5_holds_163 ?_
                  have hv : hdL 29 x y = 1 := by simp only [hdL, (by decide : ((29 : Int32) = 16) = False), (by decide : ((29 : Int32) = 17) = False), (by decide : ((29 : Int32) = 25) = False), (by decide : ((29 : Int32) = 26) = False), (by decide : ((29 : Int32) = 27) = False), (by decide : ((29 : Int32) = 28) = False), h159, ↓reduceIte]
                  rw [hv] at hQ
                  exact Rn.iret (ty := .boolean) dX5_holds_167 rfl rfl hQ
              · skip
                have n16 : Int32.toInt k ≠ 16 := fun h => c16 (Int32.toInt_inj.mp (h.trans (by decide)))
                have n17 : Int32.toInt k ≠ 17 := fun h => c17 (Int32.toInt_inj.mp (h.trans (by decide)))
                have n25 : Int32.toInt k ≠ 25 := fun h => c25 (Int32.toInt_inj.mp (h.trans (by decide)))
                have n26 : Int32.toInt k ≠ 26 := fun h => c26 (Int32.toInt_inj.mp (h.trans (by decide)))
                have n27 : Int32.toInt k ≠ 27 := fun h => c27 (Int32.toInt_inj.mp (h.trans (by decide)))
                have n28 : Int32.toInt k ≠ 28 := fun h => c28 (Int32.toInt_inj.mp (h.trans (by decide)))
                have n29 : Int32.toInt k ≠ 29 := fun h => c29 (Int32.toInt_inj.mp (h.trans (by decide)))
                by_cases c18 : k = 18
                · subst c18
                  refine Rn.tableIn (off := 167) (tgt := 168) dX5_holds_1 (by decide) (by decide) (by decide) (by decide) ?_
                  refine Rn.lload_n dX5_holds_168 rfl ?_
                  refine Rn.lload_n dX5_holds_169 rfl ?_
                  refine Rn.lcmp dX5_holds_170 ?_
                  refine Rn.if_le dX5_holds_171 (fun h171 => ?_) (fun h171 => ?_)
                  · rw [lg_cmp_le] at h171
                    refine Rn.iconstv (v := 0) dX5_holds_178 ic_0 ?_
                    have hv : hdL 18 x y = 0 := by simp only [hdL, (by decide : ((18 : Int32) = 16) = False), (by decide : ((18 : Int32) = 17) = False), (by decide : ((18 : Int32) = 25) = False), (by decide : ((18 : Int32) = 26) = False), (by decide : ((18 : Int32) = 27) = False), (by decide : ((18 : Int32) = 28) = False), (by decide : ((18 : Int32) = 29) = False), h171, ↓reduceIte]
                    rw [hv] at hQ
                    exact Rn.iret (ty := .boolean) dX5_holds_179 rfl rfl hQ
                  · rw [lg_cmp_le] at h171
                    refine Rn.iconstv (v := 1) dX5_holds_174 ic_1 ?_
                    refine Rn.goto dX5_holds_175 ?_
                    have hv : hdL 18 x y = 1 := by simp only [hdL, (by decide : ((18 : Int32) = 16) = False), (by decide : ((18 : Int32) = 17) = False), (by decide : ((18 : Int32) = 25) = False), (by decide : ((18 : Int32) = 26) = False), (by decide : ((18 : Int32) = 27) = False), (by decide : ((18 : Int32) = 28) = False), (by decide : ((18 : Int32) = 29) = False), h171, ↓reduceIte]
                    rw [hv] at hQ
                    exact Rn.iret (ty := .boolean) dX5_holds_179 rfl rfl hQ
                · skip
                  have n18 : Int32.toInt k ≠ 18 := fun h => c18 (Int32.toInt_inj.mp (h.trans (by decide)))
                  by_cases c19 : k = 19
                  · subst c19
                    refine Rn.tableIn (off := 167) (tgt := 168) dX5_holds_1 (by decide) (by decide) (by decide) (by decide) ?_
                    refine Rn.lload_n dX5_holds_168 rfl ?_
                    refine Rn.lload_n dX5_holds_169 rfl ?_
                    refine Rn.lcmp dX5_holds_170 ?_
                    refine Rn.if_le dX5_holds_171 (fun h171 => ?_) (fun h171 => ?_)
                    · rw [lg_cmp_le] at h171
                      refine Rn.iconstv (v := 0) dX5_holds_178 ic_0 ?_
                      have hv : hdL 19 x y = 0 := by simp only [hdL, (by decide : ((19 : Int32) = 16) = False), (by decide : ((19 : Int32) = 17) = False), (by decide : ((19 : Int32) = 25) = False), (by decide : ((19 : Int32) = 26) = False), (by decide : ((19 : Int32) = 27) = False), (by decide : ((19 : Int32) = 28) = False), (by decide : ((19 : Int32) = 29) = False), h171, ↓reduceIte]
                      rw [hv] at hQ
                      exact Rn.iret (ty := .boolean) dX5_holds_179 rfl rfl hQ
                    · rw [lg_cmp_le] at h171
                      refine Rn.iconstv (v := 1) dX5_holds_174 ic_1 ?_
                      refine Rn.goto dX5_holds_175 ?_
                      have hv : hdL 19 x y = 1 := by simp only [hdL, (by decide : ((19 : Int32) = 16) = False), (by decide : ((19 : Int32) = 17) = False), (by decide : ((19 : Int32) = 25) = False), (by decide : ((19 : Int32) = 26) = False), (by decide : ((19 : Int32) = 27) = False), (by decide : ((19 : Int32) = 28) = False), (by decide : ((19 : Int32) = 29) = False), h171, ↓reduceIte]
                      rw [hv] at hQ
                      exact Rn.iret (ty := .boolean) dX5_holds_179 rfl rfl hQ
                  · skip
                    have n19 : Int32.toInt k ≠ 19 := fun h => c19 (Int32.toInt_inj.mp (h.trans (by decide)))
                    by_cases c20 : k = 20
                    · subst c20
                      refine Rn.tableIn (off := 167) (tgt := 168) dX5_holds_1 (by decide) (by decide) (by decide) (by decide) ?_
                      refine Rn.lload_n dX5_holds_168 rfl ?_
                      refine Rn.lload_n dX5_holds_169 rfl ?_
                      refine Rn.lcmp dX5_holds_170 ?_
                      refine Rn.if_le dX5_holds_171 (fun h171 => ?_) (fun h171 => ?_)
                      · rw [lg_cmp_le] at h171
                        refine Rn.iconstv (v := 0) dX5_holds_178 ic_0 ?_
                        have hv : hdL 20 x y = 0 := by simp only [hdL, (by decide : ((20 : Int32) = 16) = False), (by decide : ((20 : Int32) = 17) = False), (by decide : ((20 : Int32) = 25) = False), (by decide : ((20 : Int32) = 26) = False), (by decide : ((20 : Int32) = 27) = False), (by decide : ((20 : Int32) = 28) = False), (by decide : ((20 : Int32) = 29) = False), h171, ↓reduceIte]
                        rw [hv] at hQ
                        exact Rn.iret (ty := .boolean) dX5_holds_179 rfl rfl hQ
                      · rw [lg_cmp_le] at h171
                        refine Rn.iconstv (v := 1) dX5_holds_174 ic_1 ?_
                        refine Rn.goto dX5_holds_175 ?_
                        have hv : hdL 20 x y = 1 := by simp only [hdL, (by decide : ((20 : Int32) = 16) = False), (by decide : ((20 : Int32) = 17) = False), (by decide : ((20 : Int32) = 25) = False), (by decide : ((20 : Int32) = 26) = False), (by decide : ((20 : Int32) = 27) = False), (by decide : ((20 : Int32) = 28) = False), (by decide : ((20 : Int32) = 29) = False), h171, ↓reduceIte]
                        rw [hv] at hQ
                        exact Rn.iret (ty := .boolean) dX5_holds_179 rfl rfl hQ
                    · skip
                      have n20 : Int32.toInt k ≠ 20 := fun h => c20 (Int32.toInt_inj.mp (h.trans (by decide)))
                      by_cases c21 : k = 21
                      · subst c21
                        refine Rn.tableIn (off := 167) (tgt := 168) dX5_holds_1 (by decide) (by decide) (by decide) (by decide) ?_
                        refine Rn.lload_n dX5_holds_168 rfl ?_
                        refine Rn.lload_n dX5_holds_169 rfl ?_
                        refine Rn.lcmp dX5_holds_170 ?_
                        refine Rn.if_le dX5_holds_171 (fun h171 => ?_) (fun h171 => ?_)
                        · rw [lg_cmp_le] at h171
                          refine Rn.iconstv (v := 0) dX5_holds_178 ic_0 ?_
                          have hv : hdL 21 x y = 0 := by simp only [hdL, (by decide : ((21 : Int32) = 16) = False), (by decide : ((21 : Int32) = 17) = False), (by decide : ((21 : Int32) = 25) = False), (by decide : ((21 : Int32) = 26) = False), (by decide : ((21 : Int32) = 27) = False), (by decide : ((21 : Int32) = 28) = False), (by decide : ((21 : Int32) = 29) = False), h171, ↓reduceIte]
                          rw [hv] at hQ
                          exact Rn.iret (ty := .boolean) dX5_holds_179 rfl rfl hQ
                        · rw [lg_cmp_le] at h171
                          refine Rn.iconstv (v := 1) dX5_holds_174 ic_1 ?_
                          refine Rn.goto dX5_holds_175 ?_
                          have hv : hdL 21 x y = 1 := by simp only [hdL, (by decide : ((21 : Int32) = 16) = False), (by decide : ((21 : Int32) = 17) = False), (by decide : ((21 : Int32) = 25) = False), (by decide : ((21 : Int32) = 26) = False), (by decide : ((21 : Int32) = 27) = False), (by decide : ((21 : Int32) = 28) = False), (by decide : ((21 : Int32) = 29) = False), h171, ↓reduceIte]
                          rw [hv] at hQ
                          exact Rn.iret (ty := .boolean) dX5_holds_179 rfl rfl hQ
                      · skip
                        have n21 : Int32.toInt k ≠ 21 := fun h => c21 (Int32.toInt_inj.mp (h.trans (by decide)))
                        by_cases c22 : k = 22
                        · subst c22
                          refine Rn.tableIn (off := 167) (tgt := 168) dX5_holds_1 (by decide) (by decide) (by decide) (by decide) ?_
                          refine Rn.lload_n dX5_holds_168 rfl ?_
                          refine Rn.lload_n dX5_holds_169 rfl ?_
                          refine Rn.lcmp dX5_holds_170 ?_
                          refine Rn.if_le dX5_holds_171 (fun h171 => ?_) (fun h171 => ?_)
                          · rw [lg_cmp_le] at h171
                            refine Rn.iconstv (v := 0) dX5_holds_178 ic_0 ?_
                            have hv : hdL 22 x y = 0 := by simp only [hdL, (by decide : ((22 : Int32) = 16) = False), (by decide : ((22 : Int32) = 17) = False), (by decide : ((22 : Int32) = 25) = False), (by decide : ((22 : Int32) = 26) = False), (by decide : ((22 : Int32) = 27) = False), (by decide : ((22 : Int32) = 28) = False), (by decide : ((22 : Int32) = 29) = False), h171, ↓reduceIte]
                            rw [hv] at hQ
                            exact Rn.iret (ty := .boolean) dX5_holds_179 rfl rfl hQ
                          · rw [lg_cmp_le] at h171
                            refine Rn.iconstv (v := 1) dX5_holds_174 ic_1 ?_
                            refine Rn.goto dX5_holds_175 ?_
                            have hv : hdL 22 x y = 1 := by simp only [hdL, (by decide : ((22 : Int32) = 16) = False), (by decide : ((22 : Int32) = 17) = False), (by decide : ((22 : Int32) = 25) = False), (by decide : ((22 : Int32) = 26) = False), (by decide : ((22 : Int32) = 27) = False), (by decide : ((22 : Int32) = 28) = False), (by decide : ((22 : Int32) = 29) = False), h171, ↓reduceIte]
                            rw [hv] at hQ
                            exact Rn.iret (ty := .boolean) dX5_holds_179 rfl rfl hQ
                        · skip
                          have n22 : Int32.toInt k ≠ 22 := fun h => c22 (Int32.toInt_inj.mp (h.trans (by decide)))
                          by_cases c23 : k = 23
                          · subst c23
                            refine Rn.tableIn (off := 167) (tgt := 168) dX5_holds_1 (by decide) (by decide) (by decide) (by decide) ?_
                            refine Rn.lload_n dX5_holds_168 rfl ?_
                            refine Rn.lload_n dX5_holds_169 rfl ?_
                            refine Rn.lcmp dX5_holds_170 ?_
                            refine Rn.if_le dX5_holds_171 (fun h171 => ?_) (fun h171 => ?_)
                            · rw [lg_cmp_le] at h171
                              refine Rn.iconstv (v := 0) dX5_holds_178 ic_0 ?_
                              have hv : hdL 23 x y = 0 := by simp only [hdL, (by decide : ((23 : Int32) = 16) = False), (by decide : ((23 : Int32) = 17) = False), (by decide : ((23 : Int32) = 25) = False), (by decide : ((23 : Int32) = 26) = False), (by decide : ((23 : Int32) = 27) = False), (by decide : ((23 : Int32) = 28) = False), (by decide : ((23 : Int32) = 29) = False), h171, ↓reduceIte]
                              rw [hv] at hQ
                              exact Rn.iret (ty := .boolean) dX5_holds_179 rfl rfl hQ
                            · rw [lg_cmp_le] at h171
                              refine Rn.iconstv (v := 1) dX5_holds_174 ic_1 ?_
                              refine Rn.goto dX5_holds_175 ?_
                              have hv : hdL 23 x y = 1 := by simp only [hdL, (by decide : ((23 : Int32) = 16) = False), (by decide : ((23 : Int32) = 17) = False), (by decide : ((23 : Int32) = 25) = False), (by decide : ((23 : Int32) = 26) = False), (by decide : ((23 : Int32) = 27) = False), (by decide : ((23 : Int32) = 28) = False), (by decide : ((23 : Int32) = 29) = False), h171, ↓reduceIte]
                              rw [hv] at hQ
                              exact Rn.iret (ty := .boolean) dX5_holds_179 rfl rfl hQ
                          · skip
                            have n23 : Int32.toInt k ≠ 23 := fun h => c23 (Int32.toInt_inj.mp (h.trans (by decide)))
                            by_cases c24 : k = 24
                            · subst c24
                              refine Rn.tableIn (off := 167) (tgt := 168) dX5_holds_1 (by decide) (by decide) (by decide) (by decide) ?_
                              refine Rn.lload_n dX5_holds_168 rfl ?_
                              refine Rn.lload_n dX5_holds_169 rfl ?_
                              refine Rn.lcmp dX5_holds_170 ?_
                              refine Rn.if_le dX5_holds_171 (fun h171 => ?_) (fun h171 => ?_)
                              · rw [lg_cmp_le] at h171
                                refine Rn.iconstv (v := 0) dX5_holds_178 ic_0 ?_
                                have hv : hdL 24 x y = 0 := by simp only [hdL, (by decide : ((24 : Int32) = 16) = False), (by decide : ((24 : Int32) = 17) = False), (by decide : ((24 : Int32) = 25) = False), (by decide : ((24 : Int32) = 26) = False), (by decide : ((24 : Int32) = 27) = False), (by decide : ((24 : Int32) = 28) = False), (by decide : ((24 : Int32) = 29) = False), h171, ↓reduceIte]
                                rw [hv] at hQ
                                exact Rn.iret (ty := .boolean) dX5_holds_179 rfl rfl hQ
                              · rw [lg_cmp_le] at h171
                                refine Rn.iconstv (v := 1) dX5_holds_174 ic_1 ?_
                                refine Rn.goto dX5_holds_175 ?_
                                have hv : hdL 24 x y = 1 := by simp only [hdL, (by decide : ((24 : Int32) = 16) = False), (by decide : ((24 : Int32) = 17) = False), (by decide : ((24 : Int32) = 25) = False), (by decide : ((24 : Int32) = 26) = False), (by decide : ((24 : Int32) = 27) = False), (by decide : ((24 : Int32) = 28) = False), (by decide : ((24 : Int32) = 29) = False), h171, ↓reduceIte]
                                rw [hv] at hQ
                                exact Rn.iret (ty := .boolean) dX5_holds_179 rfl rfl hQ
                            · skip
                              have n24 : Int32.toInt k ≠ 24 := fun h => c24 (Int32.toInt_inj.mp (h.trans (by decide)))
                              refine Rn.tableOut (tgt := 168) dX5_holds_1 (by omega) (by decide) ?_
                              refine Rn.lload_n dX5_holds_168 rfl ?_
                              refine Rn.lload_n dX5_holds_169 rfl ?_
                              refine Rn.lcmp dX5_holds_170 ?_
                              refine Rn.if_le dX5_holds_171 (fun h171 => ?_) (fun h171 => ?_)
                              · rw [lg_cmp_le] at h171
                                refine Rn.iconstv (v := 0) dX5_holds_178 ic_0 ?_
                                have hv : hdL k x y = 0 := by simp only [hdL, c16, c17, c25, c26, c27, c28, c29, h171, ↓reduceIte]
                                rw [hv] at hQ
                                exact Rn.iret (ty := .boolean) dX5_holds_179 rfl rfl hQ
                              · rw [lg_cmp_le] at h171
                                refine Rn.iconstv (v := 1) dX5_holds_174 ic_1 ?_
                                refine Rn.goto dX5_holds_175 ?_
                                have hv : hdL k x y = 1 := by simp only [hdL, c16, c17, c25, c26, c27, c28, c29, h171, ↓reduceIte]
                                rw [hv] at hQ
                                exact Rn.iret (ty := .boolean) dX5_holds_179 rfl rfl hQ
theorem tX5_join {G : Gx} {l : Launch} {ly : Ly} {M : Mm} {k : Int32} {x y : Int64} : Mt G l mX5_join (2, 0, 0, false) [.int k, .long x, .long y] ly M (Is (some (.long (jnL k x y))) ly M) := by
  refine Mt.is (fun Q hQ => ?_)
  refine Mt.of (lv := [some (.int k), some (.long x), none, some (.long y), none]) rfl ?_
  refine Rn.iload_n dX5_join_0 rfl ?_
  by_cases c31 : k = 31
  · subst c31
    refine Rn.tableIn (off := 31) (tgt := 32) dX5_join_1 (by decide) (by decide) (by decide) (by decide) ?_
    refine Rn.lload_n dX5_join_32 rfl ?_
    refine Rn.lload_n dX5_join_33 rfl ?_
    refine Rn.ladd dX5_join_34 ?_
    have hv : jnL 31 x y = x + y := by simp only [jnL, (by decide : ((31 : Int32) = 32) = False), (by decide : ((31 : Int32) = 33) = False), (by decide : ((31 : Int32) = 34) = False), ↓reduceIte]
    rw [hv] at hQ
    exact Rn.lret dX5_join_35 rfl hQ
  · skip
    by_cases c32 : k = 32
    · subst c32
      refine Rn.tableIn (off := 35) (tgt := 36) dX5_join_1 (by decide) (by decide) (by decide) (by decide) ?_
      refine Rn.lload_n dX5_join_36 rfl ?_
      refine Rn.lload_n dX5_join_37 rfl ?_
      refine Rn.lsub dX5_join_38 ?_
      have hv : jnL 32 x y = x - y := by simp only [jnL, (by decide : ((32 : Int32) = 31) = False), (by decide : ((32 : Int32) = 33) = False), (by decide : ((32 : Int32) = 34) = False), ↓reduceIte]
      rw [hv] at hQ
      exact Rn.lret dX5_join_39 rfl hQ
    · skip
      by_cases c33 : k = 33
      · subst c33
        refine Rn.tableIn (off := 39) (tgt := 40) dX5_join_1 (by decide) (by decide) (by decide) (by decide) ?_
        refine Rn.lload_n dX5_join_40 rfl ?_
        refine Rn.lconstv (v := 0) dX5_join_41 rfl ?_
        refine Rn.lcmp dX5_join_42 ?_
        refine Rn.if_eq dX5_join_43 (fun h43 => ?_) (fun h43 => ?_)
        · rw [lg_cmp_eq] at h43
          refine Rn.lload_n dX5_join_68 rfl ?_
          refine Rn.lload_n dX5_join_69 rfl ?_
          refine Rn.lmul dX5_join_70 ?_
          have hv : jnL 33 x y = x * y := by simp only [jnL, (by decide : ((33 : Int32) = 31) = False), (by decide : ((33 : Int32) = 32) = False), (by decide : ((33 : Int32) = 34) = False), h43, ↓reduceIte]
          rw [hv] at hQ
          exact Rn.lret dX5_join_71 rfl hQ
        · rw [lg_cmp_eq] at h43
          refine Rn.lload_n dX5_join_46 rfl ?_
          refine Rn.mabsL dX5_join_47 jX5_33 jw_mabsL ⟨(Nat.le_of_ble_eq_true rfl), (Nat.le_of_ble_eq_true rfl)⟩ ?_
          refine Rn.ldc2 dX5_join_50 kX5_27 ?_
          refine Rn.lload_n dX5_join_53 rfl ?_
          refine Rn.mabsL dX5_join_54 jX5_33 jw_mabsL ⟨(Nat.le_of_ble_eq_true rfl), (Nat.le_of_ble_eq_true rfl)⟩ ?_
          refine Rn.ldiv dX5_join_57 (abL_ne h43) ?_
          refine Rn.lcmp dX5_join_58 ?_
          refine Rn.if_le dX5_join_59 (fun h59 => ?_) (fun h59 => ?_)
          · rw [lg_cmp_le] at h59
            refine Rn.lload_n dX5_join_68 rfl ?_
            refine Rn.lload_n dX5_join_69 rfl ?_
            refine Rn.lmul dX5_join_70 ?_
            have hv : jnL 33 x y = x * y := by simp only [jnL, (by decide : ((33 : Int32) = 31) = False), (by decide : ((33 : Int32) = 32) = False), (by decide : ((33 : Int32) = 34) = False), h43, h59, ↓reduceIte]
            rw [hv] at hQ
            exact Rn.lret dX5_join_71 rfl hQ
          · rw [lg_cmp_le] at h59
            refine Rn.ldc2 dX5_join_62 kX5_31 ?_
            refine Rn.goto dX5_join_65 ?_
            have hv : jnL 33 x y = (-9223372036854775808) := by simp only [jnL, (by decide : ((33 : Int32) = 31) = False), (by decide : ((33 : Int32) = 32) = False), (by decide : ((33 : Int32) = 34) = False), h43, h59, ↓reduceIte]; rfl
            rw [hv] at hQ
            exact Rn.lret dX5_join_71 rfl hQ
      · skip
        by_cases c34 : k = 34
        · subst c34
          refine Rn.tableIn (off := 71) (tgt := 72) dX5_join_1 (by decide) (by decide) (by decide) (by decide) ?_
          refine Rn.lload_n dX5_join_72 rfl ?_
          refine Rn.lconstv (v := 0) dX5_join_73 rfl ?_
          refine Rn.lcmp dX5_join_74 ?_
          refine Rn.if_ne dX5_join_75 (fun h75 => ?_) (fun h75 => ?_)
          · rw [lg_cmp_eq] at h75
            refine Rn.lload_n dX5_join_84 rfl ?_
            refine Rn.lload_n dX5_join_85 rfl ?_
            refine Rn.ldiv dX5_join_86 h75 ?_
            have hv : jnL 34 x y = x / y := by simp only [jnL, (by decide : ((34 : Int32) = 31) = False), (by decide : ((34 : Int32) = 32) = False), (by decide : ((34 : Int32) = 33) = False), h75, ↓reduceIte]
            rw [hv] at hQ
            exact Rn.lret dX5_join_87 rfl hQ
          · rw [lg_cmp_eq] at h75
            refine Rn.ldc2 dX5_join_78 kX5_31 ?_
            refine Rn.goto dX5_join_81 ?_
            have hv : jnL 34 x y = (-9223372036854775808) := by simp only [jnL, (by decide : ((34 : Int32) = 31) = False), (by decide : ((34 : Int32) = 32) = False), (by decide : ((34 : Int32) = 33) = False), h75, ↓reduceIte]; rfl
            rw [hv] at hQ
            exact Rn.lret dX5_join_87 rfl hQ
        · skip
          have n31 : Int32.toInt k ≠ 31 := fun h => c31 (Int32.toInt_inj.mp (h.trans (by decide)))
          have n32 : Int32.toInt k ≠ 32 := fun h => c32 (Int32.toInt_inj.mp (h.trans (by decide)))
          have n33 : Int32.toInt k ≠ 33 := fun h => c33 (Int32.toInt_inj.mp (h.trans (by decide)))
          have n34 : Int32.toInt k ≠ 34 := fun h => c34 (Int32.toInt_inj.mp (h.trans (by decide)))
          refine Rn.tableOut (tgt := 88) dX5_join_1 (by omega) (by decide) ?_
          refine Rn.iload_n dX5_join_88 rfl ?_
          refine Rn.lload_n dX5_join_89 rfl ?_
          refine Rn.lload_n dX5_join_90 rfl ?_
          refine Rn.callS3 dX5_join_91 vX5_39 (tX5_holds) (by decide) ⟨(Nat.le_of_ble_eq_true rfl), (Nat.le_of_ble_eq_true rfl), (Nat.le_of_ble_eq_true rfl)⟩ (fun h => by cases h) (fun v1 ly1 M1 ⟨q1, q2, q3⟩ => ?_)
          rw [q1, q2, q3]
          refine Rn.if_eq dX5_join_94 (fun h94 => ?_) (fun h94 => ?_)
          · skip
            refine Rn.lconstv (v := 0) dX5_join_101 rfl ?_
            have hv : jnL k x y = 0 := by simp only [jnL, c31, c32, c33, c34, h94, ↓reduceIte]
            rw [hv] at hQ
            exact Rn.lret dX5_join_102 rfl hQ
          · skip
            refine Rn.lconstv (v := 1) dX5_join_97 rfl ?_
            refine Rn.goto dX5_join_98 ?_
            have hv : jnL k x y = 1 := by simp only [jnL, c31, c32, c33, c34, h94, ↓reduceIte]
            rw [hv] at hQ
            exact Rn.lret dX5_join_102 rfl hQ
theorem nI_1e : (1 : Int32) = nI 1 := rfl
theorem nm_in {x : Int32} (h1 : 19 ≤ x) (h2 : x ≤ 24) : vp_in (x - 19) 6 := by
  have h1 := Int32.le_iff_toInt_le.mp h1
  have h2 := Int32.le_iff_toInt_le.mp h2
  rw [show (19 : Int32).toInt = 19 from by decide] at h1
  rw [show (24 : Int32).toInt = 24 from by decide] at h2
  rw [vp_in_iff, Int32.toInt_sub, show (19 : Int32).toInt = 19 from by decide, Int.bmod_eq_of_le (by omega) (by omega)]
  omega
def stepL (nm : Nat → Int32) (kn : Int32) (s : List Int64) : Option (List Int64) :=
  if (-1) - kn < 0 then some (kn.toInt64 :: s)
  else if 19 ≤ (-1) - kn ∧ (-1) - kn ≤ 24 then some ((nm ((-1) - kn - 19).toNatClampNeg).toInt64 :: s)
  else match s with
    | [] => none
    | x :: r => if (-1) - kn = 18 then some ((if x = 0 then 1 else 0) :: r) else match r with
      | [] => none
      | z :: r => if 1000000000000 < jnL ((-1) - kn) z x ∨ jnL ((-1) - kn) z x < -1000000000000 then none else some (jnL ((-1) - kn) z x :: r)
def bndO (o : Option (List Int64)) (g : List Int64 → Option (List Int64)) : Option (List Int64) := match o with
  | none => none
  | some s => g s
def itO (g : Nat → List Int64 → Option (List Int64)) : Nat → Option (List Int64)
  | 0 => some []
  | i + 1 => bndO (itO g i) (g i)
theorem itO_s {g : Nat → List Int64 → Option (List Int64)} {i : Nat} {s : List Int64} (h : itO g i = some s) : itO g (i + 1) = g i s := by
  show bndO (itO g i) (g i) = g i s
  rw [h]
  rfl
theorem itO_none {g : Nat → List Int64 → Option (List Int64)} {i : Nat} (h : itO g i = none) : ∀ k, itO g (i + k) = none
  | 0 => h
  | k + 1 => by
    show bndO (itO g (i + k)) _ = none
    rw [itO_none h k]
    rfl
/-- the stack behind the first i knots, the top first -/
def evL (nm kn : Nat → Int32) (n : Nat) : Option (List Int64) := itO (fun i => stepL nm (kn i)) n
/-- a law's value -/
def valL (nm kn : Nat → Int32) (n : Nat) : Int64 := match evL nm kn n with
  | some [v] => v
  | _ => erL
theorem evL_none {nm kn : Nat → Int32} {i : Nat} (h : evL nm kn i = none) : ∀ k, evL nm kn (i + k) = none := itO_none h
theorem valL_none {nm kn : Nat → Int32} {i n : Nat} (h : evL nm kn i = none) (hn : i ≤ n) : valL nm kn n = erL := by
  obtain ⟨k, rfl⟩ : ∃ k, n = i + k := ⟨n - i, by omega⟩
  unfold valL
  rw [evL_none h k]
theorem evL_s {nm kn : Nat → Int32} {i : Nat} {s : List Int64} (h : evL nm kn i = some s) : evL nm kn (i + 1) = stepL nm (kn i) s := itO_s (g := fun i => stepL nm (kn i)) h
def rp (f : Nat → Int64) : List Int64 → Prop
  | [] => True
  | x :: s => f s.length = x ∧ rp f s
theorem rp_up {f : Nat → Int64} {n : Nat} {x : Int64} : ∀ {s : List Int64}, s.length ≤ n → rp f s → rp (vp_updL f n x) s
  | [], _, _ => trivial
  | y :: s, h, ⟨h1, h2⟩ => ⟨by rw [pk_uLn (by have h := h; simp only [List.length_cons] at h; omega)]; exact h1, rp_up (by have h := h; simp only [List.length_cons] at h; omega) h2⟩
theorem rp_push {f : Nat → Int64} {x : Int64} {s : List Int64} (h : rp f s) : rp (vp_updL f s.length x) (x :: s) := ⟨pk_uLs, rp_up (Nat.le_refl _) h⟩
def iLaw (ly : Ly) (M : Mm) (a : Nat) : Prop := ly[a]? = some (.inr 5) ∧ ly[a + 1]? = some (.inl (0, 64)) ∧ ly[a + 2]? = some (.inl (3, 64)) ∧ M.2.2 a 1 = some (a + 1) ∧ M.2.2 a 2 = some (a + 2)
theorem tX5_value {G : Gx} {l : Launch} {ly : Ly} {M : Mm} {a q n : Nat} (hS : iLaw ly M a) (hq : ly[q]? = some (.inl (0, 6))) (hk : M.1 a 0 = nI n) (hn : n ≤ 64) {Q : Qt} (hQ : ∀ f, Q (some (.long (valL (M.1 q) (M.1 (a + 1)) n))) ly (sL M (a + 2) f)) : Mt G l mX5_value (3, 0, 0, false) [.ref a, .ref q] ly M Q := by
  obtain ⟨h0, h1, h2, p0, p1⟩ := hS
  refine Mt.of (lv := [some (.ref a), some (.ref q), none, none, none, none, none]) rfl ?_
  refine Rn.iconstv (v := 0) dX5_value_0 ic_0 ?_
  refine Rn.istore_n (lv' := [some (.ref a), some (.ref q), some (.int 0), none, none, none, none]) dX5_value_1 (by decide) rfl ?_
  refine Rn.iconstv (v := 0) dX5_value_2 ic_0 ?_
  refine Rn.istore_n (lv' := [some (.ref a), some (.ref q), some (.int 0), some (.int 0), none, none, none]) dX5_value_3 (by decide) rfl ?_
  have loop : ∀ (k i : Nat) (s : List Int64) (f : Nat → Int64), i + k = n → evL (M.1 q) (M.1 (a + 1)) i = some s → rp f s → s.length ≤ i → Rn G l mX5_value (3, 0, 0, false) 4 [some (.ref a), some (.ref q), some (.int (nI s.length)), some (.int (nI i)), none, none, none] [] ly (sL M (a + 2) f) Q := by
    intro k
    induction k with
    | zero =>
      intro i s f hi hev hrp hsl
      refine Rn.iload_n dX5_value_4 rfl ?_
      refine Rn.aload_n dX5_value_5 rfl ?_
      refine Rn.getI dX5_value_6 fX5_19 rfl h0 ?_
      refine Rn.topI (y := nI n) (hk) ?_
      refine Rn.icmp_ge dX5_value_9 (fun hc => ?_) (fun hc => ?_)
      · skip
        have hi : i = n := by omega
        subst hi
        refine Rn.iload_n dX5_value_194 rfl ?_
        refine Rn.iconstv (v := 1) dX5_value_195 ic_1 ?_
        refine Rn.icmp_ne dX5_value_196 (fun h1 => ?_) (fun h1 => ?_)
        · skip
          have hv : valL (M.1 q) (M.1 (a + 1)) i = -9223372036854775808 := by
            unfold valL; rw [hev]
            match s, h1 with
            | [], _ => rfl
            | [x], h1 => exact absurd rfl h1
            | x :: y :: r, _ => rfl
          rw [hv] at hQ
          refine Rn.ldc2 dX5_value_208 kX5_31 ?_
          exact Rn.lret dX5_value_211 rfl (hQ f)
        · skip
          have h1 : s.length = 1 := (nI_eq (by omega) (by omega)).mp (h1.trans nI_1e)
          obtain ⟨x, rfl⟩ := List.length_eq_one_iff.mp h1
          have hv : valL (M.1 q) (M.1 (a + 1)) i = f 0 := by unfold valL; rw [hev]; exact hrp.1.symm
          rw [hv] at hQ
          refine Rn.aload_n dX5_value_199 rfl ?_
          refine Rn.getR dX5_value_200 fX5_15 rfl h0 p1 ?_
          refine Rn.iconstv (v := 0) dX5_value_203 ic_0 ?_
          refine Rn.lald dX5_value_204 h2 (by unfold vp_in; decide) ?_
          refine Rn.topL (y := f 0) ((congrFun (sL_at _ _ _) 0)) ?_
          refine Rn.goto dX5_value_205 ?_
          exact Rn.lret dX5_value_211 rfl (hQ f)
      · exact absurd (nI_le (a := n) (b := i) (by omega) (by omega)) hc
    | succ k ih =>
      intro i s f hi hev hrp hsl
      refine Rn.iload_n dX5_value_4 rfl ?_
      refine Rn.aload_n dX5_value_5 rfl ?_
      refine Rn.getI dX5_value_6 fX5_19 rfl h0 ?_
      refine Rn.topI (y := nI n) (hk) ?_
      refine Rn.icmp_ge dX5_value_9 (fun hc => ?_) (fun hc => ?_)
      · exact absurd hc (nI_ge (a := i) (b := n) (by omega) (by omega))
      · skip
        refine Rn.iconstv (v := -1) dX5_value_12 ic_m1 ?_
        refine Rn.aload_n dX5_value_13 rfl ?_
        refine Rn.getR dX5_value_14 fX5_9 rfl h0 p0 ?_
        refine Rn.iload_n dX5_value_17 rfl ?_
        refine Rn.ialdN (k0 := i) dX5_value_18 h1 (by omega) (by decide) ?_
        refine Rn.isub dX5_value_19 ?_
        obtain ⟨kd, hkd⟩ : ∃ kd : Int32, kd = (-1) - M.1 (a + 1) i := ⟨_, rfl⟩
        refine Rn.topI (y := kd) (hkd.symm) ?_
        have hst : evL (M.1 q) (M.1 (a + 1)) (i + 1) = stepL (M.1 q) (M.1 (a + 1) i) s := evL_s hev
        unfold stepL at hst
        rw [← hkd] at hst
        refine Rn.istore (lv' := [some (.ref a), some (.ref q), some (.int (nI s.length)), some (.int (nI i)), some (.int kd), none, none]) dX5_value_20 (by decide) rfl ?_
        refine Rn.iload dX5_value_22 rfl ?_
        refine Rn.if_ge dX5_value_24 (fun g1 => ?_) (fun g1 => ?_)
        · skip
          rw [if_neg (Int32.not_lt.mpr g1)] at hst
          refine Rn.iload dX5_value_46 rfl ?_
          refine Rn.bipushv (v := 19) dX5_value_48 bp_19 ?_
          refine Rn.icmp_lt dX5_value_50 (fun g2 => ?_) (fun g2 => ?_)
          · skip
            rw [if_neg (fun h => absurd h.1 (Int32.not_le.mpr g2))] at hst
            refine Rn.iload dX5_value_80 rfl ?_
            refine Rn.bipushv (v := 18) dX5_value_82 bp_18 ?_
            refine Rn.icmp_ne dX5_value_84 (fun g4 => ?_) (fun g4 => ?_)
            · skip
              match s, hev, hrp, hsl, hst with
              | [], hev, hrp, hsl, hst =>
                refine Rn.iload_n dX5_value_120 rfl ?_
                refine Rn.iconstv (v := 1) dX5_value_121 ic_1 ?_
                refine Rn.icmp_le dX5_value_122 (fun g5 => ?_) (fun g5 => ?_)
                · skip
                  have hv : valL (M.1 q) (M.1 (a + 1)) n = -9223372036854775808 := valL_none hst (by omega)
                  rw [hv] at hQ
                  refine Rn.ldc2 dX5_value_184 kX5_31 ?_
                  exact Rn.lret dX5_value_187 rfl (hQ f)
                · exact absurd (show nI 0 ≤ 1 by decide) g5
              | [x], hev, hrp, hsl, hst =>
                refine Rn.iload_n dX5_value_120 rfl ?_
                refine Rn.iconstv (v := 1) dX5_value_121 ic_1 ?_
                refine Rn.icmp_le dX5_value_122 (fun g5 => ?_) (fun g5 => ?_)
                · skip
                  dsimp only at hst; rw [if_neg g4] at hst
                  have hv : valL (M.1 q) (M.1 (a + 1)) n = -9223372036854775808 := valL_none hst (by omega)
                  rw [hv] at hQ
                  refine Rn.ldc2 dX5_value_184 kX5_31 ?_
                  exact Rn.lret dX5_value_187 rfl (hQ f)
                · exact absurd (show nI 1 ≤ 1 by decide) g5
              | x :: z :: r, hev, hrp, hsl, hst =>
                refine Rn.iload_n dX5_value_120 rfl ?_
                refine Rn.iconstv (v := 1) dX5_value_121 ic_1 ?_
                refine Rn.icmp_le dX5_value_122 (fun g5 => ?_) (fun g5 => ?_)
                · exact absurd g5 (nI_ge (a := 1) (by simp only [List.length_cons]; omega) (by simp only [List.length_cons] at *; omega))
                · skip
                  dsimp only at hst; rw [if_neg g4] at hst
                  refine Rn.iinc (lv' := [some (.ref a), some (.ref q), some (.int (nI (r.length + 1))), some (.int (nI i)), some (.int kd), none, none]) dX5_value_125 rfl (by decide) (by rw [show nI (x :: z :: r).length + Int32.ofInt (-1) = nI (r.length + 1) from pk_m1 _]; rfl) ?_
                  refine Rn.iload dX5_value_128 rfl ?_
                  refine Rn.aload_n dX5_value_130 rfl ?_
                  refine Rn.getR dX5_value_131 fX5_15 rfl h0 p1 ?_
                  refine Rn.iload_n dX5_value_134 rfl ?_
                  refine Rn.iconstv (v := 1) dX5_value_135 ic_1 ?_
                  refine Rn.isub dX5_value_136 ?_
                  refine Rn.topI (y := nI r.length) (nI_pred r.length) ?_
                  refine Rn.laldN (k0 := r.length) dX5_value_137 h2 (by simp only [List.length_cons] at hsl; omega) (by decide) ?_
                  refine Rn.topL (y := f r.length) ((congrFun (sL_at _ _ _) r.length)) ?_
                  refine Rn.topL (y := z) (hrp.2.1) ?_
                  refine Rn.aload_n dX5_value_138 rfl ?_
                  refine Rn.getR dX5_value_139 fX5_15 rfl h0 p1 ?_
                  refine Rn.iload_n dX5_value_142 rfl ?_
                  refine Rn.laldN (k0 := (r.length + 1)) dX5_value_143 h2 (by simp only [List.length_cons] at hsl ⊢; omega) (by decide) ?_
                  refine Rn.topL (y := f (r.length + 1)) ((congrFun (sL_at _ _ _) (r.length + 1))) ?_
                  refine Rn.topL (y := x) (hrp.1) ?_
                  refine Rn.callS3 dX5_value_144 vX5_23 (tX5_join) (by decide) ⟨(Nat.le_of_ble_eq_true rfl), (Nat.le_of_ble_eq_true rfl), (Nat.le_of_ble_eq_true rfl)⟩ (fun h => by cases h) (fun v1 ly1 M1 ⟨q1, q2, q3⟩ => ?_)
                  rw [q1, q2, q3]
                  refine Rn.lstore (lv' := [some (.ref a), some (.ref q), some (.int (nI (r.length + 1))), some (.int (nI i)), some (.int kd), some (.long (jnL kd z x)), none]) dX5_value_147 (by decide) rfl ?_
                  refine Rn.lload dX5_value_149 rfl ?_
                  refine Rn.ldc2 dX5_value_151 kX5_27 ?_
                  refine Rn.lcmp dX5_value_154 ?_
                  refine Rn.if_gt dX5_value_155 (fun g6 => ?_) (fun g6 => ?_)
                  · rw [lg_cmp_gt] at g6
                    rw [if_pos (Or.inl g6)] at hst
                    have hv : valL (M.1 q) (M.1 (a + 1)) n = -9223372036854775808 := valL_none hst (by omega)
                    rw [hv] at hQ
                    refine Rn.ldc2 dX5_value_167 kX5_31 ?_
                    exact Rn.lret dX5_value_170 rfl (hQ f)
                  · rw [lg_cmp_gt] at g6
                    refine Rn.lload dX5_value_158 rfl ?_
                    refine Rn.ldc2 dX5_value_160 kX5_29 ?_
                    refine Rn.lcmp dX5_value_163 ?_
                    refine Rn.if_ge dX5_value_164 (fun g7 => ?_) (fun g7 => ?_)
                    · rw [lg_cmp_ge] at g7
                      rw [if_neg (fun h => h.elim g6 (fun h => absurd g7 (Int64.not_le.mpr h)))] at hst
                      refine Rn.aload_n dX5_value_171 rfl ?_
                      refine Rn.getR dX5_value_172 fX5_15 rfl h0 p1 ?_
                      refine Rn.iload_n dX5_value_175 rfl ?_
                      refine Rn.iconstv (v := 1) dX5_value_176 ic_1 ?_
                      refine Rn.isub dX5_value_177 ?_
                      refine Rn.topI (y := nI r.length) (nI_pred r.length) ?_
                      refine Rn.lload dX5_value_178 rfl ?_
                      refine Rn.lastN (k0 := r.length) dX5_value_180 h2 (by simp only [List.length_cons] at hsl; omega) (by decide) ?_
                      refine Rn.meq (M2 := sL M (a + 2) (vp_updL f r.length (jnL kd z x))) ((congrArg (fun r9 => sL (sL M (a + 2) f) (a + 2) (vp_updL r9 r.length (jnL kd z x))) (sL_at _ _ _)).trans (sL_sL _ _ _ _)) ?_
                      refine Rn.goto dX5_value_181 ?_
                      refine Rn.forget (lv' := [some (.ref a), some (.ref q), some (.int (nI (r.length + 1))), some (.int (nI i)), none, none, none]) (⟨rfl, ⟨rfl, ⟨rfl, ⟨rfl, trivial⟩⟩⟩⟩) ?_
                      refine Rn.iincN (lv' := [some (.ref a), some (.ref q), some (.int (nI (r.length + 1))), some (.int (nI (i + 1))), none, none, none]) dX5_value_188 rfl (by decide) rfl ?_
                      refine Rn.goto dX5_value_191 ?_
                      exact ih (i + 1) (jnL kd z x :: r) _ (by omega) (hst) (⟨pk_uLs, rp_up (Nat.le_refl _) hrp.2.2⟩) (by simp only [List.length_cons] at hsl ⊢; omega)
                    · rw [lg_cmp_ge] at g7
                      rw [if_pos (Or.inr (Int64.not_le.mp g7))] at hst
                      have hv : valL (M.1 q) (M.1 (a + 1)) n = -9223372036854775808 := valL_none hst (by omega)
                      rw [hv] at hQ
                      refine Rn.ldc2 dX5_value_167 kX5_31 ?_
                      exact Rn.lret dX5_value_170 rfl (hQ f)
            · skip
              refine Rn.iload_n dX5_value_87 rfl ?_
              refine Rn.if_le dX5_value_88 (fun g8 => ?_) (fun g8 => ?_)
              · skip
                match s, hev, hrp, hsl, hst with
                | [], hev, hrp, hsl, hst =>
                  refine Rn.iload_n dX5_value_120 rfl ?_
                  refine Rn.iconstv (v := 1) dX5_value_121 ic_1 ?_
                  refine Rn.icmp_le dX5_value_122 (fun g5 => ?_) (fun g5 => ?_)
                  · skip
                    have hv : valL (M.1 q) (M.1 (a + 1)) n = -9223372036854775808 := valL_none hst (by omega)
                    rw [hv] at hQ
                    refine Rn.ldc2 dX5_value_184 kX5_31 ?_
                    exact Rn.lret dX5_value_187 rfl (hQ f)
                  · exact absurd (show nI 0 ≤ 1 by decide) g5
                | x :: r, hev, hrp, hsl, hst => exact absurd g8 (nI_nle (by simp only [List.length_cons]; omega) (by simp only [List.length_cons] at *; omega))
              · skip
                match s, hev, hrp, hsl, hst with
                | [], hev, hrp, hsl, hst => exact absurd (by decide) g8
                | x :: r, hev, hrp, hsl, hst =>
                  dsimp only at hst; rw [if_pos g4] at hst
                  refine Rn.aload_n dX5_value_91 rfl ?_
                  refine Rn.getR dX5_value_92 fX5_15 rfl h0 p1 ?_
                  refine Rn.iload_n dX5_value_95 rfl ?_
                  refine Rn.iconstv (v := 1) dX5_value_96 ic_1 ?_
                  refine Rn.isub dX5_value_97 ?_
                  refine Rn.topI (y := nI r.length) (nI_pred r.length) ?_
                  refine Rn.aload_n dX5_value_98 rfl ?_
                  refine Rn.getR dX5_value_99 fX5_15 rfl h0 p1 ?_
                  refine Rn.iload_n dX5_value_102 rfl ?_
                  refine Rn.iconstv (v := 1) dX5_value_103 ic_1 ?_
                  refine Rn.isub dX5_value_104 ?_
                  refine Rn.topI (y := nI r.length) (nI_pred r.length) ?_
                  refine Rn.laldN (k0 := r.length) dX5_value_105 h2 (by simp only [List.length_cons] at hsl; omega) (by decide) ?_
                  refine Rn.topL (y := f r.length) ((congrFun (sL_at _ _ _) r.length)) ?_
                  refine Rn.topL (y := x) (hrp.1) ?_
                  refine Rn.lconstv (v := 0) dX5_value_106 rfl ?_
                  refine Rn.lcmp dX5_value_107 ?_
                  have join : ∀ y : Int64, y = (if x = 0 then 1 else 0) → Rn G l mX5_value (3, 0, 0, false) 116 [some (.ref a), some (.ref q), some (.int (nI (r.length + 1))), some (.int (nI i)), some (.int kd), none, none] [.long y, .int (nI r.length), .ref (a + 2)] ly (sL M (a + 2) f) Q := by
                    intro y hy
                    rw [← hy] at hst
                    refine Rn.lastN (k0 := r.length) dX5_value_116 h2 (by simp only [List.length_cons] at hsl; omega) (by decide) ?_
                    refine Rn.meq (M2 := sL M (a + 2) (vp_updL f r.length y)) ((congrArg (fun r9 => sL (sL M (a + 2) f) (a + 2) (vp_updL r9 r.length y)) (sL_at _ _ _)).trans (sL_sL _ _ _ _)) ?_
                    refine Rn.goto dX5_value_117 ?_
                    refine Rn.forget (lv' := [some (.ref a), some (.ref q), some (.int (nI (r.length + 1))), some (.int (nI i)), none, none, none]) (⟨rfl, ⟨rfl, ⟨rfl, ⟨rfl, trivial⟩⟩⟩⟩) ?_
                    refine Rn.iincN (lv' := [some (.ref a), some (.ref q), some (.int (nI (r.length + 1))), some (.int (nI (i + 1))), none, none, none]) dX5_value_188 rfl (by decide) rfl ?_
                    refine Rn.goto dX5_value_191 ?_
                    exact ih (i + 1) (y :: r) _ (by omega) (hst) (⟨pk_uLs, rp_up (Nat.le_refl _) hrp.2⟩) (by simp only [List.length_cons] at hsl ⊢; omega)
                  refine Rn.if_ne dX5_value_108 (fun g9 => ?_) (fun g9 => ?_)
                  · rw [lg_cmp_eq] at g9
                    refine Rn.lconstv (v := 0) dX5_value_115 rfl ?_
                    exact join 0 (by rw [if_neg g9])
                  · rw [lg_cmp_eq] at g9
                    refine Rn.lconstv (v := 1) dX5_value_111 rfl ?_
                    refine Rn.goto dX5_value_112 ?_
                    exact join 1 (by rw [if_pos g9])
          · skip
            refine Rn.iload dX5_value_53 rfl ?_
            refine Rn.bipushv (v := 24) dX5_value_55 bp_24 ?_
            refine Rn.icmp_gt dX5_value_57 (fun g3 => ?_) (fun g3 => ?_)
            · skip
              rw [if_neg (fun h => absurd h.2 (Int32.not_le.mpr g3))] at hst
              refine Rn.iload dX5_value_80 rfl ?_
              refine Rn.bipushv (v := 18) dX5_value_82 bp_18 ?_
              refine Rn.icmp_ne dX5_value_84 (fun g4 => ?_) (fun g4 => ?_)
              · skip
                match s, hev, hrp, hsl, hst with
                | [], hev, hrp, hsl, hst =>
                  refine Rn.iload_n dX5_value_120 rfl ?_
                  refine Rn.iconstv (v := 1) dX5_value_121 ic_1 ?_
                  refine Rn.icmp_le dX5_value_122 (fun g5 => ?_) (fun g5 => ?_)
                  · skip
                    have hv : valL (M.1 q) (M.1 (a + 1)) n = -9223372036854775808 := valL_none hst (by omega)
                    rw [hv] at hQ
                    refine Rn.ldc2 dX5_value_184 kX5_31 ?_
                    exact Rn.lret dX5_value_187 rfl (hQ f)
                  · exact absurd (show nI 0 ≤ 1 by decide) g5
                | [x], hev, hrp, hsl, hst =>
                  refine Rn.iload_n dX5_value_120 rfl ?_
                  refine Rn.iconstv (v := 1) dX5_value_121 ic_1 ?_
                  refine Rn.icmp_le dX5_value_122 (fun g5 => ?_) (fun g5 => ?_)
                  · skip
                    dsimp only at hst; rw [if_neg g4] at hst
                    have hv : valL (M.1 q) (M.1 (a + 1)) n = -9223372036854775808 := valL_none hst (by omega)
                    rw [hv] at hQ
                    refine Rn.ldc2 dX5_value_184 kX5_31 ?_
                    exact Rn.lret dX5_value_187 rfl (hQ f)
                  · exact absurd (show nI 1 ≤ 1 by decide) g5
                | x :: z :: r, hev, hrp, hsl, hst =>
                  refine Rn.iload_n dX5_value_120 rfl ?_
                  refine Rn.iconstv (v := 1) dX5_value_121 ic_1 ?_
                  refine Rn.icmp_le dX5_value_122 (fun g5 => ?_) (fun g5 => ?_)
                  · exact absurd g5 (nI_ge (a := 1) (by simp only [List.length_cons]; omega) (by simp only [List.length_cons] at *; omega))
                  · skip
                    dsimp only at hst; rw [if_neg g4] at hst
                    refine Rn.iinc (lv' := [some (.ref a), some (.ref q), some (.int (nI (r.length + 1))), some (.int (nI i)), some (.int kd), none, none]) dX5_value_125 rfl (by decide) (by rw [show nI (x :: z :: r).length + Int32.ofInt (-1) = nI (r.length + 1) from pk_m1 _]; rfl) ?_
                    refine Rn.iload dX5_value_128 rfl ?_
                    refine Rn.aload_n dX5_value_130 rfl ?_
                    refine Rn.getR dX5_value_131 fX5_15 rfl h0 p1 ?_
                    refine Rn.iload_n dX5_value_134 rfl ?_
                    refine Rn.iconstv (v := 1) dX5_value_135 ic_1 ?_
                    refine Rn.isub dX5_value_136 ?_
                    refine Rn.topI (y := nI r.length) (nI_pred r.length) ?_
                    refine Rn.laldN (k0 := r.length) dX5_value_137 h2 (by simp only [List.length_cons] at hsl; omega) (by decide) ?_
                    refine Rn.topL (y := f r.length) ((congrFun (sL_at _ _ _) r.length)) ?_
                    refine Rn.topL (y := z) (hrp.2.1) ?_
                    refine Rn.aload_n dX5_value_138 rfl ?_
                    refine Rn.getR dX5_value_139 fX5_15 rfl h0 p1 ?_
                    refine Rn.iload_n dX5_value_142 rfl ?_
                    refine Rn.laldN (k0 := (r.length + 1)) dX5_value_143 h2 (by simp only [List.length_cons] at hsl ⊢; omega) (by decide) ?_
                    refine Rn.topL (y := f (r.length + 1)) ((congrFun (sL_at _ _ _) (r.length + 1))) ?_
                    refine Rn.topL (y := x) (hrp.1) ?_
                    refine Rn.callS3 dX5_value_144 vX5_23 (tX5_join) (by decide) ⟨(Nat.le_of_ble_eq_true rfl), (Nat.le_of_ble_eq_true rfl), (Nat.le_of_ble_eq_true rfl)⟩ (fun h => by cases h) (fun v1 ly1 M1 ⟨q1, q2, q3⟩ => ?_)
                    rw [q1, q2, q3]
                    refine Rn.lstore (lv' := [some (.ref a), some (.ref q), some (.int (nI (r.length + 1))), some (.int (nI i)), some (.int kd), some (.long (jnL kd z x)), none]) dX5_value_147 (by decide) rfl ?_
                    refine Rn.lload dX5_value_149 rfl ?_
                    refine Rn.ldc2 dX5_value_151 kX5_27 ?_
                    refine Rn.lcmp dX5_value_154 ?_
                    refine Rn.if_gt dX5_value_155 (fun g6 => ?_) (fun g6 => ?_)
                    · rw [lg_cmp_gt] at g6
                      rw [if_pos (Or.inl g6)] at hst
                      have hv : valL (M.1 q) (M.1 (a + 1)) n = -9223372036854775808 := valL_none hst (by omega)
                      rw [hv] at hQ
                      refine Rn.ldc2 dX5_value_167 kX5_31 ?_
                      exact Rn.lret dX5_value_170 rfl (hQ f)
                    · rw [lg_cmp_gt] at g6
                      refine Rn.lload dX5_value_158 rfl ?_
                      refine Rn.ldc2 dX5_value_160 kX5_29 ?_
                      refine Rn.lcmp dX5_value_163 ?_
                      refine Rn.if_ge dX5_value_164 (fun g7 => ?_) (fun g7 => ?_)
                      · rw [lg_cmp_ge] at g7
                        rw [if_neg (fun h => h.elim g6 (fun h => absurd g7 (Int64.not_le.mpr h)))] at hst
                        refine Rn.aload_n dX5_value_171 rfl ?_
                        refine Rn.getR dX5_value_172 fX5_15 rfl h0 p1 ?_
                        refine Rn.iload_n dX5_value_175 rfl ?_
                        refine Rn.iconstv (v := 1) dX5_value_176 ic_1 ?_
                        refine Rn.isub dX5_value_177 ?_
                        refine Rn.topI (y := nI r.length) (nI_pred r.length) ?_
                        refine Rn.lload dX5_value_178 rfl ?_
                        refine Rn.lastN (k0 := r.length) dX5_value_180 h2 (by simp only [List.length_cons] at hsl; omega) (by decide) ?_
                        refine Rn.meq (M2 := sL M (a + 2) (vp_updL f r.length (jnL kd z x))) ((congrArg (fun r9 => sL (sL M (a + 2) f) (a + 2) (vp_updL r9 r.length (jnL kd z x))) (sL_at _ _ _)).trans (sL_sL _ _ _ _)) ?_
                        refine Rn.goto dX5_value_181 ?_
                        refine Rn.forget (lv' := [some (.ref a), some (.ref q), some (.int (nI (r.length + 1))), some (.int (nI i)), none, none, none]) (⟨rfl, ⟨rfl, ⟨rfl, ⟨rfl, trivial⟩⟩⟩⟩) ?_
                        refine Rn.iincN (lv' := [some (.ref a), some (.ref q), some (.int (nI (r.length + 1))), some (.int (nI (i + 1))), none, none, none]) dX5_value_188 rfl (by decide) rfl ?_
                        refine Rn.goto dX5_value_191 ?_
                        exact ih (i + 1) (jnL kd z x :: r) _ (by omega) (hst) (⟨pk_uLs, rp_up (Nat.le_refl _) hrp.2.2⟩) (by simp only [List.length_cons] at hsl ⊢; omega)
                      · rw [lg_cmp_ge] at g7
                        rw [if_pos (Or.inr (Int64.not_le.mp g7))] at hst
                        have hv : valL (M.1 q) (M.1 (a + 1)) n = -9223372036854775808 := valL_none hst (by omega)
                        rw [hv] at hQ
                        refine Rn.ldc2 dX5_value_167 kX5_31 ?_
                        exact Rn.lret dX5_value_170 rfl (hQ f)
              · skip
                refine Rn.iload_n dX5_value_87 rfl ?_
                refine Rn.if_le dX5_value_88 (fun g8 => ?_) (fun g8 => ?_)
                · skip
                  match s, hev, hrp, hsl, hst with
                  | [], hev, hrp, hsl, hst =>
                    refine Rn.iload_n dX5_value_120 rfl ?_
                    refine Rn.iconstv (v := 1) dX5_value_121 ic_1 ?_
                    refine Rn.icmp_le dX5_value_122 (fun g5 => ?_) (fun g5 => ?_)
                    · skip
                      have hv : valL (M.1 q) (M.1 (a + 1)) n = -9223372036854775808 := valL_none hst (by omega)
                      rw [hv] at hQ
                      refine Rn.ldc2 dX5_value_184 kX5_31 ?_
                      exact Rn.lret dX5_value_187 rfl (hQ f)
                    · exact absurd (show nI 0 ≤ 1 by decide) g5
                  | x :: r, hev, hrp, hsl, hst => exact absurd g8 (nI_nle (by simp only [List.length_cons]; omega) (by simp only [List.length_cons] at *; omega))
                · skip
                  match s, hev, hrp, hsl, hst with
                  | [], hev, hrp, hsl, hst => exact absurd (by decide) g8
                  | x :: r, hev, hrp, hsl, hst =>
                    dsimp only at hst; rw [if_pos g4] at hst
                    refine Rn.aload_n dX5_value_91 rfl ?_
                    refine Rn.getR dX5_value_92 fX5_15 rfl h0 p1 ?_
                    refine Rn.iload_n dX5_value_95 rfl ?_
                    refine Rn.iconstv (v := 1) dX5_value_96 ic_1 ?_
                    refine Rn.isub dX5_value_97 ?_
                    refine Rn.topI (y := nI r.length) (nI_pred r.length) ?_
                    refine Rn.aload_n dX5_value_98 rfl ?_
                    refine Rn.getR dX5_value_99 fX5_15 rfl h0 p1 ?_
                    refine Rn.iload_n dX5_value_102 rfl ?_
                    refine Rn.iconstv (v := 1) dX5_value_103 ic_1 ?_
                    refine Rn.isub dX5_value_104 ?_
                    refine Rn.topI (y := nI r.length) (nI_pred r.length) ?_
                    refine Rn.laldN (k0 := r.length) dX5_value_105 h2 (by simp only [List.length_cons] at hsl; omega) (by decide) ?_
                    refine Rn.topL (y := f r.length) ((congrFun (sL_at _ _ _) r.length)) ?_
                    refine Rn.topL (y := x) (hrp.1) ?_
                    refine Rn.lconstv (v := 0) dX5_value_106 rfl ?_
                    refine Rn.lcmp dX5_value_107 ?_
                    have join : ∀ y : Int64, y = (if x = 0 then 1 else 0) → Rn G l mX5_value (3, 0, 0, false) 116 [some (.ref a), some (.ref q), some (.int (nI (r.length + 1))), some (.int (nI i)), some (.int kd), none, none] [.long y, .int (nI r.length), .ref (a + 2)] ly (sL M (a + 2) f) Q := by
                      intro y hy
                      rw [← hy] at hst
                      refine Rn.lastN (k0 := r.length) dX5_value_116 h2 (by simp only [List.length_cons] at hsl; omega) (by decide) ?_
                      refine Rn.meq (M2 := sL M (a + 2) (vp_updL f r.length y)) ((congrArg (fun r9 => sL (sL M (a + 2) f) (a + 2) (vp_updL r9 r.length y)) (sL_at _ _ _)).trans (sL_sL _ _ _ _)) ?_
                      refine Rn.goto dX5_value_117 ?_
                      refine Rn.forget (lv' := [some (.ref a), some (.ref q), some (.int (nI (r.length + 1))), some (.int (nI i)), none, none, none]) (⟨rfl, ⟨rfl, ⟨rfl, ⟨rfl, trivial⟩⟩⟩⟩) ?_
                      refine Rn.iincN (lv' := [some (.ref a), some (.ref q), some (.int (nI (r.length + 1))), some (.int (nI (i + 1))), none, none, none]) dX5_value_188 rfl (by decide) rfl ?_
                      refine Rn.goto dX5_value_191 ?_
                      exact ih (i + 1) (y :: r) _ (by omega) (hst) (⟨pk_uLs, rp_up (Nat.le_refl _) hrp.2⟩) (by simp only [List.length_cons] at hsl ⊢; omega)
                    refine Rn.if_ne dX5_value_108 (fun g9 => ?_) (fun g9 => ?_)
                    · rw [lg_cmp_eq] at g9
                      refine Rn.lconstv (v := 0) dX5_value_115 rfl ?_
                      exact join 0 (by rw [if_neg g9])
                    · rw [lg_cmp_eq] at g9
                      refine Rn.lconstv (v := 1) dX5_value_111 rfl ?_
                      refine Rn.goto dX5_value_112 ?_
                      exact join 1 (by rw [if_pos g9])
            · skip
              rw [if_pos ⟨Int32.not_lt.mp g2, Int32.not_lt.mp g3⟩] at hst
              refine Rn.aload_n dX5_value_60 rfl ?_
              refine Rn.getR dX5_value_61 fX5_15 rfl h0 p1 ?_
              refine Rn.iload_n dX5_value_64 rfl ?_
              refine Rn.aload_n dX5_value_65 rfl ?_
              refine Rn.iload dX5_value_66 rfl ?_
              refine Rn.bipushv (v := 19) dX5_value_68 bp_19 ?_
              refine Rn.isub dX5_value_70 ?_
              refine Rn.iald dX5_value_71 hq (nm_in (Int32.not_lt.mp g2) (Int32.not_lt.mp g3)) ?_
              refine Rn.i2l dX5_value_72 ?_
              refine Rn.lastN (k0 := s.length) dX5_value_73 h2 (by omega) (by decide) ?_
              refine Rn.meq (M2 := sL M (a + 2) (vp_updL f s.length (Int32.toInt64 (M.1 q (Int32.toNatClampNeg (kd - 19)))))) ((congrArg (fun r9 => sL (sL M (a + 2) f) (a + 2) (vp_updL r9 s.length (Int32.toInt64 (M.1 q (Int32.toNatClampNeg (kd - 19)))))) (sL_at _ _ _)).trans (sL_sL _ _ _ _)) ?_
              refine Rn.iincN (lv' := [some (.ref a), some (.ref q), some (.int (nI (s.length + 1))), some (.int (nI i)), some (.int kd), none, none]) dX5_value_74 rfl (by decide) rfl ?_
              refine Rn.goto dX5_value_77 ?_
              refine Rn.forget (lv' := [some (.ref a), some (.ref q), some (.int (nI (s.length + 1))), some (.int (nI i)), none, none, none]) (⟨rfl, ⟨rfl, ⟨rfl, ⟨rfl, trivial⟩⟩⟩⟩) ?_
              refine Rn.iincN (lv' := [some (.ref a), some (.ref q), some (.int (nI (s.length + 1))), some (.int (nI (i + 1))), none, none, none]) dX5_value_188 rfl (by decide) rfl ?_
              refine Rn.goto dX5_value_191 ?_
              exact ih (i + 1) ((M.1 q (kd - 19).toNatClampNeg).toInt64 :: s) _ (by omega) (hst) (rp_push hrp) (by simp only [List.length_cons]; omega)
        · skip
          rw [if_pos (Int32.not_le.mp g1)] at hst
          refine Rn.aload_n dX5_value_27 rfl ?_
          refine Rn.getR dX5_value_28 fX5_15 rfl h0 p1 ?_
          refine Rn.iload_n dX5_value_31 rfl ?_
          refine Rn.aload_n dX5_value_32 rfl ?_
          refine Rn.getR dX5_value_33 fX5_9 rfl h0 p0 ?_
          refine Rn.iload_n dX5_value_36 rfl ?_
          refine Rn.ialdN (k0 := i) dX5_value_37 h1 (by omega) (by decide) ?_
          refine Rn.i2l dX5_value_38 ?_
          refine Rn.lastN (k0 := s.length) dX5_value_39 h2 (by omega) (by decide) ?_
          refine Rn.meq (M2 := sL M (a + 2) (vp_updL f s.length (Int32.toInt64 (M.1 (a + 1) i)))) ((congrArg (fun r9 => sL (sL M (a + 2) f) (a + 2) (vp_updL r9 s.length (Int32.toInt64 (M.1 (a + 1) i)))) (sL_at _ _ _)).trans (sL_sL _ _ _ _)) ?_
          refine Rn.iincN (lv' := [some (.ref a), some (.ref q), some (.int (nI (s.length + 1))), some (.int (nI i)), some (.int kd), none, none]) dX5_value_40 rfl (by decide) rfl ?_
          refine Rn.goto dX5_value_43 ?_
          refine Rn.forget (lv' := [some (.ref a), some (.ref q), some (.int (nI (s.length + 1))), some (.int (nI i)), none, none, none]) (⟨rfl, ⟨rfl, ⟨rfl, ⟨rfl, trivial⟩⟩⟩⟩) ?_
          refine Rn.iincN (lv' := [some (.ref a), some (.ref q), some (.int (nI (s.length + 1))), some (.int (nI (i + 1))), none, none, none]) dX5_value_188 rfl (by decide) rfl ?_
          refine Rn.goto dX5_value_191 ?_
          exact ih (i + 1) ((M.1 (a + 1) i).toInt64 :: s) _ (by omega) (hst) (rp_push hrp) (by simp only [List.length_cons]; omega)
  refine Rn.meq (M2 := sL M (a + 2) (M.2.1 (a + 2))) (sL_self M (a + 2)).symm ?_
  exact loop n 0 [] _ (by omega) rfl trivial (Nat.le_refl 0)
