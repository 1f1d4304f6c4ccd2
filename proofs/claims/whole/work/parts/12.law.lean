def hdL (k : Int32) (x y : Int64) : Int32 :=
  if k = 16 then (if x = 0 then (if y = 0 then 0 else 1) else 1)
  else if k = 17 then (if x = 0 then 0 else if y = 0 then 0 else 1)
  else if k = 25 then (if y ≤ x then 0 else 1)
  else if k = 26 then (if y < x then 0 else 1)
  else if k = 27 then (if x = y then 1 else 0)
  else if k = 28 then (if x = y then 0 else 1)
  else if k = 29 then (if x < y then 0 else 1)
  else (if x ≤ y then 0 else 1)
def erL : Int64 := -9223372036854775808
def jnL (k : Int32) (x y : Int64) : Int64 :=
  if k = 31 then x + y
  else if k = 32 then x - y
  else if k = 33 then (if x = 0 then x * y else if abL y ≤ 1000000000000 / abL x then x * y else erL)
  else if k = 34 then (if y = 0 then erL else x / y)
  else if hdL k x y = 0 then 0 else 1
theorem abL_ne {x : Int64} (h : ¬ x = 0) : ¬ abL x = 0 := by
  unfold abL
  split
  · exact h
  · intro h2
    exact h (by rw [← Int64.neg_neg (a := x), h2]; rfl)
theorem tX5_holds {G : Gx} {l : Launch} {ly : Ly} {M : Mm} {k : Int32} {x y : Int64} : Mt G l mX5_holds (1, 0, 0, false) [.int k, .long x, .long y] ly M (Is (some (.int (hdL k x y))) ly M) := by
  refine Mt.is (fun Q hQ => ?_)
  refine Mt.of (lv := [some (.int k), some (.long x), none, some (.long y), none]) rfl ?_
  refine Rn.iload_n dX5_holds_0 rfl ?_
  by_cases c16 : k = 16
  · subst c16
    refine Rn.tableIn (off := 71) (tgt := 72) dX5_holds_1 (by decide) (by decide) (by decide) (by decide) ?_
    refine Rn.lload_n dX5_holds_72 rfl ?_
    refine Rn.lconstv (v := 0) dX5_holds_73 rfl ?_
    refine Rn.lcmp dX5_holds_74 ?_
    refine Rn.if_ne dX5_holds_75 (fun h75 => ?_) (fun h75 => ?_)
    · rw [lg_cmp_eq] at h75
      refine Rn.iconstv (v := 1) dX5_holds_84 ic_1 ?_
      refine Rn.goto dX5_holds_85 ?_
      have hv : hdL 16 x y = 1 := by simp only [hdL, (by decide : ((16 : Int32) = 17) = False), (by decide : ((16 : Int32) = 25) = False), (by decide : ((16 : Int32) = 26) = False), (by decide : ((16 : Int32) = 27) = False), (by decide : ((16 : Int32) = 28) = False), (by decide : ((16 : Int32) = 29) = False), h75, ↓reduceIte]
      rw [hv] at hQ
      exact Rn.iret (ty := .boolean) dX5_holds_89 rfl rfl hQ
    · rw [lg_cmp_eq] at h75
      refine Rn.lload_n dX5_holds_78 rfl ?_
      refine Rn.lconstv (v := 0) dX5_holds_79 rfl ?_
      refine Rn.lcmp dX5_holds_80 ?_
      refine Rn.if_eq dX5_holds_81 (fun h81 => ?_) (fun h81 => ?_)
      · rw [lg_cmp_eq] at h81
        refine Rn.iconstv (v := 0) dX5_holds_88 ic_0 ?_
        have hv : hdL 16 x y = 0 := by simp only [hdL, (by decide : ((16 : Int32) = 17) = False), (by decide : ((16 : Int32) = 25) = False), (by decide : ((16 : Int32) = 26) = False), (by decide : ((16 : Int32) = 27) = False), (by decide : ((16 : Int32) = 28) = False), (by decide : ((16 : Int32) = 29) = False), h75, h81, ↓reduceIte]
        rw [hv] at hQ
        exact Rn.iret (ty := .boolean) dX5_holds_89 rfl rfl hQ
      · rw [lg_cmp_eq] at h81
        refine Rn.iconstv (v := 1) dX5_holds_84 ic_1 ?_
        refine Rn.goto dX5_holds_85 ?_
        have hv : hdL 16 x y = 1 := by simp only [hdL, (by decide : ((16 : Int32) = 17) = False), (by decide : ((16 : Int32) = 25) = False), (by decide : ((16 : Int32) = 26) = False), (by decide : ((16 : Int32) = 27) = False), (by decide : ((16 : Int32) = 28) = False), (by decide : ((16 : Int32) = 29) = False), h75, h81, ↓reduceIte]
        rw [hv] at hQ
        exact Rn.iret (ty := .boolean) dX5_holds_89 rfl rfl hQ
  · skip
    by_cases c17 : k = 17
    · subst c17
      refine Rn.tableIn (off := 89) (tgt := 90) dX5_holds_1 (by decide) (by decide) (by decide) (by decide) ?_
      refine Rn.lload_n dX5_holds_90 rfl ?_
      refine Rn.lconstv (v := 0) dX5_holds_91 rfl ?_
      refine Rn.lcmp dX5_holds_92 ?_
      refine Rn.if_eq dX5_holds_93 (fun h93 => ?_) (fun h93 => ?_)
      · rw [lg_cmp_eq] at h93
        refine Rn.iconstv (v := 0) dX5_holds_106 ic_0 ?_
        have hv : hdL 17 x y = 0 := by simp only [hdL, (by decide : ((17 : Int32) = 16) = False), (by decide : ((17 : Int32) = 25) = False), (by decide : ((17 : Int32) = 26) = False), (by decide : ((17 : Int32) = 27) = False), (by decide : ((17 : Int32) = 28) = False), (by decide : ((17 : Int32) = 29) = False), h93, ↓reduceIte]
        rw [hv] at hQ
        exact Rn.iret (ty := .boolean) dX5_holds_107 rfl rfl hQ
      · rw [lg_cmp_eq] at h93
        refine Rn.lload_n dX5_holds_96 rfl ?_
        refine Rn.lconstv (v := 0) dX5_holds_97 rfl ?_
        refine Rn.lcmp dX5_holds_98 ?_
        refine Rn.if_eq dX5_holds_99 (fun h99 => ?_) (fun h99 => ?_)
        · rw [lg_cmp_eq] at h99
          refine Rn.iconstv (v := 0) dX5_holds_106 ic_0 ?_
          have hv : hdL 17 x y = 0 := by simp only [hdL, (by decide : ((17 : Int32) = 16) = False), (by decide : ((17 : Int32) = 25) = False), (by decide : ((17 : Int32) = 26) = False), (by decide : ((17 : Int32) = 27) = False), (by decide : ((17 : Int32) = 28) = False), (by decide : ((17 : Int32) = 29) = False), h93, h99, ↓reduceIte]
          rw [hv] at hQ
          exact Rn.iret (ty := .boolean) dX5_holds_107 rfl rfl hQ
        · rw [lg_cmp_eq] at h99
          refine Rn.iconstv (v := 1) dX5_holds_102 ic_1 ?_
          refine Rn.goto dX5_holds_103 ?_
          have hv : hdL 17 x y = 1 := by simp only [hdL, (by decide : ((17 : Int32) = 16) = False), (by decide : ((17 : Int32) = 25) = False), (by decide : ((17 : Int32) = 26) = False), (by decide : ((17 : Int32) = 27) = False), (by decide : ((17 : Int32) = 28) = False), (by decide : ((17 : Int32) = 29) = False), h93, h99, ↓reduceIte]
          rw [hv] at hQ
          exact Rn.iret (ty := .boolean) dX5_holds_107 rfl rfl hQ
    · skip
      by_cases c25 : k = 25
      · subst c25
        refine Rn.tableIn (off := 107) (tgt := 108) dX5_holds_1 (by decide) (by decide) (by decide) (by decide) ?_
        refine Rn.lload_n dX5_holds_108 rfl ?_
        refine Rn.lload_n dX5_holds_109 rfl ?_
        refine Rn.lcmp dX5_holds_110 ?_
        refine Rn.if_ge dX5_holds_111 (fun h111 => ?_) (fun h111 => ?_)
        · rw [lg_cmp_ge] at h111
          refine Rn.iconstv (v := 0) dX5_holds_118 ic_0 ?_
          have hv : hdL 25 x y = 0 := by simp only [hdL, (by decide : ((25 : Int32) = 16) = False), (by decide : ((25 : Int32) = 17) = False), (by decide : ((25 : Int32) = 26) = False), (by decide : ((25 : Int32) = 27) = False), (by decide : ((25 : Int32) = 28) = False), (by decide : ((25 : Int32) = 29) = False), h111, ↓reduceIte]
          rw [hv] at hQ
          exact Rn.iret (ty := .boolean) dX5_holds_119 rfl rfl hQ
        · rw [lg_cmp_ge] at h111
          refine Rn.iconstv (v := 1) dX5_holds_114 ic_1 ?_
          refine Rn.goto dX5_holds_115 ?_
          have hv : hdL 25 x y = 1 := by simp only [hdL, (by decide : ((25 : Int32) = 16) = False), (by decide : ((25 : Int32) = 17) = False), (by decide : ((25 : Int32) = 26) = False), (by decide : ((25 : Int32) = 27) = False), (by decide : ((25 : Int32) = 28) = False), (by decide : ((25 : Int32) = 29) = False), h111, ↓reduceIte]
          rw [hv] at hQ
          exact Rn.iret (ty := .boolean) dX5_holds_119 rfl rfl hQ
      · skip
        by_cases c26 : k = 26
        · subst c26
          refine Rn.tableIn (off := 119) (tgt := 120) dX5_holds_1 (by decide) (by decide) (by decide) (by decide) ?_
          refine Rn.lload_n dX5_holds_120 rfl ?_
          refine Rn.lload_n dX5_holds_121 rfl ?_
          refine Rn.lcmp dX5_holds_122 ?_
          refine Rn.if_gt dX5_holds_123 (fun h123 => ?_) (fun h123 => ?_)
          · rw [lg_cmp_gt] at h123
            refine Rn.iconstv (v := 0) dX5_holds_130 ic_0 ?_
            have hv : hdL 26 x y = 0 := by simp only [hdL, (by decide : ((26 : Int32) = 16) = False), (by decide : ((26 : Int32) = 17) = False), (by decide : ((26 : Int32) = 25) = False), (by decide : ((26 : Int32) = 27) = False), (by decide : ((26 : Int32) = 28) = False), (by decide : ((26 : Int32) = 29) = False), h123, ↓reduceIte]
            rw [hv] at hQ
            exact Rn.iret (ty := .boolean) dX5_holds_131 rfl rfl hQ
          · rw [lg_cmp_gt] at h123
            refine Rn.iconstv (v := 1) dX5_holds_126 ic_1 ?_
            refine Rn.goto dX5_holds_127 ?_
            have hv : hdL 26 x y = 1 := by simp only [hdL, (by decide : ((26 : Int32) = 16) = False), (by decide : ((26 : Int32) = 17) = False), (by decide : ((26 : Int32) = 25) = False), (by decide : ((26 : Int32) = 27) = False), (by decide : ((26 : Int32) = 28) = False), (by decide : ((26 : Int32) = 29) = False), h123, ↓reduceIte]
            rw [hv] at hQ
            exact Rn.iret (ty := .boolean) dX5_holds_131 rfl rfl hQ
        · skip
          by_cases c27 : k = 27
          · subst c27
            refine Rn.tableIn (off := 131) (tgt := 132) dX5_holds_1 (by decide) (by decide) (by decide) (by decide) ?_
            refine Rn.lload_n dX5_holds_132 rfl ?_
            refine Rn.lload_n dX5_holds_133 rfl ?_
            refine Rn.lcmp dX5_holds_134 ?_
            refine Rn.if_ne dX5_holds_135 (fun h135 => ?_) (fun h135 => ?_)
            · rw [lg_cmp_eq] at h135
              refine Rn.iconstv (v := 0) dX5_holds_142 ic_0 ?_
              have hv : hdL 27 x y = 0 := by simp only [hdL, (by decide : ((27 : Int32) = 16) = False), (by decide : ((27 : Int32) = 17) = False), (by decide : ((27 : Int32) = 25) = False), (by decide : ((27 : Int32) = 26) = False), (by decide : ((27 : Int32) = 28) = False), (by decide : ((27 : Int32) = 29) = False), h135, ↓reduceIte]
              rw [hv] at hQ
              exact Rn.iret (ty := .boolean) dX5_holds_143 rfl rfl hQ
            · rw [lg_cmp_eq] at h135
              refine Rn.iconstv (v := 1) dX5_holds_138 ic_1 ?_
              refine Rn.goto dX5_holds_139 ?_
              have hv : hdL 27 x y = 1 := by simp only [hdL, (by decide : ((27 : Int32) = 16) = False), (by decide : ((27 : Int32) = 17) = False), (by decide : ((27 : Int32) = 25) = False), (by decide : ((27 : Int32) = 26) = False), (by decide : ((27 : Int32) = 28) = False), (by decide : ((27 : Int32) = 29) = False), h135, ↓reduceIte]
              rw [hv] at hQ
              exact Rn.iret (ty := .boolean) dX5_holds_143 rfl rfl hQ
          · skip
            by_cases c28 : k = 28
            · subst c28
              refine Rn.tableIn (off := 143) (tgt := 144) dX5_holds_1 (by decide) (by decide) (by decide) (by decide) ?_
              refine Rn.lload_n dX5_holds_144 rfl ?_
              refine Rn.lload_n dX5_holds_145 rfl ?_
              refine Rn.lcmp dX5_holds_146 ?_
              refine Rn.if_eq dX5_holds_147 (fun h147 => ?_) (fun h147 => ?_)
              · rw [lg_cmp_eq] at h147
                refine Rn.iconstv (v := 0) dX5_holds_154 ic_0 ?_
                have hv : hdL 28 x y = 0 := by simp only [hdL, (by decide : ((28 : Int32) = 16) = False), (by decide : ((28 : Int32) = 17) = False), (by decide : ((28 : Int32) = 25) = False), (by decide : ((28 : Int32) = 26) = False), (by decide : ((28 : Int32) = 27) = False), (by decide : ((28 : Int32) = 29) = False), h147, ↓reduceIte]
                rw [hv] at hQ
                exact Rn.iret (ty := .boolean) dX5_holds_155 rfl rfl hQ
              · rw [lg_cmp_eq] at h147
                refine Rn.iconstv (v := 1) dX5_holds_150 ic_1 ?_
                refine Rn.goto dX5_holds_151 ?_
                have hv : hdL 28 x y = 1 := by simp only [hdL, (by decide : ((28 : Int32) = 16) = False), (by decide : ((28 : Int32) = 17) = False), (by decide : ((28 : Int32) = 25) = False), (by decide : ((28 : Int32) = 26) = False), (by decide : ((28 : Int32) = 27) = False), (by decide : ((28 : Int32) = 29) = False), h147, ↓reduceIte]
                rw [hv] at hQ
                exact Rn.iret (ty := .boolean) dX5_holds_155 rfl rfl hQ
            · skip
              by_cases c29 : k = 29
              · subst c29
                refine Rn.tableIn (off := 155) (tgt := 156) dX5_holds_1 (by decide) (by decide) (by decide) (by decide) ?_
                refine Rn.lload_n dX5_holds_156 rfl ?_
                refine Rn.lload_n dX5_holds_157 rfl ?_
                refine Rn.lcmp dX5_holds_158 ?_
                refine Rn.if_lt dX5_holds_159 (fun h159 => ?_) (fun h159 => ?_)
                · rw [lg_cmp_lt] at h159
                  refine Rn.iconstv (v := 0) dX5_holds_166 ic_0 ?_
                  have hv : hdL 29 x y = 0 := by simp only [hdL, (by decide : ((29 : Int32) = 16) = False), (by decide : ((29 : Int32) = 17) = False), (by decide : ((29 : Int32) = 25) = False), (by decide : ((29 : Int32) = 26) = False), (by decide : ((29 : Int32) = 27) = False), (by decide : ((29 : Int32) = 28) = False), h159, ↓reduceIte]
                  rw [hv] at hQ
                  exact Rn.iret (ty := .boolean) dX5_holds_167 rfl rfl hQ
                · rw [lg_cmp_lt] at h159
                  refine Rn.iconstv (v := 1) dX5_holds_162 ic_1 ?_
                  refine Rn.goto dX5_holds_163 ?_
                  have hv : hdL 29 x y = 1 := by simp only [hdL, (by decide : ((29 : Int32) = 16) = False), (by decide : ((29 : Int32) = 17) = False), (by decide : ((29 : Int32) = 25) = False), (by decide : ((29 : Int32) = 26) = False), (by decide : ((29 : Int32) = 27) = False), (by decide : ((29 : Int32) = 28) = False), h159, ↓reduceIte]
                  rw [hv] at hQ
                  exact Rn.iret (ty := .boolean) dX5_holds_167 rfl rfl hQ
              · skip
                have n16 : Int32.toInt k ≠ 16 := fun h => c16 (Int32.toInt_inj.mp (h.trans (by decide)))
                have n17 : Int32.toInt k ≠ 17 := fun h => c17 (Int32.toInt_inj.mp (h.trans (by decide)))
                have n25 : Int32.toInt k ≠ 25 := fun h => c25 (Int32.toInt_inj.mp (h.trans (by decide)))
                have n26 : Int32.toInt k ≠ 26 := fun h => c26 (Int32.toInt_inj.mp (h.trans (by decide)))
                have n27 : Int32.toInt k ≠ 27 := fun h => c27 (Int32.toInt_inj.mp (h.trans (by decide)))
                have n28 : Int32.toInt k ≠ 28 := fun h => c28 (Int32.toInt_inj.mp (h.trans (by decide)))
                have n29 : Int32.toInt k ≠ 29 := fun h => c29 (Int32.toInt_inj.mp (h.trans (by decide)))
                by_cases c18 : k = 18
                · subst c18
                  refine Rn.tableIn (off := 167) (tgt := 168) dX5_holds_1 (by decide) (by decide) (by decide) (by decide) ?_
                  refine Rn.lload_n dX5_holds_168 rfl ?_
                  refine Rn.lload_n dX5_holds_169 rfl ?_
                  refine Rn.lcmp dX5_holds_170 ?_
                  refine Rn.if_le dX5_holds_171 (fun h171 => ?_) (fun h171 => ?_)
                  · rw [lg_cmp_le] at h171
                    refine Rn.iconstv (v := 0) dX5_holds_178 ic_0 ?_
                    have hv : hdL 18 x y = 0 := by simp only [hdL, (by decide : ((18 : Int32) = 16) = False), (by decide : ((18 : Int32) = 17) = False), (by decide : ((18 : Int32) = 25) = False), (by decide : ((18 : Int32) = 26) = False), (by decide : ((18 : Int32) = 27) = False), (by decide : ((18 : Int32) = 28) = False), (by decide : ((18 : Int32) = 29) = False), h171, ↓reduceIte]
                    rw [hv] at hQ
                    exact Rn.iret (ty := .boolean) dX5_holds_179 rfl rfl hQ
                  · rw [lg_cmp_le] at h171
                    refine Rn.iconstv (v := 1) dX5_holds_174 ic_1 ?_
                    refine Rn.goto dX5_holds_175 ?_
                    have hv : hdL 18 x y = 1 := by simp only [hdL, (by decide : ((18 : Int32) = 16) = False), (by decide : ((18 : Int32) = 17) = False), (by decide : ((18 : Int32) = 25) = False), (by decide : ((18 : Int32) = 26) = False), (by decide : ((18 : Int32) = 27) = False), (by decide : ((18 : Int32) = 28) = False), (by decide : ((18 : Int32) = 29) = False), h171, ↓reduceIte]
                    rw [hv] at hQ
                    exact Rn.iret (ty := .boolean) dX5_holds_179 rfl rfl hQ
                · skip
                  have n18 : Int32.toInt k ≠ 18 := fun h => c18 (Int32.toInt_inj.mp (h.trans (by decide)))
                  by_cases c19 : k = 19
                  · subst c19
                    refine Rn.tableIn (off := 167) (tgt := 168) dX5_holds_1 (by decide) (by decide) (by decide) (by decide) ?_
                    refine Rn.lload_n dX5_holds_168 rfl ?_
                    refine Rn.lload_n dX5_holds_169 rfl ?_
                    refine Rn.lcmp dX5_holds_170 ?_
                    refine Rn.if_le dX5_holds_171 (fun h171 => ?_) (fun h171 => ?_)
                    · rw [lg_cmp_le] at h171
                      refine Rn.iconstv (v := 0) dX5_holds_178 ic_0 ?_
                      have hv : hdL 19 x y = 0 := by simp only [hdL, (by decide : ((19 : Int32) = 16) = False), (by decide : ((19 : Int32) = 17) = False), (by decide : ((19 : Int32) = 25) = False), (by decide : ((19 : Int32) = 26) = False), (by decide : ((19 : Int32) = 27) = False), (by decide : ((19 : Int32) = 28) = False), (by decide : ((19 : Int32) = 29) = False), h171, ↓reduceIte]
                      rw [hv] at hQ
                      exact Rn.iret (ty := .boolean) dX5_holds_179 rfl rfl hQ
                    · rw [lg_cmp_le] at h171
                      refine Rn.iconstv (v := 1) dX5_holds_174 ic_1 ?_
                      refine Rn.goto dX5_holds_175 ?_
                      have hv : hdL 19 x y = 1 := by simp only [hdL, (by decide : ((19 : Int32) = 16) = False), (by decide : ((19 : Int32) = 17) = False), (by decide : ((19 : Int32) = 25) = False), (by decide : ((19 : Int32) = 26) = False), (by decide : ((19 : Int32) = 27) = False), (by decide : ((19 : Int32) = 28) = False), (by decide : ((19 : Int32) = 29) = False), h171, ↓reduceIte]
                      rw [hv] at hQ
                      exact Rn.iret (ty := .boolean) dX5_holds_179 rfl rfl hQ
                  · skip
                    have n19 : Int32.toInt k ≠ 19 := fun h => c19 (Int32.toInt_inj.mp (h.trans (by decide)))
                    by_cases c20 : k = 20
                    · subst c20
                      refine Rn.tableIn (off := 167) (tgt := 168) dX5_holds_1 (by decide) (by decide) (by decide) (by decide) ?_
                      refine Rn.lload_n dX5_holds_168 rfl ?_
                      refine Rn.lload_n dX5_holds_169 rfl ?_
                      refine Rn.lcmp dX5_holds_170 ?_
                      refine Rn.if_le dX5_holds_171 (fun h171 => ?_) (fun h171 => ?_)
                      · rw [lg_cmp_le] at h171
                        refine Rn.iconstv (v := 0) dX5_holds_178 ic_0 ?_
                        have hv : hdL 20 x y = 0 := by simp only [hdL, (by decide : ((20 : Int32) = 16) = False), (by decide : ((20 : Int32) = 17) = False), (by decide : ((20 : Int32) = 25) = False), (by decide : ((20 : Int32) = 26) = False), (by decide : ((20 : Int32) = 27) = False), (by decide : ((20 : Int32) = 28) = False), (by decide : ((20 : Int32) = 29) = False), h171, ↓reduceIte]
                        rw [hv] at hQ
                        exact Rn.iret (ty := .boolean) dX5_holds_179 rfl rfl hQ
                      · rw [lg_cmp_le] at h171
                        refine Rn.iconstv (v := 1) dX5_holds_174 ic_1 ?_
                        refine Rn.goto dX5_holds_175 ?_
                        have hv : hdL 20 x y = 1 := by simp only [hdL, (by decide : ((20 : Int32) = 16) = False), (by decide : ((20 : Int32) = 17) = False), (by decide : ((20 : Int32) = 25) = False), (by decide : ((20 : Int32) = 26) = False), (by decide : ((20 : Int32) = 27) = False), (by decide : ((20 : Int32) = 28) = False), (by decide : ((20 : Int32) = 29) = False), h171, ↓reduceIte]
                        rw [hv] at hQ
                        exact Rn.iret (ty := .boolean) dX5_holds_179 rfl rfl hQ
                    · skip
                      have n20 : Int32.toInt k ≠ 20 := fun h => c20 (Int32.toInt_inj.mp (h.trans (by decide)))
                      by_cases c21 : k = 21
                      · subst c21
                        refine Rn.tableIn (off := 167) (tgt := 168) dX5_holds_1 (by decide) (by decide) (by decide) (by decide) ?_
                        refine Rn.lload_n dX5_holds_168 rfl ?_
                        refine Rn.lload_n dX5_holds_169 rfl ?_
                        refine Rn.lcmp dX5_holds_170 ?_
                        refine Rn.if_le dX5_holds_171 (fun h171 => ?_) (fun h171 => ?_)
                        · rw [lg_cmp_le] at h171
                          refine Rn.iconstv (v := 0) dX5_holds_178 ic_0 ?_
                          have hv : hdL 21 x y = 0 := by simp only [hdL, (by decide : ((21 : Int32) = 16) = False), (by decide : ((21 : Int32) = 17) = False), (by decide : ((21 : Int32) = 25) = False), (by decide : ((21 : Int32) = 26) = False), (by decide : ((21 : Int32) = 27) = False), (by decide : ((21 : Int32) = 28) = False), (by decide : ((21 : Int32) = 29) = False), h171, ↓reduceIte]
                          rw [hv] at hQ
                          exact Rn.iret (ty := .boolean) dX5_holds_179 rfl rfl hQ
                        · rw [lg_cmp_le] at h171
                          refine Rn.iconstv (v := 1) dX5_holds_174 ic_1 ?_
                          refine Rn.goto dX5_holds_175 ?_
                          have hv : hdL 21 x y = 1 := by simp only [hdL, (by decide : ((21 : Int32) = 16) = False), (by decide : ((21 : Int32) = 17) = False), (by decide : ((21 : Int32) = 25) = False), (by decide : ((21 : Int32) = 26) = False), (by decide : ((21 : Int32) = 27) = False), (by decide : ((21 : Int32) = 28) = False), (by decide : ((21 : Int32) = 29) = False), h171, ↓reduceIte]
                          rw [hv] at hQ
                          exact Rn.iret (ty := .boolean) dX5_holds_179 rfl rfl hQ
                      · skip
                        have n21 : Int32.toInt k ≠ 21 := fun h => c21 (Int32.toInt_inj.mp (h.trans (by decide)))
                        by_cases c22 : k = 22
                        · subst c22
                          refine Rn.tableIn (off := 167) (tgt := 168) dX5_holds_1 (by decide) (by decide) (by decide) (by decide) ?_
                          refine Rn.lload_n dX5_holds_168 rfl ?_
                          refine Rn.lload_n dX5_holds_169 rfl ?_
                          refine Rn.lcmp dX5_holds_170 ?_
                          refine Rn.if_le dX5_holds_171 (fun h171 => ?_) (fun h171 => ?_)
                          · rw [lg_cmp_le] at h171
                            refine Rn.iconstv (v := 0) dX5_holds_178 ic_0 ?_
                            have hv : hdL 22 x y = 0 := by simp only [hdL, (by decide : ((22 : Int32) = 16) = False), (by decide : ((22 : Int32) = 17) = False), (by decide : ((22 : Int32) = 25) = False), (by decide : ((22 : Int32) = 26) = False), (by decide : ((22 : Int32) = 27) = False), (by decide : ((22 : Int32) = 28) = False), (by decide : ((22 : Int32) = 29) = False), h171, ↓reduceIte]
                            rw [hv] at hQ
                            exact Rn.iret (ty := .boolean) dX5_holds_179 rfl rfl hQ
                          · rw [lg_cmp_le] at h171
                            refine Rn.iconstv (v := 1) dX5_holds_174 ic_1 ?_
                            refine Rn.goto dX5_holds_175 ?_
                            have hv : hdL 22 x y = 1 := by simp only [hdL, (by decide : ((22 : Int32) = 16) = False), (by decide : ((22 : Int32) = 17) = False), (by decide : ((22 : Int32) = 25) = False), (by decide : ((22 : Int32) = 26) = False), (by decide : ((22 : Int32) = 27) = False), (by decide : ((22 : Int32) = 28) = False), (by decide : ((22 : Int32) = 29) = False), h171, ↓reduceIte]
                            rw [hv] at hQ
                            exact Rn.iret (ty := .boolean) dX5_holds_179 rfl rfl hQ
                        · skip
                          have n22 : Int32.toInt k ≠ 22 := fun h => c22 (Int32.toInt_inj.mp (h.trans (by decide)))
                          by_cases c23 : k = 23
                          · subst c23
                            refine Rn.tableIn (off := 167) (tgt := 168) dX5_holds_1 (by decide) (by decide) (by decide) (by decide) ?_
                            refine Rn.lload_n dX5_holds_168 rfl ?_
                            refine Rn.lload_n dX5_holds_169 rfl ?_
                            refine Rn.lcmp dX5_holds_170 ?_
                            refine Rn.if_le dX5_holds_171 (fun h171 => ?_) (fun h171 => ?_)
                            · rw [lg_cmp_le] at h171
                              refine Rn.iconstv (v := 0) dX5_holds_178 ic_0 ?_
                              have hv : hdL 23 x y = 0 := by simp only [hdL, (by decide : ((23 : Int32) = 16) = False), (by decide : ((23 : Int32) = 17) = False), (by decide : ((23 : Int32) = 25) = False), (by decide : ((23 : Int32) = 26) = False), (by decide : ((23 : Int32) = 27) = False), (by decide : ((23 : Int32) = 28) = False), (by decide : ((23 : Int32) = 29) = False), h171, ↓reduceIte]
                              rw [hv] at hQ
                              exact Rn.iret (ty := .boolean) dX5_holds_179 rfl rfl hQ
                            · rw [lg_cmp_le] at h171
                              refine Rn.iconstv (v := 1) dX5_holds_174 ic_1 ?_
                              refine Rn.goto dX5_holds_175 ?_
                              have hv : hdL 23 x y = 1 := by simp only [hdL, (by decide : ((23 : Int32) = 16) = False), (by decide : ((23 : Int32) = 17) = False), (by decide : ((23 : Int32) = 25) = False), (by decide : ((23 : Int32) = 26) = False), (by decide : ((23 : Int32) = 27) = False), (by decide : ((23 : Int32) = 28) = False), (by decide : ((23 : Int32) = 29) = False), h171, ↓reduceIte]
                              rw [hv] at hQ
                              exact Rn.iret (ty := .boolean) dX5_holds_179 rfl rfl hQ
                          · skip
                            have n23 : Int32.toInt k ≠ 23 := fun h => c23 (Int32.toInt_inj.mp (h.trans (by decide)))
                            by_cases c24 : k = 24
                            · subst c24
                              refine Rn.tableIn (off := 167) (tgt := 168) dX5_holds_1 (by decide) (by decide) (by decide) (by decide) ?_
                              refine Rn.lload_n dX5_holds_168 rfl ?_
                              refine Rn.lload_n dX5_holds_169 rfl ?_
                              refine Rn.lcmp dX5_holds_170 ?_
                              refine Rn.if_le dX5_holds_171 (fun h171 => ?_) (fun h171 => ?_)
                              · rw [lg_cmp_le] at h171
                                refine Rn.iconstv (v := 0) dX5_holds_178 ic_0 ?_
                                have hv : hdL 24 x y = 0 := by simp only [hdL, (by decide : ((24 : Int32) = 16) = False), (by decide : ((24 : Int32) = 17) = False), (by decide : ((24 : Int32) = 25) = False), (by decide : ((24 : Int32) = 26) = False), (by decide : ((24 : Int32) = 27) = False), (by decide : ((24 : Int32) = 28) = False), (by decide : ((24 : Int32) = 29) = False), h171, ↓reduceIte]
                                rw [hv] at hQ
                                exact Rn.iret (ty := .boolean) dX5_holds_179 rfl rfl hQ
                              · rw [lg_cmp_le] at h171
                                refine Rn.iconstv (v := 1) dX5_holds_174 ic_1 ?_
                                refine Rn.goto dX5_holds_175 ?_
                                have hv : hdL 24 x y = 1 := by simp only [hdL, (by decide : ((24 : Int32) = 16) = False), (by decide : ((24 : Int32) = 17) = False), (by decide : ((24 : Int32) = 25) = False), (by decide : ((24 : Int32) = 26) = False), (by decide : ((24 : Int32) = 27) = False), (by decide : ((24 : Int32) = 28) = False), (by decide : ((24 : Int32) = 29) = False), h171, ↓reduceIte]
                                rw [hv] at hQ
                                exact Rn.iret (ty := .boolean) dX5_holds_179 rfl rfl hQ
                            · skip
                              have n24 : Int32.toInt k ≠ 24 := fun h => c24 (Int32.toInt_inj.mp (h.trans (by decide)))
                              refine Rn.tableOut (tgt := 168) dX5_holds_1 (by omega) (by decide) ?_
                              refine Rn.lload_n dX5_holds_168 rfl ?_
                              refine Rn.lload_n dX5_holds_169 rfl ?_
                              refine Rn.lcmp dX5_holds_170 ?_
                              refine Rn.if_le dX5_holds_171 (fun h171 => ?_) (fun h171 => ?_)
                              · rw [lg_cmp_le] at h171
                                refine Rn.iconstv (v := 0) dX5_holds_178 ic_0 ?_
                                have hv : hdL k x y = 0 := by simp only [hdL, c16, c17, c25, c26, c27, c28, c29, h171, ↓reduceIte]
                                rw [hv] at hQ
                                exact Rn.iret (ty := .boolean) dX5_holds_179 rfl rfl hQ
                              · rw [lg_cmp_le] at h171
                                refine Rn.iconstv (v := 1) dX5_holds_174 ic_1 ?_
                                refine Rn.goto dX5_holds_175 ?_
                                have hv : hdL k x y = 1 := by simp only [hdL, c16, c17, c25, c26, c27, c28, c29, h171, ↓reduceIte]
                                rw [hv] at hQ
                                exact Rn.iret (ty := .boolean) dX5_holds_179 rfl rfl hQ
theorem tX5_join {G : Gx} {l : Launch} {ly : Ly} {M : Mm} {k : Int32} {x y : Int64} : Mt G l mX5_join (2, 0, 0, false) [.int k, .long x, .long y] ly M (Is (some (.long (jnL k x y))) ly M) := by
  refine Mt.is (fun Q hQ => ?_)
  refine Mt.of (lv := [some (.int k), some (.long x), none, some (.long y), none]) rfl ?_
  refine Rn.iload_n dX5_join_0 rfl ?_
  by_cases c31 : k = 31
  · subst c31
    refine Rn.tableIn (off := 31) (tgt := 32) dX5_join_1 (by decide) (by decide) (by decide) (by decide) ?_
    refine Rn.lload_n dX5_join_32 rfl ?_
    refine Rn.lload_n dX5_join_33 rfl ?_
    refine Rn.ladd dX5_join_34 ?_
    have hv : jnL 31 x y = x + y := by simp only [jnL, (by decide : ((31 : Int32) = 32) = False), (by decide : ((31 : Int32) = 33) = False), (by decide : ((31 : Int32) = 34) = False), ↓reduceIte]
    rw [hv] at hQ
    exact Rn.lret dX5_join_35 rfl hQ
  · skip
    by_cases c32 : k = 32
    · subst c32
      refine Rn.tableIn (off := 35) (tgt := 36) dX5_join_1 (by decide) (by decide) (by decide) (by decide) ?_
      refine Rn.lload_n dX5_join_36 rfl ?_
      refine Rn.lload_n dX5_join_37 rfl ?_
      refine Rn.lsub dX5_join_38 ?_
      have hv : jnL 32 x y = x - y := by simp only [jnL, (by decide : ((32 : Int32) = 31) = False), (by decide : ((32 : Int32) = 33) = False), (by decide : ((32 : Int32) = 34) = False), ↓reduceIte]
      rw [hv] at hQ
      exact Rn.lret dX5_join_39 rfl hQ
    · skip
      by_cases c33 : k = 33
      · subst c33
        refine Rn.tableIn (off := 39) (tgt := 40) dX5_join_1 (by decide) (by decide) (by decide) (by decide) ?_
        refine Rn.lload_n dX5_join_40 rfl ?_
        refine Rn.lconstv (v := 0) dX5_join_41 rfl ?_
        refine Rn.lcmp dX5_join_42 ?_
        refine Rn.if_eq dX5_join_43 (fun h43 => ?_) (fun h43 => ?_)
        · rw [lg_cmp_eq] at h43
          refine Rn.lload_n dX5_join_68 rfl ?_
          refine Rn.lload_n dX5_join_69 rfl ?_
          refine Rn.lmul dX5_join_70 ?_
          have hv : jnL 33 x y = x * y := by simp only [jnL, (by decide : ((33 : Int32) = 31) = False), (by decide : ((33 : Int32) = 32) = False), (by decide : ((33 : Int32) = 34) = False), h43, ↓reduceIte]
          rw [hv] at hQ
          exact Rn.lret dX5_join_71 rfl hQ
        · rw [lg_cmp_eq] at h43
          refine Rn.lload_n dX5_join_46 rfl ?_
          refine Rn.mabsL dX5_join_47 jX5_33 jw_mabsL ⟨(Nat.le_of_ble_eq_true rfl), (Nat.le_of_ble_eq_true rfl)⟩ ?_
          refine Rn.ldc2 dX5_join_50 kX5_27 ?_
          refine Rn.lload_n dX5_join_53 rfl ?_
          refine Rn.mabsL dX5_join_54 jX5_33 jw_mabsL ⟨(Nat.le_of_ble_eq_true rfl), (Nat.le_of_ble_eq_true rfl)⟩ ?_
          refine Rn.ldiv dX5_join_57 (abL_ne h43) ?_
          refine Rn.lcmp dX5_join_58 ?_
          refine Rn.if_le dX5_join_59 (fun h59 => ?_) (fun h59 => ?_)
          · rw [lg_cmp_le] at h59
            refine Rn.lload_n dX5_join_68 rfl ?_
            refine Rn.lload_n dX5_join_69 rfl ?_
            refine Rn.lmul dX5_join_70 ?_
            have hv : jnL 33 x y = x * y := by simp only [jnL, (by decide : ((33 : Int32) = 31) = False), (by decide : ((33 : Int32) = 32) = False), (by decide : ((33 : Int32) = 34) = False), h43, h59, ↓reduceIte]
            rw [hv] at hQ
            exact Rn.lret dX5_join_71 rfl hQ
          · rw [lg_cmp_le] at h59
            refine Rn.ldc2 dX5_join_62 kX5_31 ?_
            refine Rn.goto dX5_join_65 ?_
            have hv : jnL 33 x y = (-9223372036854775808) := by simp only [jnL, (by decide : ((33 : Int32) = 31) = False), (by decide : ((33 : Int32) = 32) = False), (by decide : ((33 : Int32) = 34) = False), h43, h59, ↓reduceIte]; rfl
            rw [hv] at hQ
            exact Rn.lret dX5_join_71 rfl hQ
      · skip
        by_cases c34 : k = 34
        · subst c34
          refine Rn.tableIn (off := 71) (tgt := 72) dX5_join_1 (by decide) (by decide) (by decide) (by decide) ?_
          refine Rn.lload_n dX5_join_72 rfl ?_
          refine Rn.lconstv (v := 0) dX5_join_73 rfl ?_
          refine Rn.lcmp dX5_join_74 ?_
          refine Rn.if_ne dX5_join_75 (fun h75 => ?_) (fun h75 => ?_)
          · rw [lg_cmp_eq] at h75
            refine Rn.lload_n dX5_join_84 rfl ?_
            refine Rn.lload_n dX5_join_85 rfl ?_
            refine Rn.ldiv dX5_join_86 h75 ?_
            have hv : jnL 34 x y = x / y := by simp only [jnL, (by decide : ((34 : Int32) = 31) = False), (by decide : ((34 : Int32) = 32) = False), (by decide : ((34 : Int32) = 33) = False), h75, ↓reduceIte]
            rw [hv] at hQ
            exact Rn.lret dX5_join_87 rfl hQ
          · rw [lg_cmp_eq] at h75
            refine Rn.ldc2 dX5_join_78 kX5_31 ?_
            refine Rn.goto dX5_join_81 ?_
            have hv : jnL 34 x y = (-9223372036854775808) := by simp only [jnL, (by decide : ((34 : Int32) = 31) = False), (by decide : ((34 : Int32) = 32) = False), (by decide : ((34 : Int32) = 33) = False), h75, ↓reduceIte]; rfl
            rw [hv] at hQ
            exact Rn.lret dX5_join_87 rfl hQ
        · skip
          have n31 : Int32.toInt k ≠ 31 := fun h => c31 (Int32.toInt_inj.mp (h.trans (by decide)))
          have n32 : Int32.toInt k ≠ 32 := fun h => c32 (Int32.toInt_inj.mp (h.trans (by decide)))
          have n33 : Int32.toInt k ≠ 33 := fun h => c33 (Int32.toInt_inj.mp (h.trans (by decide)))
          have n34 : Int32.toInt k ≠ 34 := fun h => c34 (Int32.toInt_inj.mp (h.trans (by decide)))
          refine Rn.tableOut (tgt := 88) dX5_join_1 (by omega) (by decide) ?_
          refine Rn.iload_n dX5_join_88 rfl ?_
          refine Rn.lload_n dX5_join_89 rfl ?_
          refine Rn.lload_n dX5_join_90 rfl ?_
          refine Rn.callS3 dX5_join_91 vX5_39 (tX5_holds) (by decide) ⟨(Nat.le_of_ble_eq_true rfl), (Nat.le_of_ble_eq_true rfl), (Nat.le_of_ble_eq_true rfl)⟩ (fun h => by cases h) (fun v1 ly1 M1 ⟨q1, q2, q3⟩ => ?_)
          subst q1; subst q2; subst q3
          refine Rn.if_eq dX5_join_94 (fun h94 => ?_) (fun h94 => ?_)
          · skip
            refine Rn.lconstv (v := 0) dX5_join_101 rfl ?_
            have hv : jnL k x y = 0 := by simp only [jnL, c31, c32, c33, c34, h94, ↓reduceIte]
            rw [hv] at hQ
            exact Rn.lret dX5_join_102 rfl hQ
          · skip
            refine Rn.lconstv (v := 1) dX5_join_97 rfl ?_
            refine Rn.goto dX5_join_98 ?_
            have hv : jnL k x y = 1 := by simp only [jnL, c31, c32, c33, c34, h94, ↓reduceIte]
            rw [hv] at hQ
            exact Rn.lret dX5_join_102 rfl hQ
