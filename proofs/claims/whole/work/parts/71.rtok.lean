/-- where it is not so any more -/
def scN (P : Int32 → Bool) (f : Nat → Int32) : Nat → Nat → Nat
  | 0, i => i
  | k + 1, i => if P (f i) = true then scN P f k (i + 1) else i
theorem scN_le {P : Int32 → Bool} {f : Nat → Int32} : ∀ k i, i ≤ scN P f k i ∧ scN P f k i ≤ i + k
  | 0, i => ⟨Nat.le_refl i, Nat.le_refl i⟩
  | k + 1, i => by
    have h := scN_le (P := P) (f := f) k (i + 1)
    unfold scN
    split <;> omega
theorem scN_in {P : Int32 → Bool} {f : Nat → Int32} : ∀ k i j, i ≤ j → j < scN P f k i → P (f j) = true
  | 0, i, j, h1, h2 => absurd h2 (by unfold scN; omega)
  | k + 1, i, j, h1, h2 => by
    unfold scN at h2
    by_cases h : P (f i) = true
    · rw [if_pos h] at h2
      by_cases e : j = i
      · rw [e]; exact h
      · exact scN_in k (i + 1) j (by omega) h2
    · rw [if_neg h] at h2; omega
def isS (c : Int32) : Bool := decide (97 ≤ c ∧ c ≤ 122)
def isD (c : Int32) : Bool := decide (48 ≤ c ∧ c ≤ 57)
def isB (c : Int32) : Bool := decide (c = 10 ∨ c = 32)
/-- what stands there -/
def hrF (f : Nat → Int32) (n i : Nat) : Int32 := if i < n then f i else -1
/-- reading alone has changed it -/
def tkF (M K : Mm) : Prop := K.2.2 = M.2.2 ∧ (∀ a, a ≠ 149 → K.1 a = M.1 a) ∧ (∀ j, (j < 25 ∨ 28 < j) → K.1 149 j = M.1 149 j)
theorem tkF.rf {M : Mm} : tkF M M := ⟨rfl, fun _ _ => rfl, fun _ _ => rfl⟩
theorem tkF.tr {M N K : Mm} (h : tkF M N) (g : tkF N K) : tkF M K := ⟨g.1.trans h.1, fun a a1 => (g.2.1 a a1).trans (h.2.1 a a1), fun j a1 => (g.2.2 j a1).trans (h.2.2 j a1)⟩
theorem tkF.p {M N : Mm} {k : Nat} {x : Int32} (h : tkF M N) (hk : 25 ≤ k ∧ k ≤ 28) : tkF M (sI N 149 (upd (N.1 149) k x)) := h.tr ⟨rfl, fun a a1 => sI_ne a1, fun j a1 => pk_un (by omega)⟩
def sgO (c : Int32) : Int32 := if c = 59 ∨ c = 40 ∨ c = 41 ∨ c = 43 ∨ c = 45 ∨ c = 42 ∨ c = 47 ∨ c = 60 ∨ c = 61 ∨ c = 62 then 3 else 5
def sgV (c h : Int32) : Int32 := if c = 60 ∧ h = 61 then 256 else if c = 60 ∧ h = 62 then 257 else if c = 62 ∧ h = 61 then 258 else c
theorem tX12_here {G : Gx} {l : Launch} {ly : Ly} {M : Mm} {n i : Nat} (hsz : M.1 149 24 = nI n ∧ n ≤ 700) (hat : M.1 149 25 = nI i ∧ i ≤ n) (hR : RW ly M.2.2) : Mt G l mX12_here (0, 0, 0, false) [.ref 149] ly M (Is (some (.int (hrF (M.1 150) n i))) ly M) := by
  refine Mt.is (fun Q hQ => ?_)
  refine Mt.of (lv := [some (.ref 149)]) rfl ?_
  refine Rn.aload_n dX12_here_0 rfl ?_
  refine Rn.getI dX12_here_1 fX12_175 rfl (rc149 hR) ?_
  refine Rn.topI (y := nI i) (hat.1) ?_
  refine Rn.aload_n dX12_here_4 rfl ?_
  refine Rn.getI dX12_here_5 fX12_178 rfl (rc149 hR) ?_
  refine Rn.topI (y := nI n) (hsz.1) ?_
  refine Rn.icmp_ge dX12_here_8 (fun h1 => ?_) (fun h1 => ?_)
  · skip
    have e : hrF (M.1 150) n i = -1 := if_neg (fun h => absurd h1 (nI_ge (a := i) (b := n) h (by omega)))
    refine Rn.iconstv (v := -1) dX12_here_23 ic_m1 ?_
    rw [e] at hQ
    exact Rn.iret (ty := .int) dX12_here_24 rfl rfl hQ
  · skip
    have hi : i < n := Nat.lt_of_not_le (fun h => h1 (nI_le (a := n) (b := i) h (by omega)))
    have e : hrF (M.1 150) n i = M.1 150 i := if_pos hi
    refine Rn.aload_n dX12_here_11 rfl ?_
    refine Rn.getR dX12_here_12 fX12_9 rfl (rc149 hR) (show M.2.2 149 1 = some 150 from (rpt1 hR)) ?_
    refine Rn.aload_n dX12_here_15 rfl ?_
    refine Rn.getI dX12_here_16 fX12_175 rfl (rc149 hR) ?_
    refine Rn.topI (y := nI i) (hat.1) ?_
    refine Rn.ialdN (k0 := i) dX12_here_19 (rc150 hR) (by omega) (by decide) ?_
    refine Rn.goto dX12_here_20 ?_
    rw [e] at hQ
    exact Rn.iret (ty := .int) dX12_here_24 rfl rfl hQ
theorem tX12_isSmall {G : Gx} {l : Launch} {ly : Ly} {M : Mm} {x : Int32} : Mt G l mX12_isSmall (0, 0, 0, false) [.int x] ly M (Is (some (.int (inR x 97 122))) ly M) := by
  refine Mt.is (fun Q hQ => ?_)
  refine Mt.of (lv := [some (.int x)]) rfl ?_
  refine Rn.iload_n dX12_isSmall_0 rfl ?_
  refine Rn.bipushv (v := 97) dX12_isSmall_1 bp_97 ?_
  refine Rn.icmp_lt dX12_isSmall_3 (fun h1 => ?_) (fun h1 => ?_)
  · skip
    rw [show inR x 97 122 = 0 from inR_1.elim (fun k => k.1) (fun k => absurd h1 (Int32.not_lt.mpr k.2.1))] at hQ
    refine Rn.iconstv (v := 0) dX12_isSmall_16 ic_0 ?_
    exact Rn.iret (ty := .boolean) dX12_isSmall_17 rfl rfl hQ
  · skip
    refine Rn.iload_n dX12_isSmall_6 rfl ?_
    refine Rn.bipushv (v := 122) dX12_isSmall_7 bp_122 ?_
    refine Rn.icmp_gt dX12_isSmall_9 (fun h2 => ?_) (fun h2 => ?_)
    · skip
      rw [show inR x 97 122 = 0 from inR_1.elim (fun k => k.1) (fun k => absurd h2 (Int32.not_lt.mpr k.2.2))] at hQ
      refine Rn.iconstv (v := 0) dX12_isSmall_16 ic_0 ?_
      exact Rn.iret (ty := .boolean) dX12_isSmall_17 rfl rfl hQ
    · skip
      rw [show inR x 97 122 = 1 from inR_1.elim (fun k => absurd ⟨Int32.not_lt.mp h1, Int32.not_lt.mp h2⟩ k.2) (fun k => k.1)] at hQ
      refine Rn.iconstv (v := 1) dX12_isSmall_12 ic_1 ?_
      refine Rn.goto dX12_isSmall_13 ?_
      exact Rn.iret (ty := .boolean) dX12_isSmall_17 rfl rfl hQ
theorem tX12_isDigit {G : Gx} {l : Launch} {ly : Ly} {M : Mm} {x : Int32} : Mt G l mX12_isDigit (0, 0, 0, false) [.int x] ly M (Is (some (.int (inR x 48 57))) ly M) := by
  refine Mt.is (fun Q hQ => ?_)
  refine Mt.of (lv := [some (.int x)]) rfl ?_
  refine Rn.iload_n dX12_isDigit_0 rfl ?_
  refine Rn.bipushv (v := 48) dX12_isDigit_1 bp_48 ?_
  refine Rn.icmp_lt dX12_isDigit_3 (fun h1 => ?_) (fun h1 => ?_)
  · skip
    rw [show inR x 48 57 = 0 from inR_1.elim (fun k => k.1) (fun k => absurd h1 (Int32.not_lt.mpr k.2.1))] at hQ
    refine Rn.iconstv (v := 0) dX12_isDigit_16 ic_0 ?_
    exact Rn.iret (ty := .boolean) dX12_isDigit_17 rfl rfl hQ
  · skip
    refine Rn.iload_n dX12_isDigit_6 rfl ?_
    refine Rn.bipushv (v := 57) dX12_isDigit_7 bp_57 ?_
    refine Rn.icmp_gt dX12_isDigit_9 (fun h2 => ?_) (fun h2 => ?_)
    · skip
      rw [show inR x 48 57 = 0 from inR_1.elim (fun k => k.1) (fun k => absurd h2 (Int32.not_lt.mpr k.2.2))] at hQ
      refine Rn.iconstv (v := 0) dX12_isDigit_16 ic_0 ?_
      exact Rn.iret (ty := .boolean) dX12_isDigit_17 rfl rfl hQ
    · skip
      rw [show inR x 48 57 = 1 from inR_1.elim (fun k => absurd ⟨Int32.not_lt.mp h1, Int32.not_lt.mp h2⟩ k.2) (fun k => k.1)] at hQ
      refine Rn.iconstv (v := 1) dX12_isDigit_12 ic_1 ?_
      refine Rn.goto dX12_isDigit_13 ?_
      exact Rn.iret (ty := .boolean) dX12_isDigit_17 rfl rfl hQ
theorem tX12_sign {G : Gx} {l : Launch} {ly : Ly} {M : Mm} {n i : Nat} {c : Int32} (hsz : M.1 149 24 = nI n ∧ n ≤ 700) (hat : M.1 149 25 = nI i ∧ i < n) (hc : c < 256) (hR : RW ly M.2.2) {Q : Qt} (hQ : ∀ K, tkF M K → K.1 149 26 = M.1 149 26 → K.1 149 27 = sgO c → K.1 149 28 = sgV c (hrF (M.1 150) n (i + 1)) → K.1 149 25 = nI (if 256 ≤ sgV c (hrF (M.1 150) n (i + 1)) then i + 2 else i + 1) → Q none ly K) : Mt G l mX12_sign (1, 0, 0, false) [.ref 149, .int c] ly M Q := by
  refine Mt.of (lv := [some (.ref 149), some (.int c)]) rfl ?_
  obtain ⟨h, hh⟩ : ∃ h, h = hrF (M.1 150) n (i + 1) := ⟨_, rfl⟩
  rw [← hh] at hQ
  refine Rn.aload_n dX12_sign_0 rfl ?_
  refine Rn.dup dX12_sign_1 rfl ?_
  refine Rn.getI dX12_sign_2 fX12_175 rfl (rc149 hR) ?_
  refine Rn.topI (y := nI i) (hat.1) ?_
  refine Rn.iconstv (v := 1) dX12_sign_5 ic_1 ?_
  refine Rn.iadd dX12_sign_6 ?_
  refine Rn.topI (y := nI (i + 1)) (nI_add i 1) ?_
  refine Rn.putI dX12_sign_7 fX12_175 rfl rfl rfl (rc149 hR) ?_
  refine Rn.aload_n dX12_sign_10 rfl ?_
  have join : Rn G l mX12_sign (1, 0, 0, false) 76 [some (.ref 149), some (.int c)] [.int (sgO c), .ref 149] ly (sI M 149 (upd (M.1 149) 25 (nI (i + 1)))) Q := by
    refine Rn.putI dX12_sign_76 fX12_188 rfl rfl rfl (rc149 hR) ?_
    refine Rn.meq (M2 := sI M 149 (upd (upd (M.1 149) 25 (nI (i + 1))) 27 (sgO c))) (sI_sI _ _ _ _) ?_
    refine Rn.aload_n dX12_sign_79 rfl ?_
    refine Rn.iload_n dX12_sign_80 rfl ?_
    refine Rn.putI dX12_sign_81 fX12_198 rfl rfl rfl (rc149 hR) ?_
    refine Rn.meq (M2 := sI M 149 (upd (upd (upd (M.1 149) 25 (nI (i + 1))) 27 (sgO c)) 28 c)) (sI_sI _ _ _ _) ?_
    by_cases c60 : c = 60
    · skip
      have c62 : ¬ c = 62 := fun e => absurd (c60.symm.trans e) (by decide)
      by_cases h61 : h = 61
      · skip
        have h62 : ¬ h = 62 := fun e => absurd (h61.symm.trans e) (by decide)
        skip
        refine Rn.iload_n dX12_sign_84 rfl ?_
        refine Rn.bipushv (v := 60) dX12_sign_85 bp_60 ?_
        refine Rn.icmp_ne dX12_sign_87 (fun b1 => ?_) (fun b1 => ?_)
        · skip
          first | exact absurd c60 b1 | exact absurd b1 c60
        · skip
          refine Rn.aload_n dX12_sign_90 rfl ?_
          refine Rn.callV0 dX12_sign_91 vX12_181 (rc149 hR) (by decide) rfl (tX12_here (M := sI M 149 (upd (upd (upd (M.1 149) 25 (nI (i + 1))) 27 (sgO c)) 28 c)) (n := n) (i := i + 1) hsz ⟨rfl, by omega⟩ hR) (by decide) ⟨(Nat.le_of_ble_eq_true rfl), (Nat.le_of_ble_eq_true rfl), (Nat.le_of_ble_eq_true rfl)⟩ (fun h => by cases h) (fun v1 ly1 M1 ⟨q1, q2, q3⟩ => ?_)
          rw [q1, q2, q3]
          refine Rn.topI (y := h) (hh.symm) ?_
          refine Rn.bipushv (v := 61) dX12_sign_94 bp_61 ?_
          refine Rn.icmp_ne dX12_sign_96 (fun b2 => ?_) (fun b2 => ?_)
          · skip
            first | exact absurd h61 b2 | exact absurd b2 h61
          · skip
            refine Rn.aload_n dX12_sign_99 rfl ?_
            refine Rn.sipushv (v := 256) dX12_sign_100 sp_256 ?_
            refine Rn.putI dX12_sign_103 fX12_198 rfl rfl rfl (rc149 hR) ?_
            refine Rn.meq (M2 := sI M 149 (upd (upd (upd (upd (M.1 149) 25 (nI (i + 1))) 27 (sgO c)) 28 c) 28 256)) (sI_sI _ _ _ _) ?_
            refine Rn.iload_n dX12_sign_106 rfl ?_
            refine Rn.bipushv (v := 60) dX12_sign_107 bp_60 ?_
            refine Rn.icmp_ne dX12_sign_109 (fun b3 => ?_) (fun b3 => ?_)
            · skip
              first | exact absurd c60 b3 | exact absurd b3 c60
            · skip
              refine Rn.aload_n dX12_sign_112 rfl ?_
              refine Rn.callV0 dX12_sign_113 vX12_181 (rc149 hR) (by decide) rfl (tX12_here (M := sI M 149 (upd (upd (upd (upd (M.1 149) 25 (nI (i + 1))) 27 (sgO c)) 28 c) 28 256)) (n := n) (i := i + 1) hsz ⟨rfl, by omega⟩ hR) (by decide) ⟨(Nat.le_of_ble_eq_true rfl), (Nat.le_of_ble_eq_true rfl), (Nat.le_of_ble_eq_true rfl)⟩ (fun h => by cases h) (fun v1 ly1 M1 ⟨q1, q2, q3⟩ => ?_)
              rw [q1, q2, q3]
              refine Rn.topI (y := h) (hh.symm) ?_
              refine Rn.bipushv (v := 62) dX12_sign_116 bp_62 ?_
              refine Rn.icmp_ne dX12_sign_118 (fun b4 => ?_) (fun b4 => ?_)
              · skip
                refine Rn.iload_n dX12_sign_128 rfl ?_
                refine Rn.bipushv (v := 62) dX12_sign_129 bp_62 ?_
                refine Rn.icmp_ne dX12_sign_131 (fun b5 => ?_) (fun b5 => ?_)
                · skip
                  refine Rn.aload_n dX12_sign_150 rfl ?_
                  refine Rn.getI dX12_sign_151 fX12_198 rfl (rc149 hR) ?_
                  refine Rn.sipushv (v := 256) dX12_sign_154 sp_256 ?_
                  refine Rn.icmp_lt dX12_sign_157 (fun b6 => ?_) (fun b6 => ?_)
                  · skip
                    exact absurd (show (256 : Int32) < 256 from b6) (by decide)
                  · skip
                    refine Rn.aload_n dX12_sign_160 rfl ?_
                    refine Rn.dup dX12_sign_161 rfl ?_
                    refine Rn.getI dX12_sign_162 fX12_175 rfl (rc149 hR) ?_
                    refine Rn.iconstv (v := 1) dX12_sign_165 ic_1 ?_
                    refine Rn.iadd dX12_sign_166 ?_
                    refine Rn.topI (y := nI (i + 1 + 1)) (nI_add (i + 1) 1) ?_
                    refine Rn.putI dX12_sign_167 fX12_175 rfl rfl rfl (rc149 hR) ?_
                    refine Rn.meq (M2 := sI M 149 (upd (upd (upd (upd (upd (M.1 149) 25 (nI (i + 1))) 27 (sgO c)) 28 c) 28 256) 25 (nI (i + 1 + 1)))) (sI_sI _ _ _ _) ?_
                    have ev : sgV c h = 256 := by unfold sgV; rw [if_pos ⟨c60, h61⟩]
                    refine Rn.vret dX12_sign_170 rfl (hQ _ ⟨rfl, fun a a1 => sI_ne a1, fun j a1 => ?_⟩ rfl rfl ?_ ?_)
                    · show upd _ _ _ j = _
                      repeat rw [pk_un (by omega)]
                    · rw [ev]; rfl
                    · rw [ev]
                      first | rw [if_pos (by decide)]; rfl | rw [if_neg (Int32.not_le.mpr hc)]; rfl
                · skip
                  first | exact absurd c62 b5 | exact absurd b5 c62
              · skip
                first | exact absurd h62 b4 | exact absurd b4 h62
      · skip
        by_cases h62 : h = 62
        · skip
          refine Rn.iload_n dX12_sign_84 rfl ?_
          refine Rn.bipushv (v := 60) dX12_sign_85 bp_60 ?_
          refine Rn.icmp_ne dX12_sign_87 (fun b7 => ?_) (fun b7 => ?_)
          · skip
            first | exact absurd c60 b7 | exact absurd b7 c60
          · skip
            refine Rn.aload_n dX12_sign_90 rfl ?_
            refine Rn.callV0 dX12_sign_91 vX12_181 (rc149 hR) (by decide) rfl (tX12_here (M := sI M 149 (upd (upd (upd (M.1 149) 25 (nI (i + 1))) 27 (sgO c)) 28 c)) (n := n) (i := i + 1) hsz ⟨rfl, by omega⟩ hR) (by decide) ⟨(Nat.le_of_ble_eq_true rfl), (Nat.le_of_ble_eq_true rfl), (Nat.le_of_ble_eq_true rfl)⟩ (fun h => by cases h) (fun v1 ly1 M1 ⟨q1, q2, q3⟩ => ?_)
            rw [q1, q2, q3]
            refine Rn.topI (y := h) (hh.symm) ?_
            refine Rn.bipushv (v := 61) dX12_sign_94 bp_61 ?_
            refine Rn.icmp_ne dX12_sign_96 (fun b8 => ?_) (fun b8 => ?_)
            · skip
              refine Rn.iload_n dX12_sign_106 rfl ?_
              refine Rn.bipushv (v := 60) dX12_sign_107 bp_60 ?_
              refine Rn.icmp_ne dX12_sign_109 (fun b9 => ?_) (fun b9 => ?_)
              · skip
                first | exact absurd c60 b9 | exact absurd b9 c60
              · skip
                refine Rn.aload_n dX12_sign_112 rfl ?_
                refine Rn.callV0 dX12_sign_113 vX12_181 (rc149 hR) (by decide) rfl (tX12_here (M := sI M 149 (upd (upd (upd (M.1 149) 25 (nI (i + 1))) 27 (sgO c)) 28 c)) (n := n) (i := i + 1) hsz ⟨rfl, by omega⟩ hR) (by decide) ⟨(Nat.le_of_ble_eq_true rfl), (Nat.le_of_ble_eq_true rfl), (Nat.le_of_ble_eq_true rfl)⟩ (fun h => by cases h) (fun v1 ly1 M1 ⟨q1, q2, q3⟩ => ?_)
                rw [q1, q2, q3]
                refine Rn.topI (y := h) (hh.symm) ?_
                refine Rn.bipushv (v := 62) dX12_sign_116 bp_62 ?_
                refine Rn.icmp_ne dX12_sign_118 (fun b10 => ?_) (fun b10 => ?_)
                · skip
                  first | exact absurd h62 b10 | exact absurd b10 h62
                · skip
                  refine Rn.aload_n dX12_sign_121 rfl ?_
                  refine Rn.sipushv (v := 257) dX12_sign_122 sp_257 ?_
                  refine Rn.putI dX12_sign_125 fX12_198 rfl rfl rfl (rc149 hR) ?_
                  refine Rn.meq (M2 := sI M 149 (upd (upd (upd (upd (M.1 149) 25 (nI (i + 1))) 27 (sgO c)) 28 c) 28 257)) (sI_sI _ _ _ _) ?_
                  refine Rn.iload_n dX12_sign_128 rfl ?_
                  refine Rn.bipushv (v := 62) dX12_sign_129 bp_62 ?_
                  refine Rn.icmp_ne dX12_sign_131 (fun b11 => ?_) (fun b11 => ?_)
                  · skip
                    refine Rn.aload_n dX12_sign_150 rfl ?_
                    refine Rn.getI dX12_sign_151 fX12_198 rfl (rc149 hR) ?_
                    refine Rn.sipushv (v := 256) dX12_sign_154 sp_256 ?_
                    refine Rn.icmp_lt dX12_sign_157 (fun b12 => ?_) (fun b12 => ?_)
                    · skip
                      exact absurd (show (257 : Int32) < 256 from b12) (by decide)
                    · skip
                      refine Rn.aload_n dX12_sign_160 rfl ?_
                      refine Rn.dup dX12_sign_161 rfl ?_
                      refine Rn.getI dX12_sign_162 fX12_175 rfl (rc149 hR) ?_
                      refine Rn.iconstv (v := 1) dX12_sign_165 ic_1 ?_
                      refine Rn.iadd dX12_sign_166 ?_
                      refine Rn.topI (y := nI (i + 1 + 1)) (nI_add (i + 1) 1) ?_
                      refine Rn.putI dX12_sign_167 fX12_175 rfl rfl rfl (rc149 hR) ?_
                      refine Rn.meq (M2 := sI M 149 (upd (upd (upd (upd (upd (M.1 149) 25 (nI (i + 1))) 27 (sgO c)) 28 c) 28 257) 25 (nI (i + 1 + 1)))) (sI_sI _ _ _ _) ?_
                      have ev : sgV c h = 257 := by unfold sgV; rw [if_neg (fun e => h61 e.2), if_pos ⟨c60, h62⟩]
                      refine Rn.vret dX12_sign_170 rfl (hQ _ ⟨rfl, fun a a1 => sI_ne a1, fun j a1 => ?_⟩ rfl rfl ?_ ?_)
                      · show upd _ _ _ j = _
                        repeat rw [pk_un (by omega)]
                      · rw [ev]; rfl
                      · rw [ev]
                        first | rw [if_pos (by decide)]; rfl | rw [if_neg (Int32.not_le.mpr hc)]; rfl
                  · skip
                    first | exact absurd c62 b11 | exact absurd b11 c62
            · skip
              first | exact absurd h61 b8 | exact absurd b8 h61
        · skip
          refine Rn.iload_n dX12_sign_84 rfl ?_
          refine Rn.bipushv (v := 60) dX12_sign_85 bp_60 ?_
          refine Rn.icmp_ne dX12_sign_87 (fun b13 => ?_) (fun b13 => ?_)
          · skip
            first | exact absurd c60 b13 | exact absurd b13 c60
          · skip
            refine Rn.aload_n dX12_sign_90 rfl ?_
            refine Rn.callV0 dX12_sign_91 vX12_181 (rc149 hR) (by decide) rfl (tX12_here (M := sI M 149 (upd (upd (upd (M.1 149) 25 (nI (i + 1))) 27 (sgO c)) 28 c)) (n := n) (i := i + 1) hsz ⟨rfl, by omega⟩ hR) (by decide) ⟨(Nat.le_of_ble_eq_true rfl), (Nat.le_of_ble_eq_true rfl), (Nat.le_of_ble_eq_true rfl)⟩ (fun h => by cases h) (fun v1 ly1 M1 ⟨q1, q2, q3⟩ => ?_)
            rw [q1, q2, q3]
            refine Rn.topI (y := h) (hh.symm) ?_
            refine Rn.bipushv (v := 61) dX12_sign_94 bp_61 ?_
            refine Rn.icmp_ne dX12_sign_96 (fun b14 => ?_) (fun b14 => ?_)
            · skip
              refine Rn.iload_n dX12_sign_106 rfl ?_
              refine Rn.bipushv (v := 60) dX12_sign_107 bp_60 ?_
              refine Rn.icmp_ne dX12_sign_109 (fun b15 => ?_) (fun b15 => ?_)
              · skip
                first | exact absurd c60 b15 | exact absurd b15 c60
              · skip
                refine Rn.aload_n dX12_sign_112 rfl ?_
                refine Rn.callV0 dX12_sign_113 vX12_181 (rc149 hR) (by decide) rfl (tX12_here (M := sI M 149 (upd (upd (upd (M.1 149) 25 (nI (i + 1))) 27 (sgO c)) 28 c)) (n := n) (i := i + 1) hsz ⟨rfl, by omega⟩ hR) (by decide) ⟨(Nat.le_of_ble_eq_true rfl), (Nat.le_of_ble_eq_true rfl), (Nat.le_of_ble_eq_true rfl)⟩ (fun h => by cases h) (fun v1 ly1 M1 ⟨q1, q2, q3⟩ => ?_)
                rw [q1, q2, q3]
                refine Rn.topI (y := h) (hh.symm) ?_
                refine Rn.bipushv (v := 62) dX12_sign_116 bp_62 ?_
                refine Rn.icmp_ne dX12_sign_118 (fun b16 => ?_) (fun b16 => ?_)
                · skip
                  refine Rn.iload_n dX12_sign_128 rfl ?_
                  refine Rn.bipushv (v := 62) dX12_sign_129 bp_62 ?_
                  refine Rn.icmp_ne dX12_sign_131 (fun b17 => ?_) (fun b17 => ?_)
                  · skip
                    refine Rn.aload_n dX12_sign_150 rfl ?_
                    refine Rn.getI dX12_sign_151 fX12_198 rfl (rc149 hR) ?_
                    refine Rn.sipushv (v := 256) dX12_sign_154 sp_256 ?_
                    refine Rn.icmp_lt dX12_sign_157 (fun b18 => ?_) (fun b18 => ?_)
                    · skip
                      have ev : sgV c h = c := by unfold sgV; rw [if_neg (fun e => h61 e.2), if_neg (fun e => h62 e.2), if_neg (fun e => h61 e.2)]
                      refine Rn.vret dX12_sign_170 rfl (hQ _ ⟨rfl, fun a a1 => sI_ne a1, fun j a1 => ?_⟩ rfl rfl ?_ ?_)
                      · show upd _ _ _ j = _
                        repeat rw [pk_un (by omega)]
                      · rw [ev]; rfl
                      · rw [ev]
                        first | rw [if_pos (by decide)]; rfl | rw [if_neg (Int32.not_le.mpr hc)]; rfl
                    · skip
                      exact absurd hc b18
                  · skip
                    first | exact absurd c62 b17 | exact absurd b17 c62
                · skip
                  first | exact absurd h62 b16 | exact absurd b16 h62
            · skip
              first | exact absurd h61 b14 | exact absurd b14 h61
    · skip
      by_cases c62 : c = 62
      · skip
        by_cases h61 : h = 61
        · skip
          refine Rn.iload_n dX12_sign_84 rfl ?_
          refine Rn.bipushv (v := 60) dX12_sign_85 bp_60 ?_
          refine Rn.icmp_ne dX12_sign_87 (fun b19 => ?_) (fun b19 => ?_)
          · skip
            refine Rn.iload_n dX12_sign_106 rfl ?_
            refine Rn.bipushv (v := 60) dX12_sign_107 bp_60 ?_
            refine Rn.icmp_ne dX12_sign_109 (fun b20 => ?_) (fun b20 => ?_)
            · skip
              refine Rn.iload_n dX12_sign_128 rfl ?_
              refine Rn.bipushv (v := 62) dX12_sign_129 bp_62 ?_
              refine Rn.icmp_ne dX12_sign_131 (fun b21 => ?_) (fun b21 => ?_)
              · skip
                first | exact absurd c62 b21 | exact absurd b21 c62
              · skip
                refine Rn.aload_n dX12_sign_134 rfl ?_
                refine Rn.callV0 dX12_sign_135 vX12_181 (rc149 hR) (by decide) rfl (tX12_here (M := sI M 149 (upd (upd (upd (M.1 149) 25 (nI (i + 1))) 27 (sgO c)) 28 c)) (n := n) (i := i + 1) hsz ⟨rfl, by omega⟩ hR) (by decide) ⟨(Nat.le_of_ble_eq_true rfl), (Nat.le_of_ble_eq_true rfl), (Nat.le_of_ble_eq_true rfl)⟩ (fun h => by cases h) (fun v1 ly1 M1 ⟨q1, q2, q3⟩ => ?_)
                rw [q1, q2, q3]
                refine Rn.topI (y := h) (hh.symm) ?_
                refine Rn.bipushv (v := 61) dX12_sign_138 bp_61 ?_
                refine Rn.icmp_ne dX12_sign_140 (fun b22 => ?_) (fun b22 => ?_)
                · skip
                  first | exact absurd h61 b22 | exact absurd b22 h61
                · skip
                  refine Rn.aload_n dX12_sign_143 rfl ?_
                  refine Rn.sipushv (v := 258) dX12_sign_144 sp_258 ?_
                  refine Rn.putI dX12_sign_147 fX12_198 rfl rfl rfl (rc149 hR) ?_
                  refine Rn.meq (M2 := sI M 149 (upd (upd (upd (upd (M.1 149) 25 (nI (i + 1))) 27 (sgO c)) 28 c) 28 258)) (sI_sI _ _ _ _) ?_
                  refine Rn.aload_n dX12_sign_150 rfl ?_
                  refine Rn.getI dX12_sign_151 fX12_198 rfl (rc149 hR) ?_
                  refine Rn.sipushv (v := 256) dX12_sign_154 sp_256 ?_
                  refine Rn.icmp_lt dX12_sign_157 (fun b23 => ?_) (fun b23 => ?_)
                  · skip
                    exact absurd (show (258 : Int32) < 256 from b23) (by decide)
                  · skip
                    refine Rn.aload_n dX12_sign_160 rfl ?_
                    refine Rn.dup dX12_sign_161 rfl ?_
                    refine Rn.getI dX12_sign_162 fX12_175 rfl (rc149 hR) ?_
                    refine Rn.iconstv (v := 1) dX12_sign_165 ic_1 ?_
                    refine Rn.iadd dX12_sign_166 ?_
                    refine Rn.topI (y := nI (i + 1 + 1)) (nI_add (i + 1) 1) ?_
                    refine Rn.putI dX12_sign_167 fX12_175 rfl rfl rfl (rc149 hR) ?_
                    refine Rn.meq (M2 := sI M 149 (upd (upd (upd (upd (upd (M.1 149) 25 (nI (i + 1))) 27 (sgO c)) 28 c) 28 258) 25 (nI (i + 1 + 1)))) (sI_sI _ _ _ _) ?_
                    have ev : sgV c h = 258 := by unfold sgV; rw [if_neg (fun e => c60 e.1), if_neg (fun e => c60 e.1), if_pos ⟨c62, h61⟩]
                    refine Rn.vret dX12_sign_170 rfl (hQ _ ⟨rfl, fun a a1 => sI_ne a1, fun j a1 => ?_⟩ rfl rfl ?_ ?_)
                    · show upd _ _ _ j = _
                      repeat rw [pk_un (by omega)]
                    · rw [ev]; rfl
                    · rw [ev]
                      first | rw [if_pos (by decide)]; rfl | rw [if_neg (Int32.not_le.mpr hc)]; rfl
            · skip
              first | exact absurd c60 b20 | exact absurd b20 c60
          · skip
            first | exact absurd c60 b19 | exact absurd b19 c60
        · skip
          refine Rn.iload_n dX12_sign_84 rfl ?_
          refine Rn.bipushv (v := 60) dX12_sign_85 bp_60 ?_
          refine Rn.icmp_ne dX12_sign_87 (fun b24 => ?_) (fun b24 => ?_)
          · skip
            refine Rn.iload_n dX12_sign_106 rfl ?_
            refine Rn.bipushv (v := 60) dX12_sign_107 bp_60 ?_
            refine Rn.icmp_ne dX12_sign_109 (fun b25 => ?_) (fun b25 => ?_)
            · skip
              refine Rn.iload_n dX12_sign_128 rfl ?_
              refine Rn.bipushv (v := 62) dX12_sign_129 bp_62 ?_
              refine Rn.icmp_ne dX12_sign_131 (fun b26 => ?_) (fun b26 => ?_)
              · skip
                first | exact absurd c62 b26 | exact absurd b26 c62
              · skip
                refine Rn.aload_n dX12_sign_134 rfl ?_
                refine Rn.callV0 dX12_sign_135 vX12_181 (rc149 hR) (by decide) rfl (tX12_here (M := sI M 149 (upd (upd (upd (M.1 149) 25 (nI (i + 1))) 27 (sgO c)) 28 c)) (n := n) (i := i + 1) hsz ⟨rfl, by omega⟩ hR) (by decide) ⟨(Nat.le_of_ble_eq_true rfl), (Nat.le_of_ble_eq_true rfl), (Nat.le_of_ble_eq_true rfl)⟩ (fun h => by cases h) (fun v1 ly1 M1 ⟨q1, q2, q3⟩ => ?_)
                rw [q1, q2, q3]
                refine Rn.topI (y := h) (hh.symm) ?_
                refine Rn.bipushv (v := 61) dX12_sign_138 bp_61 ?_
                refine Rn.icmp_ne dX12_sign_140 (fun b27 => ?_) (fun b27 => ?_)
                · skip
                  refine Rn.aload_n dX12_sign_150 rfl ?_
                  refine Rn.getI dX12_sign_151 fX12_198 rfl (rc149 hR) ?_
                  refine Rn.sipushv (v := 256) dX12_sign_154 sp_256 ?_
                  refine Rn.icmp_lt dX12_sign_157 (fun b28 => ?_) (fun b28 => ?_)
                  · skip
                    have ev : sgV c h = c := by unfold sgV; rw [if_neg (fun e => c60 e.1), if_neg (fun e => c60 e.1), if_neg (fun e => h61 e.2)]
                    refine Rn.vret dX12_sign_170 rfl (hQ _ ⟨rfl, fun a a1 => sI_ne a1, fun j a1 => ?_⟩ rfl rfl ?_ ?_)
                    · show upd _ _ _ j = _
                      repeat rw [pk_un (by omega)]
                    · rw [ev]; rfl
                    · rw [ev]
                      first | rw [if_pos (by decide)]; rfl | rw [if_neg (Int32.not_le.mpr hc)]; rfl
                  · skip
                    exact absurd hc b28
                · skip
                  first | exact absurd h61 b27 | exact absurd b27 h61
            · skip
              first | exact absurd c60 b25 | exact absurd b25 c60
          · skip
            first | exact absurd c60 b24 | exact absurd b24 c60
      · skip
        refine Rn.iload_n dX12_sign_84 rfl ?_
        refine Rn.bipushv (v := 60) dX12_sign_85 bp_60 ?_
        refine Rn.icmp_ne dX12_sign_87 (fun b29 => ?_) (fun b29 => ?_)
        · skip
          refine Rn.iload_n dX12_sign_106 rfl ?_
          refine Rn.bipushv (v := 60) dX12_sign_107 bp_60 ?_
          refine Rn.icmp_ne dX12_sign_109 (fun b30 => ?_) (fun b30 => ?_)
          · skip
            refine Rn.iload_n dX12_sign_128 rfl ?_
            refine Rn.bipushv (v := 62) dX12_sign_129 bp_62 ?_
            refine Rn.icmp_ne dX12_sign_131 (fun b31 => ?_) (fun b31 => ?_)
            · skip
              refine Rn.aload_n dX12_sign_150 rfl ?_
              refine Rn.getI dX12_sign_151 fX12_198 rfl (rc149 hR) ?_
              refine Rn.sipushv (v := 256) dX12_sign_154 sp_256 ?_
              refine Rn.icmp_lt dX12_sign_157 (fun b32 => ?_) (fun b32 => ?_)
              · skip
                have ev : sgV c h = c := by unfold sgV; rw [if_neg (fun e => c60 e.1), if_neg (fun e => c60 e.1), if_neg (fun e => c62 e.1)]
                refine Rn.vret dX12_sign_170 rfl (hQ _ ⟨rfl, fun a a1 => sI_ne a1, fun j a1 => ?_⟩ rfl rfl ?_ ?_)
                · show upd _ _ _ j = _
                  repeat rw [pk_un (by omega)]
                · rw [ev]; rfl
                · rw [ev]
                  first | rw [if_pos (by decide)]; rfl | rw [if_neg (Int32.not_le.mpr hc)]; rfl
              · skip
                exact absurd hc b32
            · skip
              first | exact absurd c62 b31 | exact absurd b31 c62
          · skip
            first | exact absurd c60 b30 | exact absurd b30 c60
        · skip
          first | exact absurd c60 b29 | exact absurd b29 c60
  refine Rn.iload_n dX12_sign_11 rfl ?_
  refine Rn.bipushv (v := 59) dX12_sign_12 bp_59 ?_
  refine Rn.icmp_eq dX12_sign_14 (fun s0 => ?_) (fun s0 => ?_)
  · skip
    refine Rn.iconstv (v := 3) dX12_sign_71 ic_3 ?_
    refine Rn.goto dX12_sign_72 ?_
    refine Rn.topI (y := sgO c) ((if_pos (Or.inl s0)).symm) ?_
    exact join
  · skip
    refine Rn.iload_n dX12_sign_17 rfl ?_
    refine Rn.bipushv (v := 40) dX12_sign_18 bp_40 ?_
    refine Rn.icmp_eq dX12_sign_20 (fun s1 => ?_) (fun s1 => ?_)
    · skip
      refine Rn.iconstv (v := 3) dX12_sign_71 ic_3 ?_
      refine Rn.goto dX12_sign_72 ?_
      refine Rn.topI (y := sgO c) ((if_pos (Or.inr (Or.inl s1))).symm) ?_
      exact join
    · skip
      refine Rn.iload_n dX12_sign_23 rfl ?_
      refine Rn.bipushv (v := 41) dX12_sign_24 bp_41 ?_
      refine Rn.icmp_eq dX12_sign_26 (fun s2 => ?_) (fun s2 => ?_)
      · skip
        refine Rn.iconstv (v := 3) dX12_sign_71 ic_3 ?_
        refine Rn.goto dX12_sign_72 ?_
        refine Rn.topI (y := sgO c) ((if_pos (Or.inr (Or.inr (Or.inl s2)))).symm) ?_
        exact join
      · skip
        refine Rn.iload_n dX12_sign_29 rfl ?_
        refine Rn.bipushv (v := 43) dX12_sign_30 bp_43 ?_
        refine Rn.icmp_eq dX12_sign_32 (fun s3 => ?_) (fun s3 => ?_)
        · skip
          refine Rn.iconstv (v := 3) dX12_sign_71 ic_3 ?_
          refine Rn.goto dX12_sign_72 ?_
          refine Rn.topI (y := sgO c) ((if_pos (Or.inr (Or.inr (Or.inr (Or.inl s3))))).symm) ?_
          exact join
        · skip
          refine Rn.iload_n dX12_sign_35 rfl ?_
          refine Rn.bipushv (v := 45) dX12_sign_36 bp_45 ?_
          refine Rn.icmp_eq dX12_sign_38 (fun s4 => ?_) (fun s4 => ?_)
          · skip
            refine Rn.iconstv (v := 3) dX12_sign_71 ic_3 ?_
            refine Rn.goto dX12_sign_72 ?_
            refine Rn.topI (y := sgO c) ((if_pos (Or.inr (Or.inr (Or.inr (Or.inr (Or.inl s4)))))).symm) ?_
            exact join
          · skip
            refine Rn.iload_n dX12_sign_41 rfl ?_
            refine Rn.bipushv (v := 42) dX12_sign_42 bp_42 ?_
            refine Rn.icmp_eq dX12_sign_44 (fun s5 => ?_) (fun s5 => ?_)
            · skip
              refine Rn.iconstv (v := 3) dX12_sign_71 ic_3 ?_
              refine Rn.goto dX12_sign_72 ?_
              refine Rn.topI (y := sgO c) ((if_pos (Or.inr (Or.inr (Or.inr (Or.inr (Or.inr (Or.inl s5))))))).symm) ?_
              exact join
            · skip
              refine Rn.iload_n dX12_sign_47 rfl ?_
              refine Rn.bipushv (v := 47) dX12_sign_48 bp_47 ?_
              refine Rn.icmp_eq dX12_sign_50 (fun s6 => ?_) (fun s6 => ?_)
              · skip
                refine Rn.iconstv (v := 3) dX12_sign_71 ic_3 ?_
                refine Rn.goto dX12_sign_72 ?_
                refine Rn.topI (y := sgO c) ((if_pos (Or.inr (Or.inr (Or.inr (Or.inr (Or.inr (Or.inr (Or.inl s6)))))))).symm) ?_
                exact join
              · skip
                refine Rn.iload_n dX12_sign_53 rfl ?_
                refine Rn.bipushv (v := 60) dX12_sign_54 bp_60 ?_
                refine Rn.icmp_eq dX12_sign_56 (fun s7 => ?_) (fun s7 => ?_)
                · skip
                  refine Rn.iconstv (v := 3) dX12_sign_71 ic_3 ?_
                  refine Rn.goto dX12_sign_72 ?_
                  refine Rn.topI (y := sgO c) ((if_pos (Or.inr (Or.inr (Or.inr (Or.inr (Or.inr (Or.inr (Or.inr (Or.inl s7))))))))).symm) ?_
                  exact join
                · skip
                  refine Rn.iload_n dX12_sign_59 rfl ?_
                  refine Rn.bipushv (v := 61) dX12_sign_60 bp_61 ?_
                  refine Rn.icmp_eq dX12_sign_62 (fun s8 => ?_) (fun s8 => ?_)
                  · skip
                    refine Rn.iconstv (v := 3) dX12_sign_71 ic_3 ?_
                    refine Rn.goto dX12_sign_72 ?_
                    refine Rn.topI (y := sgO c) ((if_pos (Or.inr (Or.inr (Or.inr (Or.inr (Or.inr (Or.inr (Or.inr (Or.inr (Or.inl s8)))))))))).symm) ?_
                    exact join
                  · skip
                    refine Rn.iload_n dX12_sign_65 rfl ?_
                    refine Rn.bipushv (v := 62) dX12_sign_66 bp_62 ?_
                    refine Rn.icmp_ne dX12_sign_68 (fun s9 => ?_) (fun s9 => ?_)
                    · skip
                      refine Rn.iconstv (v := 5) dX12_sign_75 ic_5 ?_
                      refine Rn.topI (y := sgO c) ((if_neg (fun e => e.elim s0 (fun e => e.elim s1 (fun e => e.elim s2 (fun e => e.elim s3 (fun e => e.elim s4 (fun e => e.elim s5 (fun e => e.elim s6 (fun e => e.elim s7 (fun e => e.elim s8 (fun e => s9 e))))))))))).symm) ?_
                      exact join
                    · skip
                      refine Rn.iconstv (v := 3) dX12_sign_71 ic_3 ?_
                      refine Rn.goto dX12_sign_72 ?_
                      refine Rn.topI (y := sgO c) ((if_pos (Or.inr (Or.inr (Or.inr (Or.inr (Or.inr (Or.inr (Or.inr (Or.inr (Or.inr (s9))))))))))).symm) ?_
                      exact join
