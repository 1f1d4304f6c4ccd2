/-- digits in a row -/
def nmR (f : Nat → Int32) (p : Nat) : Nat → Int32
  | 0 => 0
  | k + 1 => if 99999 < nmR f p k then nmR f p k else 10 * nmR f p k + f (p + k) - 48
def tkP (f : Nat → Int32) (n i : Nat) : Nat := scN isB f (n - i) i
/-- the token at p: where the next is, its sort, its value -/
def tkT (f : Nat → Int32) (n p : Nat) (v0 : Int32) : Nat × Int32 × Int32 :=
  if n ≤ p then (p, 4, v0)
  else if isS (f p) = true then
    (if ¬ wdF (mtB f p (scN isS f (n - p) p)) 25 0 = -1 then (scN isS f (n - p) p, 0, wdF (mtB f p (scN isS f (n - p) p)) 25 0)
     else if 6 < scN isS f (n - p) p - p then (scN isS f (n - p) p, 5, -1)
     else (scN isS f (n - p) p, 1, pkR f p (scN isS f (n - p) p) 6))
  else if isD (f p) = true then (scN isD f (n - p) p, 2, nmR f p (scN isD f (n - p) p - p))
  else (if 256 ≤ sgV (f p) (hrF f n (p + 1)) then p + 2 else p + 1, sgO (f p), sgV (f p) (hrF f n (p + 1)))
/-- bytes -/
def byA (f : Nat → Int32) (n : Nat) : Prop := ∀ j, j < n → 0 ≤ f j ∧ f j < 256
theorem tkF.r {M N : Mm} {f : Nat → Int32} (h : tkF M N) (hf : ∀ j, (j < 25 ∨ 28 < j) → f j = N.1 149 j) : tkF M (sI N 149 f) := h.tr ⟨rfl, fun a a1 => sI_ne a1, hf⟩
theorem isB_or {x : Int32} : isB x = true ↔ (x = 10 ∨ x = 32) := ⟨of_decide_eq_true, decide_eq_true⟩
theorem inS {x : Int32} : (inR x 97 122 = 0 ∧ ¬ isS x = true) ∨ (inR x 97 122 = 1 ∧ isS x = true) := inR_1.elim (fun k => Or.inl ⟨k.1, fun h => k.2 (of_decide_eq_true h)⟩) (fun k => Or.inr ⟨k.1, decide_eq_true k.2⟩)
theorem inD {x : Int32} : (inR x 48 57 = 0 ∧ ¬ isD x = true) ∨ (inR x 48 57 = 1 ∧ isD x = true) := inR_1.elim (fun k => Or.inl ⟨k.1, fun h => k.2 (of_decide_eq_true h)⟩) (fun k => Or.inr ⟨k.1, decide_eq_true k.2⟩)
theorem tX12_token {G : Gx} {l : Launch} {ly : Ly} {M : Mm} {n i : Nat} (hsz : M.1 149 24 = nI n ∧ n ≤ 700) (hat : M.1 149 25 = nI i ∧ i ≤ n) (hby : byA (M.1 150) n) (hR : RW ly M.2.2) {Q : Qt} (hQ : ∀ K, tkF M K → K.1 149 26 = nI (tkP (M.1 150) n i) → K.1 149 25 = nI (tkT (M.1 150) n (tkP (M.1 150) n i) (M.1 149 28)).1 → K.1 149 27 = (tkT (M.1 150) n (tkP (M.1 150) n i) (M.1 149 28)).2.1 → K.1 149 28 = (tkT (M.1 150) n (tkP (M.1 150) n i) (M.1 149 28)).2.2 → Q none ly K) : Mt G l mX12_token (6, 0, 0, false) [.ref 149] ly M Q := by
  refine Mt.of (lv := [some (.ref 149), none]) rfl ?_
  have hP := scN_le (P := isB) (f := (M.1 150)) (n - i) i
  obtain ⟨p, hp⟩ : ∃ p, p = tkP (M.1 150) n i := ⟨_, rfl⟩
  rw [← hp] at hQ
  have hpn : p ≤ n := by unfold tkP at hp; omega
  have wordR : p < n → isS ((M.1 150) p) = true → ∀ (e : Nat) (KK : Mm), e = scN isS (M.1 150) (n - p) p → tkF M KK → KK.1 149 25 = nI e → KK.1 149 26 = nI p → Rn G l mX12_token (6, 0, 0, false) 87 [some (.ref 149), some (.int ((M.1 150) p))] [] ly KK Q := by
    intro hlt hsm e KK he hF h25 h26
    have hE := scN_le (P := isS) (f := (M.1 150)) (n - p) p
    have hen : p ≤ e ∧ e ≤ n := by omega
    have hRKK : RW ly KK.2.2 := by rw [hF.1]; exact hR
    have e150 : KK.1 150 = (M.1 150) := hF.2.1 150 (by decide)
    have hT : tkT (M.1 150) n p (M.1 149 28) = (if ¬ wdF (mtB (M.1 150) p e) 25 0 = -1 then (e, 0, wdF (mtB (M.1 150) p e) 25 0) else if 6 < e - p then (e, 5, -1) else (e, 1, pkR (M.1 150) p e 6)) := by unfold tkT; rw [if_neg (by omega), if_pos hsm, ← he]
    refine Rn.aload_n dX12_token_87 rfl ?_
    refine Rn.aload_n dX12_token_88 rfl ?_
    refine Rn.callV0 dX12_token_89 vX12_195 (rc149 hRKK) (by decide) rfl (tX12_word (M := KK) (p := p) (e := e) ⟨h25, by omega⟩ ⟨h26, by omega⟩ hRKK) (by decide) ⟨(Nat.le_of_ble_eq_true rfl), (Nat.le_of_ble_eq_true rfl), (Nat.le_of_ble_eq_true rfl)⟩ (fun h => by cases h) (fun v1 ly1 M1 ⟨q1, q2, q3⟩ => ?_)
    rw [q1, q2, q3]
    refine Rn.topI (y := wdF (mtB (M.1 150) p e) 25 0) (by rw [e150]) ?_
    obtain ⟨wd, hwd⟩ : ∃ wd, wd = wdF (mtB (M.1 150) p e) 25 0 := ⟨_, rfl⟩
    rw [← hwd] at hT ⊢
    refine Rn.putI dX12_token_92 fX12_198 rfl rfl rfl (rc149 hRKK) ?_
    refine Rn.aload_n dX12_token_95 rfl ?_
    refine Rn.aload_n dX12_token_96 rfl ?_
    refine Rn.getI dX12_token_97 fX12_198 rfl (rc149 hRKK) ?_
    refine Rn.iconstv (v := -1) dX12_token_100 ic_m1 ?_
    refine Rn.icmp_eq dX12_token_101 (fun g1 => ?_) (fun g1 => ?_)
    · skip
      replace g1 : wd = -1 := g1
      rw [g1] at hT
      rw [if_neg (fun h => h rfl)] at hT
      refine Rn.aload_n dX12_token_108 rfl ?_
      refine Rn.getI dX12_token_109 fX12_175 rfl (rc149 hRKK) ?_
      refine Rn.topI (y := nI e) (h25) ?_
      refine Rn.aload_n dX12_token_112 rfl ?_
      refine Rn.getI dX12_token_113 fX12_185 rfl (rc149 hRKK) ?_
      refine Rn.topI (y := nI p) (h26) ?_
      refine Rn.isub dX12_token_116 ?_
      refine Rn.topI (y := nI (e - p)) (i32sub (by omega)) ?_
      refine Rn.bipushv (v := 6) dX12_token_117 bp_6 ?_
      refine Rn.icmp_le dX12_token_119 (fun g2 => ?_) (fun g2 => ?_)
      · skip
        rw [if_neg (by have := (nI_leI (b := 6) (by omega) (by decide)).mp g2; omega)] at hT
        refine Rn.iconstv (v := 1) dX12_token_126 ic_1 ?_
        refine Rn.putI dX12_token_127 fX12_188 rfl rfl rfl (rc149 hRKK) ?_
        refine Rn.meq (M2 := sI KK 149 (upd (upd (KK.1 149) 28 wd) 27 1)) (sI_sI _ _ _ _) ?_
        refine Rn.aload_n dX12_token_130 rfl ?_
        refine Rn.getI dX12_token_131 fX12_188 rfl (rc149 hRKK) ?_
        refine Rn.iconstv (v := 1) dX12_token_134 ic_1 ?_
        refine Rn.icmp_ne dX12_token_135 (fun g3 => ?_) (fun g3 => ?_)
        · skip
          exact absurd rfl g3
        · skip
          refine Rn.aload_n dX12_token_138 rfl ?_
          refine Rn.callV0 dX12_token_139 vX12_201 (rc149 hRKK) (by decide) rfl (tX12_name (M := sI KK 149 (upd (upd (KK.1 149) 28 wd) 27 1)) (p := p) (e := e) (Q := fun v0 ly0 K => v0 = none ∧ ly0 = ly ∧ tkF (sI KK 149 (upd (upd (KK.1 149) 28 wd) 27 1)) K ∧ K.1 149 25 = nI e ∧ K.1 149 26 = nI p ∧ K.1 149 27 = 1 ∧ K.1 149 28 = pkR (M.1 150) p e 6) ⟨h25, by omega⟩ ⟨h26, by omega⟩ hRKK (fun K t1 t2 t3 t4 t5 => ⟨rfl, rfl, t1, t2.trans h25, t3.trans h26, t4, by rw [t5, ← e150]; rfl⟩)) (by decide) ⟨(Nat.le_of_ble_eq_true rfl), (Nat.le_of_ble_eq_true rfl), (Nat.le_of_ble_eq_true rfl)⟩ (fun h => by cases h) (fun v1 ly1 N2 ⟨q1, q2, t1, t2, t3, t4, t5⟩ => ?_)
          rw [q1, q2]
          refine Rn.goto dX12_token_142 ?_
          refine Rn.vret dX12_token_225 rfl (hQ N2 ((hF.r (fun j hj => (pk_un (by omega)).trans (pk_un (by omega)))).tr t1) t3 (by rw [hT]; exact t2) (by rw [hT]; exact t4) (by rw [hT]; exact t5))
      · skip
        rw [if_pos (by have h9 : ¬ e - p ≤ 6 := fun h => g2 ((nI_leI (b := 6) (by omega) (by decide)).mpr h); omega)] at hT
        refine Rn.iconstv (v := 5) dX12_token_122 ic_5 ?_
        refine Rn.goto dX12_token_123 ?_
        refine Rn.putI dX12_token_127 fX12_188 rfl rfl rfl (rc149 hRKK) ?_
        refine Rn.meq (M2 := sI KK 149 (upd (upd (KK.1 149) 28 wd) 27 5)) (sI_sI _ _ _ _) ?_
        refine Rn.aload_n dX12_token_130 rfl ?_
        refine Rn.getI dX12_token_131 fX12_188 rfl (rc149 hRKK) ?_
        refine Rn.iconstv (v := 1) dX12_token_134 ic_1 ?_
        refine Rn.icmp_ne dX12_token_135 (fun g3 => ?_) (fun g3 => ?_)
        · skip
          refine Rn.vret dX12_token_225 rfl (hQ _ (hF.r (fun j hj => (pk_un (by omega)).trans (pk_un (by omega)))) h26 (by rw [hT]; exact h25) (by rw [hT]; rfl) (by rw [hT]; exact g1))
        · skip
          exact absurd (show (5 : Int32) = 1 from g3) (by decide)
    · skip
      replace g1 : ¬ wd = -1 := g1
      rw [if_pos g1] at hT
      refine Rn.iconstv (v := 0) dX12_token_104 ic_0 ?_
      refine Rn.goto dX12_token_105 ?_
      refine Rn.putI dX12_token_127 fX12_188 rfl rfl rfl (rc149 hRKK) ?_
      refine Rn.meq (M2 := sI KK 149 (upd (upd (KK.1 149) 28 wd) 27 0)) (sI_sI _ _ _ _) ?_
      refine Rn.aload_n dX12_token_130 rfl ?_
      refine Rn.getI dX12_token_131 fX12_188 rfl (rc149 hRKK) ?_
      refine Rn.iconstv (v := 1) dX12_token_134 ic_1 ?_
      refine Rn.icmp_ne dX12_token_135 (fun g3 => ?_) (fun g3 => ?_)
      · skip
        refine Rn.vret dX12_token_225 rfl (hQ _ (hF.r (fun j hj => (pk_un (by omega)).trans (pk_un (by omega)))) h26 (by rw [hT]; exact h25) (by rw [hT]; rfl) (by rw [hT]; rfl))
      · skip
        exact absurd (show (0 : Int32) = 1 from g3) (by decide)
  have letR : p < n → isS ((M.1 150) p) = true → ∀ (g k : Nat) (KK : Mm), k + g = n → scN isS (M.1 150) (n - p) p = scN isS (M.1 150) g k → tkF M KK → KK.1 149 25 = nI k → KK.1 149 26 = nI p → Rn G l mX12_token (6, 0, 0, false) 64 [some (.ref 149), some (.int ((M.1 150) p))] [] ly KK Q := by
    intro hlt hsm g
    induction g with
    | zero =>
      intro k KK hk he hF h25 h26
      have hRKK : RW ly KK.2.2 := by rw [hF.1]; exact hR
      refine Rn.aload_n dX12_token_64 rfl ?_
      refine Rn.callV0 dX12_token_65 vX12_181 (rc149 hRKK) (by decide) rfl (tX12_here (M := KK) (n := n) (i := k) ⟨(hF.2.2 24 (by omega)).trans hsz.1, hsz.2⟩ ⟨h25, (by omega)⟩ hRKK) (by decide) ⟨(Nat.le_of_ble_eq_true rfl), (Nat.le_of_ble_eq_true rfl), (Nat.le_of_ble_eq_true rfl)⟩ (fun h => by cases h) (fun v1 ly1 M1 ⟨q1, q2, q3⟩ => ?_)
      rw [q1, q2, q3]
      refine Rn.topI (y := hrF (M.1 150) n k) (by rw [hF.2.1 150 (by decide)]) ?_
      refine Rn.callS1 dX12_token_68 vX12_191 (tX12_isSmall) (by decide) ⟨(Nat.le_of_ble_eq_true rfl), (Nat.le_of_ble_eq_true rfl), (Nat.le_of_ble_eq_true rfl)⟩ (fun h => by cases h) (fun v1 ly1 M1 ⟨q1, q2, q3⟩ => ?_)
      rw [q1, q2, q3]
      rw [show hrF (M.1 150) n k = -1 from if_neg (by omega)]
      refine Rn.if_eq dX12_token_71 (fun g1 => ?_) (fun g1 => ?_)
      · skip
        exact wordR hlt hsm k KK (by rw [he]; rfl) hF h25 h26
      · skip
        exact absurd (show inR (-1) 97 122 = 0 by decide) g1
    | succ g ih =>
      intro k KK hk he hF h25 h26
      have hRKK : RW ly KK.2.2 := by rw [hF.1]; exact hR
      refine Rn.aload_n dX12_token_64 rfl ?_
      refine Rn.callV0 dX12_token_65 vX12_181 (rc149 hRKK) (by decide) rfl (tX12_here (M := KK) (n := n) (i := k) ⟨(hF.2.2 24 (by omega)).trans hsz.1, hsz.2⟩ ⟨h25, (by omega)⟩ hRKK) (by decide) ⟨(Nat.le_of_ble_eq_true rfl), (Nat.le_of_ble_eq_true rfl), (Nat.le_of_ble_eq_true rfl)⟩ (fun h => by cases h) (fun v1 ly1 M1 ⟨q1, q2, q3⟩ => ?_)
      rw [q1, q2, q3]
      refine Rn.topI (y := hrF (M.1 150) n k) (by rw [hF.2.1 150 (by decide)]) ?_
      refine Rn.callS1 dX12_token_68 vX12_191 (tX12_isSmall) (by decide) ⟨(Nat.le_of_ble_eq_true rfl), (Nat.le_of_ble_eq_true rfl), (Nat.le_of_ble_eq_true rfl)⟩ (fun h => by cases h) (fun v1 ly1 M1 ⟨q1, q2, q3⟩ => ?_)
      rw [q1, q2, q3]
      rw [show hrF (M.1 150) n k = (M.1 150) k from if_pos (by omega)]
      have hs2 : scN isS (M.1 150) (g + 1) k = if isS ((M.1 150) k) = true then scN isS (M.1 150) g (k + 1) else k := rfl
      refine Rn.if_eq dX12_token_71 (fun g1 => ?_) (fun g1 => ?_)
      · skip
        have hn : ¬ isS ((M.1 150) k) = true := inS.elim (fun h => h.2) (fun h => absurd (h.1.symm.trans g1) (by decide))
        exact wordR hlt hsm k KK (by rw [he, hs2, if_neg hn]) hF h25 h26
      · skip
        have hn : isS ((M.1 150) k) = true := inS.elim (fun h => absurd h.1 g1) (fun h => h.2)
        refine Rn.aload_n dX12_token_74 rfl ?_
        refine Rn.dup dX12_token_75 rfl ?_
        refine Rn.getI dX12_token_76 fX12_175 rfl (rc149 hRKK) ?_
        refine Rn.topI (y := nI k) (h25) ?_
        refine Rn.iconstv (v := 1) dX12_token_79 ic_1 ?_
        refine Rn.iadd dX12_token_80 ?_
        refine Rn.topI (y := nI (k + 1)) (nI_add k 1) ?_
        refine Rn.putI dX12_token_81 fX12_175 rfl rfl rfl (rc149 hRKK) ?_
        refine Rn.goto dX12_token_84 ?_
        exact ih (k + 1) _ (by omega) (by rw [he, hs2, if_pos hn]) (hF.p (by omega)) rfl h26
  have digR : p < n → ¬ isS ((M.1 150) p) = true → isD ((M.1 150) p) = true → ∀ (g k : Nat) (KK : Mm), p + k + g = n → scN isD (M.1 150) (n - p) p = scN isD (M.1 150) g (p + k) → tkF M KK → KK.1 149 25 = nI (p + k) → KK.1 149 26 = nI p → KK.1 149 27 = 2 → KK.1 149 28 = nmR (M.1 150) p k → Rn G l mX12_token (6, 0, 0, false) 162 [some (.ref 149), some (.int ((M.1 150) p))] [] ly KK Q := by
    intro hlt hsm hdg g
    induction g with
    | zero =>
      intro k KK hk he hF h25 h26 h27 h28
      have hRKK : RW ly KK.2.2 := by rw [hF.1]; exact hR
      refine Rn.aload_n dX12_token_162 rfl ?_
      refine Rn.callV0 dX12_token_163 vX12_181 (rc149 hRKK) (by decide) rfl (tX12_here (M := KK) (n := n) (i := p + k) ⟨(hF.2.2 24 (by omega)).trans hsz.1, hsz.2⟩ ⟨h25, (by omega)⟩ hRKK) (by decide) ⟨(Nat.le_of_ble_eq_true rfl), (Nat.le_of_ble_eq_true rfl), (Nat.le_of_ble_eq_true rfl)⟩ (fun h => by cases h) (fun v1 ly1 M1 ⟨q1, q2, q3⟩ => ?_)
      rw [q1, q2, q3]
      refine Rn.topI (y := hrF (M.1 150) n (p + k)) (by rw [hF.2.1 150 (by decide)]) ?_
      refine Rn.callS1 dX12_token_166 vX12_204 (tX12_isDigit) (by decide) ⟨(Nat.le_of_ble_eq_true rfl), (Nat.le_of_ble_eq_true rfl), (Nat.le_of_ble_eq_true rfl)⟩ (fun h => by cases h) (fun v1 ly1 M1 ⟨q1, q2, q3⟩ => ?_)
      rw [q1, q2, q3]
      rw [show hrF (M.1 150) n (p + k) = -1 from if_neg (by omega)]
      refine Rn.if_eq dX12_token_169 (fun g1 => ?_) (fun g1 => ?_)
      · skip
        have hee : scN isD (M.1 150) (n - p) p = p + k := by rw [he]; rfl
        have hT : tkT (M.1 150) n p (M.1 149 28) = (p + k, 2, nmR (M.1 150) p k) := by unfold tkT; rw [if_neg (by omega), if_neg hsm, if_pos hdg, hee, Nat.add_sub_cancel_left]
        refine Rn.vret dX12_token_225 rfl (hQ KK hF h26 (by rw [hT]; exact h25) (by rw [hT]; exact h27) (by rw [hT]; exact h28))
      · skip
        exact absurd (show inR (-1) 48 57 = 0 by decide) g1
    | succ g ih =>
      intro k KK hk he hF h25 h26 h27 h28
      have hRKK : RW ly KK.2.2 := by rw [hF.1]; exact hR
      refine Rn.aload_n dX12_token_162 rfl ?_
      refine Rn.callV0 dX12_token_163 vX12_181 (rc149 hRKK) (by decide) rfl (tX12_here (M := KK) (n := n) (i := p + k) ⟨(hF.2.2 24 (by omega)).trans hsz.1, hsz.2⟩ ⟨h25, (by omega)⟩ hRKK) (by decide) ⟨(Nat.le_of_ble_eq_true rfl), (Nat.le_of_ble_eq_true rfl), (Nat.le_of_ble_eq_true rfl)⟩ (fun h => by cases h) (fun v1 ly1 M1 ⟨q1, q2, q3⟩ => ?_)
      rw [q1, q2, q3]
      refine Rn.topI (y := hrF (M.1 150) n (p + k)) (by rw [hF.2.1 150 (by decide)]) ?_
      refine Rn.callS1 dX12_token_166 vX12_204 (tX12_isDigit) (by decide) ⟨(Nat.le_of_ble_eq_true rfl), (Nat.le_of_ble_eq_true rfl), (Nat.le_of_ble_eq_true rfl)⟩ (fun h => by cases h) (fun v1 ly1 M1 ⟨q1, q2, q3⟩ => ?_)
      rw [q1, q2, q3]
      have hh : hrF (M.1 150) n (p + k) = (M.1 150) (p + k) := if_pos (by omega)
      rw [hh]
      have hs2 : scN isD (M.1 150) (g + 1) (p + k) = if isD ((M.1 150) (p + k)) = true then scN isD (M.1 150) g (p + k + 1) else p + k := rfl
      refine Rn.if_eq dX12_token_169 (fun g1 => ?_) (fun g1 => ?_)
      · skip
        have hn : ¬ isD ((M.1 150) (p + k)) = true := inD.elim (fun h => h.2) (fun h => absurd (h.1.symm.trans g1) (by decide))
        have hee : scN isD (M.1 150) (n - p) p = p + k := by rw [he, hs2, if_neg hn]
        have hT : tkT (M.1 150) n p (M.1 149 28) = (p + k, 2, nmR (M.1 150) p k) := by unfold tkT; rw [if_neg (by omega), if_neg hsm, if_pos hdg, hee, Nat.add_sub_cancel_left]
        refine Rn.vret dX12_token_225 rfl (hQ KK hF h26 (by rw [hT]; exact h25) (by rw [hT]; exact h27) (by rw [hT]; exact h28))
      · skip
        have hn : isD ((M.1 150) (p + k)) = true := inD.elim (fun h => absurd h.1 g1) (fun h => h.2)
        refine Rn.aload_n dX12_token_172 rfl ?_
        refine Rn.aload_n dX12_token_173 rfl ?_
        refine Rn.getI dX12_token_174 fX12_198 rfl (rc149 hRKK) ?_
        refine Rn.topI (y := nmR (M.1 150) p k) (h28) ?_
        refine Rn.ldc dX12_token_177 kX12_207 ?_
        have join : Rn G l mX12_token (6, 0, 0, false) 204 [some (.ref 149), some (.int ((M.1 150) p))] [.int (nmR (M.1 150) p (k + 1)), .ref 149] ly KK Q := by
          refine Rn.putI dX12_token_204 fX12_198 rfl rfl rfl (rc149 hRKK) ?_
          refine Rn.aload_n dX12_token_207 rfl ?_
          refine Rn.dup dX12_token_208 rfl ?_
          refine Rn.getI dX12_token_209 fX12_175 rfl (rc149 hRKK) ?_
          refine Rn.topI (y := nI (p + k)) (h25) ?_
          refine Rn.iconstv (v := 1) dX12_token_212 ic_1 ?_
          refine Rn.iadd dX12_token_213 ?_
          refine Rn.topI (y := nI (p + k + 1)) (nI_add (p + k) 1) ?_
          refine Rn.putI dX12_token_214 fX12_175 rfl rfl rfl (rc149 hRKK) ?_
          refine Rn.meq (M2 := sI KK 149 (upd (upd (KK.1 149) 28 (nmR (M.1 150) p (k + 1))) 25 (nI (p + k + 1)))) (sI_sI _ _ _ _) ?_
          refine Rn.goto dX12_token_217 ?_
          exact ih (k + 1) _ (by omega) (by rw [he, hs2, if_pos hn]; rfl) (hF.r (fun j hj => (pk_un (by omega)).trans (pk_un (by omega)))) rfl h26 h27 rfl
        have hnm : nmR (M.1 150) p (k + 1) = if 99999 < nmR (M.1 150) p k then nmR (M.1 150) p k else 10 * nmR (M.1 150) p k + (M.1 150) (p + k) - 48 := rfl
        refine Rn.icmp_le dX12_token_179 (fun g2 => ?_) (fun g2 => ?_)
        · skip
          refine Rn.bipushv (v := 10) dX12_token_189 bp_10 ?_
          refine Rn.aload_n dX12_token_191 rfl ?_
          refine Rn.getI dX12_token_192 fX12_198 rfl (rc149 hRKK) ?_
          refine Rn.topI (y := nmR (M.1 150) p k) (h28) ?_
          refine Rn.imul dX12_token_195 ?_
          refine Rn.aload_n dX12_token_196 rfl ?_
          refine Rn.callV0 dX12_token_197 vX12_181 (rc149 hRKK) (by decide) rfl (tX12_here (M := KK) (n := n) (i := p + k) ⟨(hF.2.2 24 (by omega)).trans hsz.1, hsz.2⟩ ⟨h25, (by omega)⟩ hRKK) (by decide) ⟨(Nat.le_of_ble_eq_true rfl), (Nat.le_of_ble_eq_true rfl), (Nat.le_of_ble_eq_true rfl)⟩ (fun h => by cases h) (fun v1 ly1 M1 ⟨q1, q2, q3⟩ => ?_)
          rw [q1, q2, q3]
          refine Rn.topI (y := (M.1 150) (p + k)) (by rw [hF.2.1 150 (by decide)]; exact hh) ?_
          refine Rn.iadd dX12_token_200 ?_
          refine Rn.bipushv (v := 48) dX12_token_201 bp_48 ?_
          refine Rn.isub dX12_token_203 ?_
          refine Rn.topI (y := nmR (M.1 150) p (k + 1)) (by rw [hnm, if_neg (Int32.not_lt.mpr g2)]) ?_
          exact join
        · skip
          refine Rn.aload_n dX12_token_182 rfl ?_
          refine Rn.getI dX12_token_183 fX12_198 rfl (rc149 hRKK) ?_
          refine Rn.topI (y := nmR (M.1 150) p k) (h28) ?_
          refine Rn.goto dX12_token_186 ?_
          refine Rn.topI (y := nmR (M.1 150) p (k + 1)) (by rw [hnm, if_pos (Int32.not_le.mp g2)]) ?_
          exact join
  have atP : ∀ KK : Mm, tkF M KK → KK.1 149 25 = nI p → KK.1 149 28 = M.1 149 28 → Rn G l mX12_token (6, 0, 0, false) 31 [some (.ref 149), none] [] ly KK Q := by
    intro KK hF0 h25 h28
    have hRKK : RW ly KK.2.2 := by rw [hF0.1]; exact hR
    refine Rn.aload_n dX12_token_31 rfl ?_
    refine Rn.aload_n dX12_token_32 rfl ?_
    refine Rn.getI dX12_token_33 fX12_175 rfl (rc149 hRKK) ?_
    refine Rn.topI (y := nI p) (h25) ?_
    refine Rn.putI dX12_token_36 fX12_185 rfl rfl rfl (rc149 hRKK) ?_
    refine Rn.aload_n dX12_token_39 rfl ?_
    have hF : tkF M (sI KK 149 (upd (KK.1 149) 26 (nI p))) := hF0.p (by omega)
    have h26 : (sI KK 149 (upd (KK.1 149) 26 (nI p))).1 149 26 = nI p := rfl
    refine Rn.callV0 dX12_token_40 vX12_181 (rc149 hRKK) (by decide) rfl (tX12_here (M := sI KK 149 (upd (KK.1 149) 26 (nI p))) (n := n) (i := p) ⟨(hF0.2.2 24 (by omega)).trans hsz.1, hsz.2⟩ ⟨h25, hpn⟩ hRKK) (by decide) ⟨(Nat.le_of_ble_eq_true rfl), (Nat.le_of_ble_eq_true rfl), (Nat.le_of_ble_eq_true rfl)⟩ (fun h => by cases h) (fun v1 ly1 M1 ⟨q1, q2, q3⟩ => ?_)
    rw [q1, q2, q3]
    refine Rn.topI (y := hrF (M.1 150) n p) (show hrF (KK.1 150) n p = _ by rw [hF0.2.1 150 (by decide)]) ?_
    by_cases hlt : p < n
    · skip
      have hh : hrF (M.1 150) n p = (M.1 150) p := if_pos hlt
      rw [hh]
      refine Rn.istore_n (lv' := [some (.ref 149), some (.int ((M.1 150) p))]) dX12_token_43 (by decide) rfl ?_
      refine Rn.iload_n dX12_token_44 rfl ?_
      refine Rn.iconstv (v := -1) dX12_token_45 ic_m1 ?_
      refine Rn.icmp_ne dX12_token_46 (fun g1 => ?_) (fun g1 => ?_)
      · skip
        refine Rn.iload_n dX12_token_57 rfl ?_
        refine Rn.callS1 dX12_token_58 vX12_191 (tX12_isSmall) (by decide) ⟨(Nat.le_of_ble_eq_true rfl), (Nat.le_of_ble_eq_true rfl), (Nat.le_of_ble_eq_true rfl)⟩ (fun h => by cases h) (fun v1 ly1 M1 ⟨q1, q2, q3⟩ => ?_)
        rw [q1, q2, q3]
        refine Rn.if_eq dX12_token_61 (fun g2 => ?_) (fun g2 => ?_)
        · skip
          have hsm : ¬ isS ((M.1 150) p) = true := inS.elim (fun h => h.2) (fun h => absurd (h.1.symm.trans g2) (by decide))
          refine Rn.iload_n dX12_token_145 rfl ?_
          refine Rn.callS1 dX12_token_146 vX12_204 (tX12_isDigit) (by decide) ⟨(Nat.le_of_ble_eq_true rfl), (Nat.le_of_ble_eq_true rfl), (Nat.le_of_ble_eq_true rfl)⟩ (fun h => by cases h) (fun v1 ly1 M1 ⟨q1, q2, q3⟩ => ?_)
          rw [q1, q2, q3]
          refine Rn.if_eq dX12_token_149 (fun g3 => ?_) (fun g3 => ?_)
          · skip
            have hdg : ¬ isD ((M.1 150) p) = true := inD.elim (fun h => h.2) (fun h => absurd (h.1.symm.trans g3) (by decide))
            refine Rn.aload_n dX12_token_220 rfl ?_
            refine Rn.iload_n dX12_token_221 rfl ?_
            have hT : tkT (M.1 150) n p (M.1 149 28) = (if 256 ≤ sgV ((M.1 150) p) (hrF (M.1 150) n (p + 1)) then p + 2 else p + 1, sgO ((M.1 150) p), sgV ((M.1 150) p) (hrF (M.1 150) n (p + 1))) := by unfold tkT; rw [if_neg (by omega), if_neg hsm, if_neg hdg]
            refine Rn.callV1 dX12_token_222 vX12_208 (rc149 hRKK) (by decide) rfl (tX12_sign (M := sI KK 149 (upd (KK.1 149) 26 (nI p))) (n := n) (i := p) (c := (M.1 150) p) (Q := fun v0 ly0 K => v0 = none ∧ ly0 = ly ∧ tkF M K ∧ K.1 149 26 = nI p ∧ K.1 149 25 = nI (tkT (M.1 150) n p (M.1 149 28)).1 ∧ K.1 149 27 = (tkT (M.1 150) n p (M.1 149 28)).2.1 ∧ K.1 149 28 = (tkT (M.1 150) n p (M.1 149 28)).2.2) ⟨(hF0.2.2 24 (by omega)).trans hsz.1, hsz.2⟩ ⟨h25, hlt⟩ (hby p hlt).2 hRKK (fun K t1 t2 t3 t4 t5 => ⟨rfl, rfl, hF.tr t1, t2, by rw [hT, t5, show (sI KK 149 (upd (KK.1 149) 26 (nI p))).1 150 = (M.1 150) from hF0.2.1 150 (by decide)], by rw [hT, t3], by rw [hT, t4, show (sI KK 149 (upd (KK.1 149) 26 (nI p))).1 150 = (M.1 150) from hF0.2.1 150 (by decide)]⟩)) (by decide) ⟨(Nat.le_of_ble_eq_true rfl), (Nat.le_of_ble_eq_true rfl), (Nat.le_of_ble_eq_true rfl)⟩ (fun h => by cases h) (fun v1 ly1 N2 ⟨q1, q2, t1, t2, t3, t4, t5⟩ => ?_)
            rw [q1, q2]
            exact Rn.vret dX12_token_225 rfl (hQ N2 t1 t2 t3 t4 t5)
          · skip
            have hdg : isD ((M.1 150) p) = true := inD.elim (fun h => absurd h.1 g3) (fun h => h.2)
            refine Rn.aload_n dX12_token_152 rfl ?_
            refine Rn.iconstv (v := 2) dX12_token_153 ic_2 ?_
            refine Rn.putI dX12_token_154 fX12_188 rfl rfl rfl (rc149 hRKK) ?_
            refine Rn.meq (M2 := sI KK 149 (upd (upd (KK.1 149) 26 (nI p)) 27 2)) (sI_sI _ _ _ _) ?_
            refine Rn.aload_n dX12_token_157 rfl ?_
            refine Rn.iconstv (v := 0) dX12_token_158 ic_0 ?_
            refine Rn.putI dX12_token_159 fX12_198 rfl rfl rfl (rc149 hRKK) ?_
            refine Rn.meq (M2 := sI KK 149 (upd (upd (upd (KK.1 149) 26 (nI p)) 27 2) 28 0)) (sI_sI _ _ _ _) ?_
            exact digR hlt hsm hdg (n - p) 0 _ (by omega) rfl (hF0.r (fun j hj => (pk_un (by omega)).trans ((pk_un (by omega)).trans (pk_un (by omega))))) h25 rfl rfl rfl
        · skip
          have hsm : isS ((M.1 150) p) = true := inS.elim (fun h => absurd h.1 g2) (fun h => h.2)
          exact letR hlt hsm (n - p) p _ (by omega) rfl hF h25 rfl
      · skip
        exact absurd (hby p hlt).1 (by rw [show (M.1 150) p = -1 from g1]; decide)
    · skip
      have hh : hrF (M.1 150) n p = -1 := if_neg hlt
      rw [hh]
      refine Rn.istore_n (lv' := [some (.ref 149), some (.int (-1))]) dX12_token_43 (by decide) rfl ?_
      refine Rn.iload_n dX12_token_44 rfl ?_
      refine Rn.iconstv (v := -1) dX12_token_45 ic_m1 ?_
      refine Rn.icmp_ne dX12_token_46 (fun g1 => ?_) (fun g1 => ?_)
      · skip
        exact absurd rfl g1
      · skip
        have hT : tkT (M.1 150) n p (M.1 149 28) = (p, 4, M.1 149 28) := by unfold tkT; rw [if_pos (by omega)]
        refine Rn.aload_n dX12_token_49 rfl ?_
        refine Rn.iconstv (v := 4) dX12_token_50 ic_4 ?_
        refine Rn.putI dX12_token_51 fX12_188 rfl rfl rfl (rc149 hRKK) ?_
        refine Rn.meq (M2 := sI KK 149 (upd (upd (KK.1 149) 26 (nI p)) 27 4)) (sI_sI _ _ _ _) ?_
        refine Rn.goto dX12_token_54 ?_
        refine Rn.vret dX12_token_225 rfl (hQ _ (hF0.r (fun j hj => (pk_un (by omega)).trans (pk_un (by omega)))) rfl (by rw [hT]; exact h25) (by rw [hT]; rfl) (by rw [hT]; exact h28))
  have sp : ∀ (g k : Nat) (KK : Mm), k + g = n → p = scN isB (M.1 150) g k → tkF M KK → KK.1 149 25 = nI k → KK.1 149 28 = M.1 149 28 → Rn G l mX12_token (6, 0, 0, false) 0 [some (.ref 149), none] [] ly KK Q := by
    intro g
    induction g with
    | zero =>
      intro k KK hk he hF h25 h28
      have hRKK : RW ly KK.2.2 := by rw [hF.1]; exact hR
      refine Rn.aload_n dX12_token_0 rfl ?_
      refine Rn.callV0 dX12_token_1 vX12_181 (rc149 hRKK) (by decide) rfl (tX12_here (M := KK) (n := n) (i := k) ⟨(hF.2.2 24 (by omega)).trans hsz.1, hsz.2⟩ ⟨h25, (by omega)⟩ hRKK) (by decide) ⟨(Nat.le_of_ble_eq_true rfl), (Nat.le_of_ble_eq_true rfl), (Nat.le_of_ble_eq_true rfl)⟩ (fun h => by cases h) (fun v1 ly1 M1 ⟨q1, q2, q3⟩ => ?_)
      rw [q1, q2, q3]
      refine Rn.topI (y := (-1)) (by rw [hF.2.1 150 (by decide)]; exact if_neg (by omega)) ?_
      refine Rn.bipushv (v := 10) dX12_token_4 bp_10 ?_
      refine Rn.icmp_eq dX12_token_6 (fun g1 => ?_) (fun g1 => ?_)
      · skip
        exact absurd g1 (by decide)
      · skip
        refine Rn.aload_n dX12_token_9 rfl ?_
        refine Rn.callV0 dX12_token_10 vX12_181 (rc149 hRKK) (by decide) rfl (tX12_here (M := KK) (n := n) (i := k) ⟨(hF.2.2 24 (by omega)).trans hsz.1, hsz.2⟩ ⟨h25, (by omega)⟩ hRKK) (by decide) ⟨(Nat.le_of_ble_eq_true rfl), (Nat.le_of_ble_eq_true rfl), (Nat.le_of_ble_eq_true rfl)⟩ (fun h => by cases h) (fun v1 ly1 M1 ⟨q1, q2, q3⟩ => ?_)
        rw [q1, q2, q3]
        refine Rn.topI (y := (-1)) (by rw [hF.2.1 150 (by decide)]; exact if_neg (by omega)) ?_
        refine Rn.bipushv (v := 32) dX12_token_13 bp_32 ?_
        refine Rn.icmp_ne dX12_token_15 (fun g2 => ?_) (fun g2 => ?_)
        · skip
          have ek : p = k := he
          exact atP KK hF (by rw [ek]; exact h25) h28
        · skip
          exact absurd g2 (by decide)
    | succ g ih =>
      intro k KK hk he hF h25 h28
      have hRKK : RW ly KK.2.2 := by rw [hF.1]; exact hR
      have hs2 : scN isB (M.1 150) (g + 1) k = if isB ((M.1 150) k) = true then scN isB (M.1 150) g (k + 1) else k := rfl
      refine Rn.aload_n dX12_token_0 rfl ?_
      refine Rn.callV0 dX12_token_1 vX12_181 (rc149 hRKK) (by decide) rfl (tX12_here (M := KK) (n := n) (i := k) ⟨(hF.2.2 24 (by omega)).trans hsz.1, hsz.2⟩ ⟨h25, (by omega)⟩ hRKK) (by decide) ⟨(Nat.le_of_ble_eq_true rfl), (Nat.le_of_ble_eq_true rfl), (Nat.le_of_ble_eq_true rfl)⟩ (fun h => by cases h) (fun v1 ly1 M1 ⟨q1, q2, q3⟩ => ?_)
      rw [q1, q2, q3]
      refine Rn.topI (y := (M.1 150) k) (by rw [hF.2.1 150 (by decide)]; exact if_pos (by omega)) ?_
      refine Rn.bipushv (v := 10) dX12_token_4 bp_10 ?_
      refine Rn.icmp_eq dX12_token_6 (fun g1 => ?_) (fun g1 => ?_)
      · skip
        refine Rn.aload_n dX12_token_18 rfl ?_
        refine Rn.dup dX12_token_19 rfl ?_
        refine Rn.getI dX12_token_20 fX12_175 rfl (rc149 hRKK) ?_
        refine Rn.topI (y := nI k) (h25) ?_
        refine Rn.iconstv (v := 1) dX12_token_23 ic_1 ?_
        refine Rn.iadd dX12_token_24 ?_
        refine Rn.topI (y := nI (k + 1)) (nI_add k 1) ?_
        refine Rn.putI dX12_token_25 fX12_175 rfl rfl rfl (rc149 hRKK) ?_
        refine Rn.goto dX12_token_28 ?_
        exact ih (k + 1) _ (by omega) (by rw [he, hs2, if_pos (isB_or.mpr (Or.inl g1))]) (hF.p (by omega)) rfl h28
      · skip
        refine Rn.aload_n dX12_token_9 rfl ?_
        refine Rn.callV0 dX12_token_10 vX12_181 (rc149 hRKK) (by decide) rfl (tX12_here (M := KK) (n := n) (i := k) ⟨(hF.2.2 24 (by omega)).trans hsz.1, hsz.2⟩ ⟨h25, (by omega)⟩ hRKK) (by decide) ⟨(Nat.le_of_ble_eq_true rfl), (Nat.le_of_ble_eq_true rfl), (Nat.le_of_ble_eq_true rfl)⟩ (fun h => by cases h) (fun v1 ly1 M1 ⟨q1, q2, q3⟩ => ?_)
        rw [q1, q2, q3]
        refine Rn.topI (y := (M.1 150) k) (by rw [hF.2.1 150 (by decide)]; exact if_pos (by omega)) ?_
        refine Rn.bipushv (v := 32) dX12_token_13 bp_32 ?_
        refine Rn.icmp_ne dX12_token_15 (fun g2 => ?_) (fun g2 => ?_)
        · skip
          have ek : p = k := by rw [he, hs2, if_neg (fun h => (isB_or.mp h).elim g1 g2)]
          exact atP KK hF (by rw [ek]; exact h25) h28
        · skip
          refine Rn.aload_n dX12_token_18 rfl ?_
          refine Rn.dup dX12_token_19 rfl ?_
          refine Rn.getI dX12_token_20 fX12_175 rfl (rc149 hRKK) ?_
          refine Rn.topI (y := nI k) (h25) ?_
          refine Rn.iconstv (v := 1) dX12_token_23 ic_1 ?_
          refine Rn.iadd dX12_token_24 ?_
          refine Rn.topI (y := nI (k + 1)) (nI_add k 1) ?_
          refine Rn.putI dX12_token_25 fX12_175 rfl rfl rfl (rc149 hRKK) ?_
          refine Rn.goto dX12_token_28 ?_
          exact ih (k + 1) _ (by omega) (by rw [he, hs2, if_pos (isB_or.mpr (Or.inr g2))]) (hF.p (by omega)) rfl h28
  exact sp (n - i) i M (by omega) hp tkF.rf hat.1 rfl
