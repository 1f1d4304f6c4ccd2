theorem Rn.wide {G : Gx} {l : Launch} {d : Md} {pc dep ca sa ca' sa' : Nat} {ex : Bool} {lv : List (Option Value)} {st : List Value} {ly : Ly} {M : Mm} {Q : Qt} (h : Rn G l d (dep, ca, sa, ex) pc lv st ly M Q) (h1 : ca ≤ ca') (h2 : sa ≤ sa') : Rn G l d (dep, ca', sa', ex) pc lv st ly M Q := by
  intro p e R s m args below meth c H locs cells slots ls Z hC hH hB hl hK
  refine h p e R s m args below meth c H locs cells slots ls Z hC hH ⟨hB.1, hB.2.1, ?_, ?_⟩ hl hK
  · have := hB.2.2.1; dsimp only at *; omega
  · have := hB.2.2.2; dsimp only at *; omega
theorem lp_in {i L : Nat} (hL : L ≤ 3072) (hi : i ≤ 4000) (h : ¬ nI L - 6 < nI i) : i + 6 ≤ L := by
  by_cases g : 6 ≤ L
  · have e : nI L - 6 = nI (L - 6) := by
      have := nI_subk (L - 6) 6
      rw [show L - 6 + 6 = L by omega] at this
      exact this
    rw [e] at h
    have w : ¬ L - 6 < i := fun q => h ((nI_ltI (a := L - 6) (b := i) (by omega) (by omega)).mpr q)
    omega
  · exfalso
    have w : nI L - 6 < 0 := by
      rcases (show L = 0 ∨ L = 1 ∨ L = 2 ∨ L = 3 ∨ L = 4 ∨ L = 5 by omega) with rfl | rfl | rfl | rfl | rfl | rfl <;> decide
    exact h (Int32.lt_of_lt_of_le w (Int32.not_lt.mp (nI_pos (by omega))))
theorem law_op {G : Gx} {l : Launch} {ly : Ly} {M : Mm} {Q : Qt} {i dep ca sa : Nat} {v5 v6 : Option Value} (hdep : 140 + 1 ≤ dep) (hi : i + 6 ≤ G.2.2.2.2.1) (hL : G.2.2.2.2.1 ≤ 3072) (hI : INV ly M) (look : Rn G l mL_law (dep, ca, sa, false) 356 [some (.float 0), some (.ref 0), some (.ref 149), some (.ref 196), some (.int (nI i)), v5, v6] [] ly M Q) (k : ∀ K : Mm, INV ly K → Rn G l mL_law (dep, ca, sa, false) 1507 [some (.float 0), some (.ref 0), some (.ref 149), some (.ref 196), some (.int (nI i)), v5, v6] [] ly K Q) : Rn G l mL_law (dep, ca, sa, false) 33 [some (.float 0), some (.ref 0), some (.ref 149), some (.ref 196), some (.int (nI i)), v5, v6] [] ly M Q := by
  refine Rn.aload_nF dL_law_33 rfl ?_
  refine Rn.iload dL_law_34 rfl ?_
  refine Rn.ialdS dL_law_36 (by omega) hL ?_
  refine Rn.bipushv (v := 63) dL_law_37 bp_63 ?_
  refine Rn.iand dL_law_39 ?_
  generalize G.2.2.2.2.2 i &&& 63 = v
  by_cases g1 : v < 0
  · exact Rn.tableOut (tgt := 1507) dL_law_40 (Or.inl (Int32.lt_iff_toInt_lt.mp g1)) (by decide) (k M hI)
  by_cases g2 : v ≤ 34
  · obtain ⟨m, hm, rfl⟩ := nI_of g1
    have hm2 : m ≤ 34 := (nI_leI (a := m) (b := 34) hm (by decide)).mp g2
    clear g1 g2 hm
    match m, hm2 with
    | 0, _ => exact Rn.tableIn (off := 156) (tgt := 196) dL_law_40 (by decide) (by decide) (by decide) (by decide) (sL_feed hdep hi hL hI k)
    | 1, _ => exact Rn.tableIn (off := 229) (tgt := 269) dL_law_40 (by decide) (by decide) (by decide) (by decide) (sL_text hdep hi hL hI k)
    | 2, _ => exact Rn.tableIn (off := 254) (tgt := 294) dL_law_40 (by decide) (by decide) (by decide) (by decide) (sL_fault hdep hi hL hI k)
    | 3, _ => exact Rn.tableIn (off := 279) (tgt := 319) dL_law_40 (by decide) (by decide) (by decide) (by decide) (sL_named hdep hi hL hI k)
    | 4, _ => exact Rn.tableIn (off := 316) (tgt := 356) dL_law_40 (by decide) (by decide) (by decide) (by decide) look
    | 5, _ => exact Rn.tableIn (off := 384) (tgt := 424) dL_law_40 (by decide) (by decide) (by decide) (by decide) (sL_cell hdep hi hL hI k)
    | 6, _ => exact Rn.tableIn (off := 421) (tgt := 461) dL_law_40 (by decide) (by decide) (by decide) (by decide) (sL_law hdep hi hL hI k)
    | 7, _ => exact Rn.tableIn (off := 483) (tgt := 523) dL_law_40 (by decide) (by decide) (by decide) (by decide) (sL_beats hdep hi hL hI k)
    | 8, _ => exact Rn.tableIn (off := 508) (tgt := 548) dL_law_40 (by decide) (by decide) (by decide) (by decide) (sL_was hdep hi hL hI k)
    | 9, _ => exact Rn.tableIn (off := 533) (tgt := 573) dL_law_40 (by decide) (by decide) (by decide) (by decide) (sL_fat hdep hi hL hI k)
    | 10, _ => exact Rn.tableIn (off := 570) (tgt := 610) dL_law_40 (by decide) (by decide) (by decide) (by decide) (sL_off hdep hi hL hI k)
    | 11, _ => exact Rn.tableIn (off := 595) (tgt := 635) dL_law_40 (by decide) (by decide) (by decide) (by decide) (sL_blow hdep hi hL hI k)
    | 12, _ => exact Rn.tableIn (off := 636) (tgt := 676) dL_law_40 (by decide) (by decide) (by decide) (by decide) (sL_strike hdep hi hL hI k)
    | 13, _ => exact Rn.tableIn (off := 673) (tgt := 713) dL_law_40 (by decide) (by decide) (by decide) (by decide) (sL_high hdep hi hL hI k)
    | 14, _ => exact Rn.tableIn (off := 698) (tgt := 738) dL_law_40 (by decide) (by decide) (by decide) (by decide) (sL_creaks hdep hi hL hI k)
    | 15, _ => exact Rn.tableIn (off := 723) (tgt := 763) dL_law_40 (by decide) (by decide) (by decide) (by decide) (sL_lies hdep hi hL hI k)
    | 16, _ => exact Rn.tableIn (off := 784) (tgt := 824) dL_law_40 (by decide) (by decide) (by decide) (by decide) (sL_fewest hdep hi hL hI k)
    | 17, _ => exact Rn.tableIn (off := 833) (tgt := 873) dL_law_40 (by decide) (by decide) (by decide) (by decide) (sL_forbidden hdep hi hL hI k)
    | 18, _ => exact Rn.tableIn (off := 882) (tgt := 922) dL_law_40 (by decide) (by decide) (by decide) (by decide) (sL_cancel hdep hi hL hI k)
    | 19, _ => exact Rn.tableIn (off := 931) (tgt := 971) dL_law_40 (by decide) (by decide) (by decide) (by decide) (sL_owes hdep hi hL hI k)
    | 20, _ => exact Rn.tableIn (off := 968) (tgt := 1008) dL_law_40 (by decide) (by decide) (by decide) (by decide) (sL_pump hdep hi hL hI k)
    | 21, _ => exact Rn.tableIn (off := 1029) (tgt := 1069) dL_law_40 (by decide) (by decide) (by decide) (by decide) (sL_keeper hdep hi hL hI k)
    | 22, _ => exact Rn.tableIn (off := 1102) (tgt := 1142) dL_law_40 (by decide) (by decide) (by decide) (by decide) (sL_groan hdep hi hL hI k)
    | 23, _ => exact Rn.tableIn (off := 1179) (tgt := 1219) dL_law_40 (by decide) (by decide) (by decide) (by decide) (sL_unsay hdep hi hL hI k)
    | 24, _ => exact Rn.tableIn (off := 1204) (tgt := 1244) dL_law_40 (by decide) (by decide) (by decide) (by decide) (sL_known hdep hi hL hI k)
    | 25, _ => exact Rn.tableIn (off := 1229) (tgt := 1269) dL_law_40 (by decide) (by decide) (by decide) (by decide) (sL_began hdep hi hL hI k)
    | 26, _ => exact Rn.tableIn (off := 1242) (tgt := 1282) dL_law_40 (by decide) (by decide) (by decide) (by decide) (sL_set hdep hi hL hI k)
    | 27, _ => exact Rn.tableIn (off := 1267) (tgt := 1307) dL_law_40 (by decide) (by decide) (by decide) (by decide) (sL_sure hdep hi hL hI k)
    | 28, _ => exact Rn.tableIn (off := 1292) (tgt := 1332) dL_law_40 (by decide) (by decide) (by decide) (by decide) (sL_fits hdep hi hL hI k)
    | 29, _ => exact Rn.tableIn (off := 1305) (tgt := 1345) dL_law_40 (by decide) (by decide) (by decide) (by decide) (sL_gales hdep hi hL hI k)
    | 30, _ => exact Rn.tableIn (off := 1354) (tgt := 1394) dL_law_40 (by decide) (by decide) (by decide) (by decide) (sL_tried hdep hi hL hI k)
    | 31, _ => exact Rn.tableIn (off := 1403) (tgt := 1443) dL_law_40 (by decide) (by decide) (by decide) (by decide) (sL_undo hdep hi hL hI k)
    | 32, _ => exact Rn.tableIn (off := 1416) (tgt := 1456) dL_law_40 (by decide) (by decide) (by decide) (by decide) (sL_keep hdep hi hL hI k)
    | 33, _ => exact Rn.tableIn (off := 1429) (tgt := 1469) dL_law_40 (by decide) (by decide) (by decide) (by decide) (sL_back hdep hi hL hI k)
    | 34, _ => exact Rn.tableIn (off := 1442) (tgt := 1482) dL_law_40 (by decide) (by decide) (by decide) (by decide) (sL_count hdep hi hL hI k)
    | q + 35, hq => exact absurd hq (by omega)
  · exact Rn.tableOut (tgt := 1507) dL_law_40 (Or.inr (Int32.lt_iff_toInt_lt.mp (Int32.not_le.mp g2))) (by decide) (k M hI)
theorem law_loop {G : Gx} {l : Launch} {ly : Ly} {Q : Qt} {dep c1 s1 : Nat} (hdep : 140 + 1 ≤ dep) (look : ∀ (i ca sa : Nat) (v5 v6 : Option Value) (M : Mm), i + 6 ≤ G.2.2.2.2.1 → G.2.2.2.2.1 ≤ 3072 → INV ly M → (∀ (K : Mm) (v5 v6 : Option Value), INV ly K → Rn G l mL_law (dep, ca, sa, false) 1507 [some (.float 0), some (.ref 0), some (.ref 149), some (.ref 196), some (.int (nI i)), v5, v6] [] ly K Q) → Rn G l mL_law (dep, ca + c1, sa + s1, false) 356 [some (.float 0), some (.ref 0), some (.ref 149), some (.ref 196), some (.int (nI i)), v5, v6] [] ly M Q) (hQ : ∀ K : Mm, INV ly K → Q (some (.int 1)) ly K) : ∀ (m i : Nat) (v5 v6 : Option Value) (M : Mm), INV ly M → i ≤ 4000 → G.2.2.2.2.1 < i + 6 + 6 * m → Rn G l mL_law (dep, m * c1, m * s1, false) 23 [some (.float 0), some (.ref 0), some (.ref 149), some (.ref 196), some (.int (nI i)), v5, v6] [] ly M Q := by
  intro m
  induction m with
  | zero =>
    intro i v5 v6 M hI hi hm
    refine Rn.iload dL_law_23 rfl ?_
    refine Rn.aload_nF dL_law_25 rfl ?_
    refine Rn.alenS dL_law_26 (fun hL => ?_)
    refine Rn.bipushv (v := 6) dL_law_27 bp_6 ?_
    refine Rn.isub dL_law_29 ?_
    refine Rn.icmp_gt dL_law_30 (fun _ => ?_) (fun g => ?_)
    · refine Rn.iconstv (v := 1) dL_law_1513 ic_1 ?_
      exact Rn.iret (ty := .boolean) dL_law_1514 rfl rfl (hQ M hI)
    · have := lp_in hL hi g
      omega
  | succ m ih =>
    intro i v5 v6 M hI hi hm
    refine Rn.iload dL_law_23 rfl ?_
    refine Rn.aload_nF dL_law_25 rfl ?_
    refine Rn.alenS dL_law_26 (fun hL => ?_)
    refine Rn.bipushv (v := 6) dL_law_27 bp_6 ?_
    refine Rn.isub dL_law_29 ?_
    refine Rn.icmp_gt dL_law_30 (fun _ => ?_) (fun g => ?_)
    · refine Rn.iconstv (v := 1) dL_law_1513 ic_1 ?_
      exact Rn.iret (ty := .boolean) dL_law_1514 rfl rfl (hQ M hI)
    · have h6 := lp_in hL hi g
      have nx : ∀ (K : Mm) (v5 v6 : Option Value), INV ly K → Rn G l mL_law (dep, m * c1, m * s1, false) 1507 [some (.float 0), some (.ref 0), some (.ref 149), some (.ref 196), some (.int (nI i)), v5, v6] [] ly K Q := fun K v5 v6 hK => by
        refine Rn.iinc (lv' := [some (.float 0), some (.ref 0), some (.ref 149), some (.ref 196), some (.int (nI (i + 6))), v5, v6]) dL_law_1507 rfl (by decide) (by rw [show nI i + Int32.ofInt 6 = nI (i + 6) from nI_ad i 6]; rfl) ?_
        refine Rn.goto dL_law_1510 ?_
        exact ih (i + 6) v5 v6 K hK (by omega) (by omega)
      have e1 : (m + 1) * c1 = m * c1 + c1 := Nat.succ_mul m c1
      have e2 : (m + 1) * s1 = m * s1 + s1 := Nat.succ_mul m s1
      rw [e1, e2]
      exact law_op hdep h6 hL hI (look i (m * c1) (m * s1) v5 v6 M h6 hL hI nx) (fun K hK => (nx K v5 v6 hK).wide (by omega) (by omega))
