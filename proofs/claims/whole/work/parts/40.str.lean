section RNG
variable {G : Gx} {l : Launch} {d : Md} {b : Bq} {pc n : Nat} {lv : List (Option Value)} {st : List Value} {ly : Ly} {M : Mm} {Q : Qt}
theorem Rn.aload_nF {k0 : Fin 4} {x : UInt32} (hd : Dc d.2.1 pc n (.aload_n k0) 1) (hv : lv[(k0 : Nat)]? = some (some (.float x))) (k : Rn G l d b n lv (.float x :: st) ly M Q) : Rn G l d b pc lv st ly M Q := by
  obtain ⟨hd, rfl⟩ := hd
  intro p e R s m args below meth c H locs cells slots ls Z hC hH hB hl hK
  exact lv_aload_n hC.hx hC.hb hd rfl (lv_get hl hv) (k p e R s m args below meth c H locs cells slots ls Z hC hH hB hl hK)
theorem Rn.aloadF {i : Nat} {x : UInt32} (hd : Dc d.2.1 pc n (.aload i) 2) (hv : lv[i]? = some (some (.float x))) (k : Rn G l d b n lv (.float x :: st) ly M Q) : Rn G l d b pc lv st ly M Q := by
  obtain ⟨hd, rfl⟩ := hd
  intro p e R s m args below meth c H locs cells slots ls Z hC hH hB hl hK
  exact lv_aload hC.hx hC.hb hd (lv_get hl hv) (k p e R s m args below meth c H locs cells slots ls Z hC hH hB hl hK)
theorem Rn.astore_nF {k0 : Fin 4} {x : UInt32} {lv' : List (Option Value)} (hd : Dc d.2.1 pc n (.astore_n k0) 1) (hn : (k0 : Nat) < d.2.2.1) (hs : st1 lv k0 (.float x) = lv') (k : Rn G l d b n lv' st ly M Q) : Rn G l d b pc lv (.float x :: st) ly M Q := by
  obtain ⟨hd, rfl⟩ := hd
  subst hs
  intro p e R s m args below meth c H locs cells slots ls Z hC hH hB hl hK
  exact lv_astore_n hC.hx hC.hb hd rfl hl hn rfl (fun ls hl => k p e R s m args below meth c H locs cells slots ls Z hC hH hB (lv_less hl lvG_st1) hK)
end RNG
theorem gsX6_168 : Cond.fieldLinkNest RX6 168 "WalkingBridge" "MOST_TOLD" "[I" "WalkingBridge" ∈ lw_tbl := (TA3 (List.mem_of_getElem? (i := 227) rfl))
theorem gsX7_96 : Cond.fieldLinkNest RX7 96 "WalkingBridge" "MOST_TOLD" "[I" "WalkingBridge" ∈ lw_tbl := (TA3 (List.mem_of_getElem? (i := 237) rfl))
theorem fJ0_38 : Cond.fieldLink RJ0 38 "java/lang/String" "COMPACT_STRINGS" "Z" ∈ TB := (TB1 (List.mem_of_getElem? (i := 57) rfl) rfl)
theorem fJ0_1053 : Cond.fieldLink RJ0 1053 "jdk/internal/util/Preconditions" "SIOOBE_FORMATTER" "Ljava/util/function/BiFunction;" ∈ TB := (TB1 (List.mem_of_getElem? (i := 73) rfl) rfl)
theorem fJ0_9 : Cond.fieldLink RJ0 9 "java/lang/String" "value" "[B" ∈ TB := (TB9 (List.mem_of_getElem? (i := 48) rfl) rfl)
theorem fJ0_15 : Cond.fieldLink RJ0 15 "java/lang/String" "coder" "B" ∈ TB := (TB9 (List.mem_of_getElem? (i := 49) rfl) rfl)
theorem tJ0_coder {G : Gx} {l : Launch} {ly : Ly} {M : Mm} {x : UInt32} (hx : x = 2 ∨ x = 3) : Mt G l mJ0_coder_7d493 (1, 0, 0, false) [.float x] ly M (Is (some (.int 0)) ly M) := by
  refine Mt.is (fun Q hQ => ?_)
  refine Mt.of (lv := [some (.float x)]) rfl ?_
  refine Rn.getsC dJ0_coder_7d493_0 fJ0_38 ?_
  refine Rn.if_eq dJ0_coder_7d493_3 (fun h => ?_) (fun h => ?_)
  · skip
    exact absurd h (by decide)
  · skip
    refine Rn.aload_nF dJ0_coder_7d493_6 rfl ?_
    refine Rn.getSC dJ0_coder_7d493_7 fJ0_15 hx ?_
    refine Rn.goto dJ0_coder_7d493_10 ?_
    exact Rn.iret (ty := .byte) dJ0_coder_7d493_14 rfl rfl hQ
theorem tJ0_isLatin1 {G : Gx} {l : Launch} {ly : Ly} {M : Mm} {x : UInt32} (hx : x = 2 ∨ x = 3) : Mt G l mJ0_isLatin1_aae02 (1, 0, 0, false) [.float x] ly M (Is (some (.int 1)) ly M) := by
  refine Mt.is (fun Q hQ => ?_)
  refine Mt.of (lv := [some (.float x)]) rfl ?_
  refine Rn.getsC dJ0_isLatin1_aae02_0 fJ0_38 ?_
  refine Rn.if_eq dJ0_isLatin1_aae02_3 (fun h => ?_) (fun h => ?_)
  · skip
    exact absurd h (by decide)
  · skip
    refine Rn.aload_nF dJ0_isLatin1_aae02_6 rfl ?_
    refine Rn.getSC dJ0_isLatin1_aae02_7 fJ0_15 hx ?_
    refine Rn.if_ne dJ0_isLatin1_aae02_10 (fun h2 => ?_) (fun h2 => ?_)
    · skip
      exact absurd rfl h2
    · skip
      refine Rn.iconstv (v := 1) dJ0_isLatin1_aae02_13 ic_1 ?_
      refine Rn.goto dJ0_isLatin1_aae02_14 ?_
      exact Rn.iret (ty := .boolean) dJ0_isLatin1_aae02_18 rfl rfl hQ
theorem tJ0_length {G : Gx} {l : Launch} {ly : Ly} {M : Mm} {x : UInt32} (hx : x = 2 ∨ x = 3) : Mt G l mJ0_length_8abf5 (2, 0, 0, false) [.float x] ly M (Is (some (.int 127)) ly M) := by
  refine Mt.is (fun Q hQ => ?_)
  refine Mt.of (lv := [some (.float x)]) rfl ?_
  refine Rn.aload_nF dJ0_length_8abf5_0 rfl ?_
  refine Rn.getSV dJ0_length_8abf5_1 fJ0_9 hx ?_
  refine Rn.alenT dJ0_length_8abf5_4 hx ?_
  refine Rn.aload_nF dJ0_length_8abf5_5 rfl ?_
  refine Rn.callVE0 dJ0_length_8abf5_6 vJ0_335 hx rfl (tJ0_coder hx) (by decide) ⟨(Nat.le_of_ble_eq_true rfl), (Nat.le_of_ble_eq_true rfl), (Nat.le_of_ble_eq_true rfl)⟩ (fun h => by cases h) (fun v1 ly1 M1 ⟨q1, q2, q3⟩ => ?_)
  rw [q1, q2, q3]
  refine Rn.ishr dJ0_length_8abf5_9 ?_
  exact Rn.iret (ty := .int) dJ0_length_8abf5_10 rfl rfl hQ
theorem tJ3_checkIndexN {G : Gx} {l : Launch} {ly : Ly} {M : Mm} {k : Nat} (hk : k < 127) : Mt G l mJ3_checkIndex_8e157 (1, 0, 0, false) [.int (nI k), .int 127, .null] ly M (Is (some (.int (nI k))) ly M) := by
  refine Mt.is (fun Q hQ => ?_)
  refine Mt.of (lv := [some (.int (nI k)), some (.int 127), some (.null)]) rfl ?_
  refine Rn.iload_n dJ3_checkIndex_8e157_0 rfl ?_
  refine Rn.if_lt dJ3_checkIndex_8e157_1 (fun h => ?_) (fun h => ?_)
  · skip
    exact absurd h (nI_pos (by omega))
  · skip
    refine Rn.iload_n dJ3_checkIndex_8e157_4 rfl ?_
    refine Rn.iload_n dJ3_checkIndex_8e157_5 rfl ?_
    refine Rn.icmp_lt dJ3_checkIndex_8e157_6 (fun h2 => ?_) (fun h2 => ?_)
    · skip
      refine Rn.iload_n dJ3_checkIndex_8e157_16 rfl ?_
      exact Rn.iret (ty := .int) dJ3_checkIndex_8e157_17 rfl rfl hQ
    · skip
      exact absurd (nI_lt (b := 127) hk (by decide)) h2
theorem tJ3_checkIndexF {G : Gx} {l : Launch} {ly : Ly} {M : Mm} {k : Nat} (hk : k < 127) : Mt G l mJ3_checkIndex_8e157 (1, 0, 0, false) [.int (nI k), .int 127, .float 6] ly M (Is (some (.int (nI k))) ly M) := by
  refine Mt.is (fun Q hQ => ?_)
  refine Mt.of (lv := [some (.int (nI k)), some (.int 127), some (.float 6)]) rfl ?_
  refine Rn.iload_n dJ3_checkIndex_8e157_0 rfl ?_
  refine Rn.if_lt dJ3_checkIndex_8e157_1 (fun h => ?_) (fun h => ?_)
  · skip
    exact absurd h (nI_pos (by omega))
  · skip
    refine Rn.iload_n dJ3_checkIndex_8e157_4 rfl ?_
    refine Rn.iload_n dJ3_checkIndex_8e157_5 rfl ?_
    refine Rn.icmp_lt dJ3_checkIndex_8e157_6 (fun h2 => ?_) (fun h2 => ?_)
    · skip
      refine Rn.iload_n dJ3_checkIndex_8e157_16 rfl ?_
      exact Rn.iret (ty := .int) dJ3_checkIndex_8e157_17 rfl rfl hQ
    · skip
      exact absurd (nI_lt (b := 127) hk (by decide)) h2
theorem tJ0_checkIndex {G : Gx} {l : Launch} {ly : Ly} {M : Mm} {k : Nat} (hk : k < 127) : Mt G l mJ0_checkIndex_df160 (2, 0, 0, false) [.int (nI k), .int 127] ly M (Is none ly M) := by
  refine Mt.is (fun Q hQ => ?_)
  refine Mt.of (lv := [some (.int (nI k)), some (.int 127)]) rfl ?_
  refine Rn.iload_n dJ0_checkIndex_df160_0 rfl ?_
  refine Rn.iload_n dJ0_checkIndex_df160_1 rfl ?_
  refine Rn.getsF dJ0_checkIndex_df160_2 fJ0_1053 (fun v hv => ?_)
  rcases hv with rfl | rfl
  · skip
    refine Rn.callS3 dJ0_checkIndex_df160_5 vJ0_1059 (tJ3_checkIndexN hk) (by decide) ⟨(Nat.le_of_ble_eq_true rfl), (Nat.le_of_ble_eq_true rfl), (Nat.le_of_ble_eq_true rfl)⟩ (fun h => by cases h) (fun v1 ly1 M1 ⟨q1, q2, q3⟩ => ?_)
    rw [q1, q2, q3]
    refine Rn.pop dJ0_checkIndex_df160_8 rfl ?_
    exact Rn.vret dJ0_checkIndex_df160_9 rfl hQ
  · skip
    refine Rn.callS3 dJ0_checkIndex_df160_5 vJ0_1059 (tJ3_checkIndexF hk) (by decide) ⟨(Nat.le_of_ble_eq_true rfl), (Nat.le_of_ble_eq_true rfl), (Nat.le_of_ble_eq_true rfl)⟩ (fun h => by cases h) (fun v1 ly1 M1 ⟨q1, q2, q3⟩ => ?_)
    rw [q1, q2, q3]
    refine Rn.pop dJ0_checkIndex_df160_8 rfl ?_
    exact Rn.vret dJ0_checkIndex_df160_9 rfl hQ
theorem lg_ch : ∀ k, k < 127 → (((lgB k &&& 255).toUInt32) % 65536).toInt32 = lgB k := by decide +kernel
theorem lg_nar : ∀ k, k < 127 → narrow .char (.int (lgB k)) = .int (lgB k) := by decide +kernel
theorem tJ1_charAt {G : Gx} {l : Launch} {ly : Ly} {M : Mm} {x : UInt32} (hx : x = 2 ∨ x = 3) {k : Nat} (hk : k < 127) : Mt G l mJ1_charAt_3b067 (3, 0, 0, false) [.float (x + 2), .int (nI k)] ly M (Is (some (.int (lgB k))) ly M) := by
  refine Mt.is (fun Q hQ => ?_)
  refine Mt.of (lv := [some (.float (x + 2)), some (.int (nI k))]) rfl ?_
  refine Rn.iload_n dJ1_charAt_3b067_0 rfl ?_
  refine Rn.aload_nF dJ1_charAt_3b067_1 rfl ?_
  refine Rn.alenT dJ1_charAt_3b067_2 hx ?_
  refine Rn.callS2 dJ1_charAt_3b067_3 vJ1_9 (tJ0_checkIndex hk) (by decide) ⟨(Nat.le_of_ble_eq_true rfl), (Nat.le_of_ble_eq_true rfl), (Nat.le_of_ble_eq_true rfl)⟩ (fun h => by cases h) (fun v1 ly1 M1 ⟨q1, q2, q3⟩ => ?_)
  rw [q1, q2, q3]
  refine Rn.aload_nF dJ1_charAt_3b067_6 rfl ?_
  refine Rn.iload_n dJ1_charAt_3b067_7 rfl ?_
  refine Rn.baldT dJ1_charAt_3b067_8 hx (vp_in_nI (by omega) (by decide)) ?_
  refine Rn.topI (y := lgB k) (by rw [nI_clamp (by omega)]) ?_
  refine Rn.sipushv (v := 255) dJ1_charAt_3b067_9 sp_255 ?_
  refine Rn.iand dJ1_charAt_3b067_12 ?_
  refine Rn.i2c dJ1_charAt_3b067_13 ?_
  refine Rn.topI (y := lgB k) (lg_ch k hk) ?_
  exact Rn.iret (ty := .char) dJ1_charAt_3b067_14 rfl (lg_nar k hk) hQ
theorem tJ0_charAt {G : Gx} {l : Launch} {ly : Ly} {M : Mm} {x : UInt32} (hx : x = 2 ∨ x = 3) {k : Nat} (hk : k < 127) : Mt G l mJ0_charAt_5068e (4, 0, 0, false) [.float x, .int (nI k)] ly M (Is (some (.int (lgB k))) ly M) := by
  refine Mt.is (fun Q hQ => ?_)
  refine Mt.of (lv := [some (.float x), some (.int (nI k))]) rfl ?_
  refine Rn.aload_nF dJ0_charAt_5068e_0 rfl ?_
  refine Rn.callVE0 dJ0_charAt_5068e_1 vJ0_492 hx rfl (tJ0_isLatin1 hx) (by decide) ⟨(Nat.le_of_ble_eq_true rfl), (Nat.le_of_ble_eq_true rfl), (Nat.le_of_ble_eq_true rfl)⟩ (fun h => by cases h) (fun v1 ly1 M1 ⟨q1, q2, q3⟩ => ?_)
  rw [q1, q2, q3]
  refine Rn.if_eq dJ0_charAt_5068e_4 (fun h => ?_) (fun h => ?_)
  · skip
    exact absurd h (by decide)
  · skip
    refine Rn.aload_nF dJ0_charAt_5068e_7 rfl ?_
    refine Rn.getSV dJ0_charAt_5068e_8 fJ0_9 hx ?_
    refine Rn.iload_n dJ0_charAt_5068e_11 rfl ?_
    refine Rn.callS2 dJ0_charAt_5068e_12 vJ0_495 (tJ1_charAt hx hk) (by decide) ⟨(Nat.le_of_ble_eq_true rfl), (Nat.le_of_ble_eq_true rfl), (Nat.le_of_ble_eq_true rfl)⟩ (fun h => by cases h) (fun v1 ly1 M1 ⟨q1, q2, q3⟩ => ?_)
    rw [q1, q2, q3]
    exact Rn.iret (ty := .char) dJ0_charAt_5068e_15 rfl (lg_nar k hk) hQ
