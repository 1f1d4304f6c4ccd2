theorem ic_m1 : Int32.ofInt (-1) = -1 := by decide
theorem ic_0 : Int32.ofInt (0) = 0 := by decide
theorem ic_1 : Int32.ofInt (1) = 1 := by decide
theorem ic_2 : Int32.ofInt (2) = 2 := by decide
theorem ic_3 : Int32.ofInt (3) = 3 := by decide
theorem ic_4 : Int32.ofInt (4) = 4 := by decide
theorem ic_5 : Int32.ofInt (5) = 5 := by decide
theorem bp_m2 : (Int8.ofInt (-2)).toInt32 = -2 := by decide
theorem bp_6 : (Int8.ofInt (6)).toInt32 = 6 := by decide
theorem bp_7 : (Int8.ofInt (7)).toInt32 = 7 := by decide
theorem bp_8 : (Int8.ofInt (8)).toInt32 = 8 := by decide
theorem bp_9 : (Int8.ofInt (9)).toInt32 = 9 := by decide
theorem bp_10 : (Int8.ofInt (10)).toInt32 = 10 := by decide
theorem bp_11 : (Int8.ofInt (11)).toInt32 = 11 := by decide
theorem bp_12 : (Int8.ofInt (12)).toInt32 = 12 := by decide
theorem bp_13 : (Int8.ofInt (13)).toInt32 = 13 := by decide
theorem bp_14 : (Int8.ofInt (14)).toInt32 = 14 := by decide
theorem bp_15 : (Int8.ofInt (15)).toInt32 = 15 := by decide
theorem bp_16 : (Int8.ofInt (16)).toInt32 = 16 := by decide
theorem bp_17 : (Int8.ofInt (17)).toInt32 = 17 := by decide
theorem bp_18 : (Int8.ofInt (18)).toInt32 = 18 := by decide
theorem bp_19 : (Int8.ofInt (19)).toInt32 = 19 := by decide
theorem bp_20 : (Int8.ofInt (20)).toInt32 = 20 := by decide
theorem bp_21 : (Int8.ofInt (21)).toInt32 = 21 := by decide
theorem bp_22 : (Int8.ofInt (22)).toInt32 = 22 := by decide
theorem bp_23 : (Int8.ofInt (23)).toInt32 = 23 := by decide
theorem bp_24 : (Int8.ofInt (24)).toInt32 = 24 := by decide
theorem bp_25 : (Int8.ofInt (25)).toInt32 = 25 := by decide
theorem bp_26 : (Int8.ofInt (26)).toInt32 = 26 := by decide
theorem bp_27 : (Int8.ofInt (27)).toInt32 = 27 := by decide
theorem bp_28 : (Int8.ofInt (28)).toInt32 = 28 := by decide
theorem bp_29 : (Int8.ofInt (29)).toInt32 = 29 := by decide
theorem bp_30 : (Int8.ofInt (30)).toInt32 = 30 := by decide
theorem bp_31 : (Int8.ofInt (31)).toInt32 = 31 := by decide
theorem bp_32 : (Int8.ofInt (32)).toInt32 = 32 := by decide
theorem bp_33 : (Int8.ofInt (33)).toInt32 = 33 := by decide
theorem bp_34 : (Int8.ofInt (34)).toInt32 = 34 := by decide
theorem bp_35 : (Int8.ofInt (35)).toInt32 = 35 := by decide
theorem bp_36 : (Int8.ofInt (36)).toInt32 = 36 := by decide
theorem bp_37 : (Int8.ofInt (37)).toInt32 = 37 := by decide
theorem bp_38 : (Int8.ofInt (38)).toInt32 = 38 := by decide
theorem bp_39 : (Int8.ofInt (39)).toInt32 = 39 := by decide
theorem bp_40 : (Int8.ofInt (40)).toInt32 = 40 := by decide
theorem bp_41 : (Int8.ofInt (41)).toInt32 = 41 := by decide
theorem bp_42 : (Int8.ofInt (42)).toInt32 = 42 := by decide
theorem bp_43 : (Int8.ofInt (43)).toInt32 = 43 := by decide
theorem bp_45 : (Int8.ofInt (45)).toInt32 = 45 := by decide
theorem bp_47 : (Int8.ofInt (47)).toInt32 = 47 := by decide
theorem bp_48 : (Int8.ofInt (48)).toInt32 = 48 := by decide
theorem bp_57 : (Int8.ofInt (57)).toInt32 = 57 := by decide
theorem bp_59 : (Int8.ofInt (59)).toInt32 = 59 := by decide
theorem bp_60 : (Int8.ofInt (60)).toInt32 = 60 := by decide
theorem bp_61 : (Int8.ofInt (61)).toInt32 = 61 := by decide
theorem bp_62 : (Int8.ofInt (62)).toInt32 = 62 := by decide
theorem bp_63 : (Int8.ofInt (63)).toInt32 = 63 := by decide
theorem bp_64 : (Int8.ofInt (64)).toInt32 = 64 := by decide
theorem bp_72 : (Int8.ofInt (72)).toInt32 = 72 := by decide
theorem bp_97 : (Int8.ofInt (97)).toInt32 = 97 := by decide
theorem bp_99 : (Int8.ofInt (99)).toInt32 = 99 := by decide
theorem bp_100 : (Int8.ofInt (100)).toInt32 = 100 := by decide
theorem bp_120 : (Int8.ofInt (120)).toInt32 = 120 := by decide
theorem bp_122 : (Int8.ofInt (122)).toInt32 = 122 := by decide
theorem bp_127 : (Int8.ofInt (127)).toInt32 = 127 := by decide
theorem sp_m999 : (Int16.ofInt (-999)).toInt32 = -999 := by decide
theorem sp_128 : (Int16.ofInt (128)).toInt32 = 128 := by decide
theorem sp_144 : (Int16.ofInt (144)).toInt32 = 144 := by decide
theorem sp_200 : (Int16.ofInt (200)).toInt32 = 200 := by decide
theorem sp_255 : (Int16.ofInt (255)).toInt32 = 255 := by decide
theorem sp_256 : (Int16.ofInt (256)).toInt32 = 256 := by decide
theorem sp_257 : (Int16.ofInt (257)).toInt32 = 257 := by decide
theorem sp_258 : (Int16.ofInt (258)).toInt32 = 258 := by decide
theorem sp_260 : (Int16.ofInt (260)).toInt32 = 260 := by decide
theorem sp_261 : (Int16.ofInt (261)).toInt32 = 261 := by decide
theorem sp_262 : (Int16.ofInt (262)).toInt32 = 262 := by decide
theorem sp_288 : (Int16.ofInt (288)).toInt32 = 288 := by decide
theorem sp_680 : (Int16.ofInt (680)).toInt32 = 680 := by decide
theorem sp_700 : (Int16.ofInt (700)).toInt32 = 700 := by decide
theorem sp_999 : (Int16.ofInt (999)).toInt32 = 999 := by decide
theorem sp_1728 : (Int16.ofInt (1728)).toInt32 = 1728 := by decide
theorem sp_9999 : (Int16.ofInt (9999)).toInt32 = 9999 := by decide
theorem sp_12345 : (Int16.ofInt (12345)).toInt32 = 12345 := by decide
/-- returns v, the memory M then -/
def Is (v : Option Value) (ly : Ly) (M : Mm) : Qt := fun v' ly' M' => v' = v ∧ ly' = ly ∧ M' = M
section RN2
variable {G : Gx} {l : Launch} {d : Md} {b : Bq} {pc n : Nat} {lv : List (Option Value)} {st : List Value} {ly : Ly} {M : Mm} {Q : Qt}
theorem Rn.iincN {i x : Nat} {lv' : List (Option Value)} (hd : Dc d.2.1 pc n (.iinc i 1) 3) (hv : lv[i]? = some (some (.int (nI x)))) (hn : i < d.2.2.1) (hs : st1 lv i (.int (nI (x + 1))) = lv') (k : Rn G l d b n lv' st ly M Q) : Rn G l d b pc lv st ly M Q := Rn.iinc hd hv hn (by rw [← hs, nI_succ]; rfl) k
theorem Rn.iincv {i : Nat} {j : Int} {j' x : Int32} {lv' : List (Option Value)} (hd : Dc d.2.1 pc n (.iinc i j) 3) (hj : Int32.ofInt j = j') (hv : lv[i]? = some (some (.int x))) (hn : i < d.2.2.1) (hs : st1 lv i (.int (x + j')) = lv') (k : Rn G l d b n lv' st ly M Q) : Rn G l d b pc lv st ly M Q := Rn.iinc hd hv hn (by rw [hj]; exact hs) k
theorem Rn.ialdN {a N k0 : Nat} (hd : Dc d.2.1 pc n (.iaload) 1) (ho : ly[a]? = some (.inl (0, N))) (hin : k0 < N) (hN : N < 2 ^ 31) (k : Rn G l d b n lv (.int (M.1 a k0) :: st) ly M Q) : Rn G l d b pc lv (.int (nI k0) :: .ref a :: st) ly M Q := Rn.iald hd ho (vp_in_nI hin hN) (by rw [nI_clamp (by omega)]; exact k)
theorem Rn.baldN {a N k0 : Nat} (hd : Dc d.2.1 pc n (.baload) 1) (ho : ly[a]? = some (.inl (1, N))) (hin : k0 < N) (hN : N < 2 ^ 31) (k : Rn G l d b n lv (.int (M.1 a k0) :: st) ly M Q) : Rn G l d b pc lv (.int (nI k0) :: .ref a :: st) ly M Q := Rn.bald hd ho (vp_in_nI hin hN) (by rw [nI_clamp (by omega)]; exact k)
theorem Rn.zaldN {a N k0 : Nat} (hd : Dc d.2.1 pc n (.baload) 1) (ho : ly[a]? = some (.inl (2, N))) (hin : k0 < N) (hN : N < 2 ^ 31) (k : Rn G l d b n lv (.int (M.1 a k0) :: st) ly M Q) : Rn G l d b pc lv (.int (nI k0) :: .ref a :: st) ly M Q := Rn.zald hd ho (vp_in_nI hin hN) (by rw [nI_clamp (by omega)]; exact k)
theorem Rn.laldN {a N k0 : Nat} (hd : Dc d.2.1 pc n (.laload) 1) (ho : ly[a]? = some (.inl (3, N))) (hin : k0 < N) (hN : N < 2 ^ 31) (k : Rn G l d b n lv (.long (M.2.1 a k0) :: st) ly M Q) : Rn G l d b pc lv (.int (nI k0) :: .ref a :: st) ly M Q := Rn.lald hd ho (vp_in_nI hin hN) (by rw [nI_clamp (by omega)]; exact k)
theorem Rn.iastN {a N k0 : Nat} {x : Int32} (hd : Dc d.2.1 pc n (.iastore) 1) (ho : ly[a]? = some (.inl (0, N))) (hin : k0 < N) (hN : N < 2 ^ 31) (k : Rn G l d b n lv st ly (sI M a (upd (M.1 a) k0 x)) Q) : Rn G l d b pc lv (.int x :: .int (nI k0) :: .ref a :: st) ly M Q := Rn.iast hd ho (vp_in_nI hin hN) (by rw [nI_clamp (by omega)]; exact k)
theorem Rn.bastN {a N k0 : Nat} {x : Int32} (hd : Dc d.2.1 pc n (.bastore) 1) (ho : ly[a]? = some (.inl (1, N))) (hin : k0 < N) (hN : N < 2 ^ 31) (k : Rn G l d b n lv st ly (sI M a (upd (M.1 a) k0 (vp_nar .byte x))) Q) : Rn G l d b pc lv (.int x :: .int (nI k0) :: .ref a :: st) ly M Q := Rn.bast hd ho (vp_in_nI hin hN) (by rw [nI_clamp (by omega)]; exact k)
theorem Rn.zastN {a N k0 : Nat} {x : Int32} (hd : Dc d.2.1 pc n (.bastore) 1) (ho : ly[a]? = some (.inl (2, N))) (hin : k0 < N) (hN : N < 2 ^ 31) (k : Rn G l d b n lv st ly (sI M a (upd (M.1 a) k0 (vp_nar .boolean x))) Q) : Rn G l d b pc lv (.int x :: .int (nI k0) :: .ref a :: st) ly M Q := Rn.zast hd ho (vp_in_nI hin hN) (by rw [nI_clamp (by omega)]; exact k)
theorem Rn.lastN {a N k0 : Nat} {x : Int64} (hd : Dc d.2.1 pc n (.lastore) 1) (ho : ly[a]? = some (.inl (3, N))) (hin : k0 < N) (hN : N < 2 ^ 31) (k : Rn G l d b n lv st ly (sL M a (vp_updL (M.2.1 a) k0 x)) Q) : Rn G l d b pc lv (.long x :: .int (nI k0) :: .ref a :: st) ly M Q := Rn.last hd ho (vp_in_nI hin hN) (by rw [nI_clamp (by omega)]; exact k)
end RN2
