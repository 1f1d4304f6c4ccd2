def mL_law : Md := (yL_law, cL_law, 7, some .boolean)
theorem INV.o0 {ly : Ly} {M : Mm} (h : INV ly M) : ly[0]? = some (.inr 11) := by
  obtain ⟨pl, ps, n, A, hC, hR, hP⟩ := h
  exact xc0 hC.1
theorem INV.o1 {ly : Ly} {M : Mm} (h : INV ly M) : ly[149]? = some (.inr 12) := by
  obtain ⟨pl, ps, n, A, hC, hR, hP⟩ := h
  exact rc149 hR.1
theorem nI_ad (a c : Nat) : nI a + nI c = nI (a + c) := by
  induction c with
  | zero => show nI a + 0 = nI a; exact Int32.add_zero _
  | succ c ih => rw [nI_succ, ← Int32.add_assoc, ih, ← nI_succ]; rfl
theorem lg_cmp_rf (x : Int64) : lg_cmp x x = 0 := by
  unfold lg_cmp
  rw [if_neg (show ¬ x > x from Int64.lt_irrefl), if_pos rfl]
section STP
variable {G : Gx} {l : Launch} {d : Md} {b : Bq} {pc : Nat} {lv : List (Option Value)} {st : List Value} {ly : Ly} {M : Mm} {Q : Qt}
/-- a place of the script as an argument -/
theorem Rn.argS {n1 n2 n3 n4 n5 i k : Nat} {c : Int} (h1 : Dc d.2.1 pc n1 (.aload_n 0) 1) (h2 : Dc d.2.1 n1 n2 (.iload 4) 2) (h3 : Dc d.2.1 n2 n3 (.iconst c) 1) (h4 : Dc d.2.1 n3 n4 (.iadd) 1) (h5 : Dc d.2.1 n4 n5 (.iaload) 1) (hc : Int32.ofInt c = nI k) (v0 : lv[0]? = some (some (.float 0))) (v4 : lv[4]? = some (some (.int (nI i)))) (hin : i + k < G.2.2.2.2.1) (hL : G.2.2.2.2.1 ≤ 3072) (kk : Rn G l d b n5 lv (.int (G.2.2.2.2.2 (i + k)) :: st) ly M Q) : Rn G l d b pc lv st ly M Q := by
  refine Rn.aload_nF h1 v0 ?_
  refine Rn.iload h2 v4 ?_
  refine Rn.iconstv h3 hc ?_
  refine Rn.iadd h4 ?_
  refine Rn.topI (y := nI (i + k)) (nI_ad i k) ?_
  exact Rn.ialdS h5 hin hL kk
end STP
theorem sL_feed {G : Gx} {l : Launch} {ly : Ly} {M : Mm} {Q : Qt} {i dep ca sa : Nat} {v5 v6 : Option Value} (hdep : 140 + 1 ≤ dep) (hi : i + 6 ≤ G.2.2.2.2.1) (hL : G.2.2.2.2.1 ≤ 3072) (hI : INV ly M) (k : ∀ K : Mm, INV ly K → Rn G l mL_law (dep, ca, sa, false) 1507 [some (.float 0), some (.ref 0), some (.ref 149), some (.ref 196), some (.int (nI i)), v5, v6] [] ly K Q) : Rn G l mL_law (dep, ca, sa, false) 196 [some (.float 0), some (.ref 0), some (.ref 149), some (.ref 196), some (.int (nI i)), v5, v6] [] ly M Q := by
  refine Rn.aload_n dL_law_196 rfl ?_
  refine Rn.argS (k := 1) dL_law_197 dL_law_198 dL_law_200 dL_law_201 dL_law_202 (by decide) rfl rfl (by omega) hL ?_
  refine Rn.argS (k := 2) dL_law_203 dL_law_204 dL_law_206 dL_law_207 dL_law_208 (by decide) rfl rfl (by omega) hL ?_
  refine Rn.argS (k := 3) dL_law_209 dL_law_210 dL_law_212 dL_law_213 dL_law_214 (by decide) rfl rfl (by omega) hL ?_
  refine Rn.argS (k := 4) dL_law_215 dL_law_216 dL_law_218 dL_law_219 dL_law_220 (by decide) rfl rfl (by omega) hL ?_
  refine Rn.argS (k := 5) dL_law_221 dL_law_222 dL_law_224 dL_law_225 dL_law_226 (by decide) rfl rfl (by omega) hL ?_
  refine Rn.callV5 dL_law_227 vL_21 hI.o0 (by decide) rfl (pr_feed hI) hdep ⟨(Nat.le_of_ble_eq_true rfl), (Nat.le_of_ble_eq_true rfl), (Nat.le_of_ble_eq_true rfl)⟩ (fun h => by cases h) (fun w1 l1 N ⟨q1, r, q2, h2⟩ => ?_)
  rw [q1, q2]
  refine Rn.aload_n dL_law_230 rfl ?_
  refine Rn.argS (k := 1) dL_law_231 dL_law_232 dL_law_234 dL_law_235 dL_law_236 (by decide) rfl rfl (by omega) hL ?_
  refine Rn.argS (k := 2) dL_law_237 dL_law_238 dL_law_240 dL_law_241 dL_law_242 (by decide) rfl rfl (by omega) hL ?_
  refine Rn.argS (k := 3) dL_law_243 dL_law_244 dL_law_246 dL_law_247 dL_law_248 (by decide) rfl rfl (by omega) hL ?_
  refine Rn.argS (k := 4) dL_law_249 dL_law_250 dL_law_252 dL_law_253 dL_law_254 (by decide) rfl rfl (by omega) hL ?_
  refine Rn.argS (k := 5) dL_law_255 dL_law_256 dL_law_258 dL_law_259 dL_law_260 (by decide) rfl rfl (by omega) hL ?_
  refine Rn.callV5 dL_law_261 vL_25 hI.o1 (by decide) rfl h2 hdep ⟨(Nat.le_of_ble_eq_true rfl), (Nat.le_of_ble_eq_true rfl), (Nat.le_of_ble_eq_true rfl)⟩ (fun h => by cases h) (fun w2 l2 K ⟨q3, q4, hK⟩ => ?_)
  rw [q3, q4]
  exact Rn.icmp_eq dL_law_264 (fun _ => k K hK) (fun h => absurd rfl h)
theorem sL_text {G : Gx} {l : Launch} {ly : Ly} {M : Mm} {Q : Qt} {i dep ca sa : Nat} {v5 v6 : Option Value} (hdep : 140 + 1 ≤ dep) (hi : i + 6 ≤ G.2.2.2.2.1) (hL : G.2.2.2.2.1 ≤ 3072) (hI : INV ly M) (k : ∀ K : Mm, INV ly K → Rn G l mL_law (dep, ca, sa, false) 1507 [some (.float 0), some (.ref 0), some (.ref 149), some (.ref 196), some (.int (nI i)), v5, v6] [] ly K Q) : Rn G l mL_law (dep, ca, sa, false) 269 [some (.float 0), some (.ref 0), some (.ref 149), some (.ref 196), some (.int (nI i)), v5, v6] [] ly M Q := by
  refine Rn.aload_n dL_law_269 rfl ?_
  refine Rn.argS (k := 1) dL_law_270 dL_law_271 dL_law_273 dL_law_274 dL_law_275 (by decide) rfl rfl (by omega) hL ?_
  refine Rn.callV1 dL_law_276 vL_26 hI.o0 (by decide) rfl (pr_text hI) hdep ⟨(Nat.le_of_ble_eq_true rfl), (Nat.le_of_ble_eq_true rfl), (Nat.le_of_ble_eq_true rfl)⟩ (fun h => by cases h) (fun w1 l1 N ⟨q1, r, q2, h2⟩ => ?_)
  rw [q1, q2]
  refine Rn.aload_n dL_law_279 rfl ?_
  refine Rn.argS (k := 1) dL_law_280 dL_law_281 dL_law_283 dL_law_284 dL_law_285 (by decide) rfl rfl (by omega) hL ?_
  refine Rn.callV1 dL_law_286 vL_30 hI.o1 (by decide) rfl h2 hdep ⟨(Nat.le_of_ble_eq_true rfl), (Nat.le_of_ble_eq_true rfl), (Nat.le_of_ble_eq_true rfl)⟩ (fun h => by cases h) (fun w2 l2 K ⟨q3, q4, hK⟩ => ?_)
  rw [q3, q4]
  exact Rn.icmp_eq dL_law_289 (fun _ => k K hK) (fun h => absurd rfl h)
theorem sL_fault {G : Gx} {l : Launch} {ly : Ly} {M : Mm} {Q : Qt} {i dep ca sa : Nat} {v5 v6 : Option Value} (hdep : 140 + 1 ≤ dep) (hi : i + 6 ≤ G.2.2.2.2.1) (hL : G.2.2.2.2.1 ≤ 3072) (hI : INV ly M) (k : ∀ K : Mm, INV ly K → Rn G l mL_law (dep, ca, sa, false) 1507 [some (.float 0), some (.ref 0), some (.ref 149), some (.ref 196), some (.int (nI i)), v5, v6] [] ly K Q) : Rn G l mL_law (dep, ca, sa, false) 294 [some (.float 0), some (.ref 0), some (.ref 149), some (.ref 196), some (.int (nI i)), v5, v6] [] ly M Q := by
  refine Rn.aload_n dL_law_294 rfl ?_
  refine Rn.argS (k := 1) dL_law_295 dL_law_296 dL_law_298 dL_law_299 dL_law_300 (by decide) rfl rfl (by omega) hL ?_
  refine Rn.callV1 dL_law_301 vL_31 hI.o0 (by decide) rfl (pr_fault hI) hdep ⟨(Nat.le_of_ble_eq_true rfl), (Nat.le_of_ble_eq_true rfl), (Nat.le_of_ble_eq_true rfl)⟩ (fun h => by cases h) (fun w1 l1 N ⟨q1, r, q2, h2⟩ => ?_)
  rw [q1, q2]
  refine Rn.aload_n dL_law_304 rfl ?_
  refine Rn.argS (k := 1) dL_law_305 dL_law_306 dL_law_308 dL_law_309 dL_law_310 (by decide) rfl rfl (by omega) hL ?_
  refine Rn.callV1 dL_law_311 vL_34 hI.o1 (by decide) rfl h2 hdep ⟨(Nat.le_of_ble_eq_true rfl), (Nat.le_of_ble_eq_true rfl), (Nat.le_of_ble_eq_true rfl)⟩ (fun h => by cases h) (fun w2 l2 K ⟨q3, q4, hK⟩ => ?_)
  rw [q3, q4]
  exact Rn.icmp_eq dL_law_314 (fun _ => k K hK) (fun h => absurd rfl h)
theorem sL_named {G : Gx} {l : Launch} {ly : Ly} {M : Mm} {Q : Qt} {i dep ca sa : Nat} {v5 v6 : Option Value} (hdep : 140 + 1 ≤ dep) (hi : i + 6 ≤ G.2.2.2.2.1) (hL : G.2.2.2.2.1 ≤ 3072) (hI : INV ly M) (k : ∀ K : Mm, INV ly K → Rn G l mL_law (dep, ca, sa, false) 1507 [some (.float 0), some (.ref 0), some (.ref 149), some (.ref 196), some (.int (nI i)), v5, v6] [] ly K Q) : Rn G l mL_law (dep, ca, sa, false) 319 [some (.float 0), some (.ref 0), some (.ref 149), some (.ref 196), some (.int (nI i)), v5, v6] [] ly M Q := by
  refine Rn.aload_n dL_law_319 rfl ?_
  refine Rn.argS (k := 1) dL_law_320 dL_law_321 dL_law_323 dL_law_324 dL_law_325 (by decide) rfl rfl (by omega) hL ?_
  refine Rn.argS (k := 2) dL_law_326 dL_law_327 dL_law_329 dL_law_330 dL_law_331 (by decide) rfl rfl (by omega) hL ?_
  refine Rn.callV2 dL_law_332 vL_35 hI.o0 (by decide) rfl (pr_named hI) hdep ⟨(Nat.le_of_ble_eq_true rfl), (Nat.le_of_ble_eq_true rfl), (Nat.le_of_ble_eq_true rfl)⟩ (fun h => by cases h) (fun w1 l1 N ⟨q1, r, q2, h2⟩ => ?_)
  rw [q1, q2]
  refine Rn.aload_n dL_law_335 rfl ?_
  refine Rn.argS (k := 1) dL_law_336 dL_law_337 dL_law_339 dL_law_340 dL_law_341 (by decide) rfl rfl (by omega) hL ?_
  refine Rn.argS (k := 2) dL_law_342 dL_law_343 dL_law_345 dL_law_346 dL_law_347 (by decide) rfl rfl (by omega) hL ?_
  refine Rn.callV2 dL_law_348 vL_38 hI.o1 (by decide) rfl h2 hdep ⟨(Nat.le_of_ble_eq_true rfl), (Nat.le_of_ble_eq_true rfl), (Nat.le_of_ble_eq_true rfl)⟩ (fun h => by cases h) (fun w2 l2 K ⟨q3, q4, hK⟩ => ?_)
  rw [q3, q4]
  exact Rn.icmp_eq dL_law_351 (fun _ => k K hK) (fun h => absurd rfl h)
theorem sL_cell {G : Gx} {l : Launch} {ly : Ly} {M : Mm} {Q : Qt} {i dep ca sa : Nat} {v5 v6 : Option Value} (hdep : 140 + 1 ≤ dep) (hi : i + 6 ≤ G.2.2.2.2.1) (hL : G.2.2.2.2.1 ≤ 3072) (hI : INV ly M) (k : ∀ K : Mm, INV ly K → Rn G l mL_law (dep, ca, sa, false) 1507 [some (.float 0), some (.ref 0), some (.ref 149), some (.ref 196), some (.int (nI i)), v5, v6] [] ly K Q) : Rn G l mL_law (dep, ca, sa, false) 424 [some (.float 0), some (.ref 0), some (.ref 149), some (.ref 196), some (.int (nI i)), v5, v6] [] ly M Q := by
  refine Rn.aload_n dL_law_424 rfl ?_
  refine Rn.argS (k := 1) dL_law_425 dL_law_426 dL_law_428 dL_law_429 dL_law_430 (by decide) rfl rfl (by omega) hL ?_
  refine Rn.argS (k := 2) dL_law_431 dL_law_432 dL_law_434 dL_law_435 dL_law_436 (by decide) rfl rfl (by omega) hL ?_
  refine Rn.callV2 dL_law_437 vL_49 hI.o0 (by decide) rfl (pr_cell hI) hdep ⟨(Nat.le_of_ble_eq_true rfl), (Nat.le_of_ble_eq_true rfl), (Nat.le_of_ble_eq_true rfl)⟩ (fun h => by cases h) (fun w1 l1 N ⟨q1, r, q2, h2⟩ => ?_)
  rw [q1, q2]
  refine Rn.aload_n dL_law_440 rfl ?_
  refine Rn.argS (k := 1) dL_law_441 dL_law_442 dL_law_444 dL_law_445 dL_law_446 (by decide) rfl rfl (by omega) hL ?_
  refine Rn.argS (k := 2) dL_law_447 dL_law_448 dL_law_450 dL_law_451 dL_law_452 (by decide) rfl rfl (by omega) hL ?_
  refine Rn.callV2 dL_law_453 vL_52 hI.o1 (by decide) rfl h2 hdep ⟨(Nat.le_of_ble_eq_true rfl), (Nat.le_of_ble_eq_true rfl), (Nat.le_of_ble_eq_true rfl)⟩ (fun h => by cases h) (fun w2 l2 K ⟨q3, q4, hK⟩ => ?_)
  rw [q3, q4]
  exact Rn.icmp_eq dL_law_456 (fun _ => k K hK) (fun h => absurd rfl h)
theorem sL_law {G : Gx} {l : Launch} {ly : Ly} {M : Mm} {Q : Qt} {i dep ca sa : Nat} {v5 v6 : Option Value} (hdep : 140 + 1 ≤ dep) (hi : i + 6 ≤ G.2.2.2.2.1) (hL : G.2.2.2.2.1 ≤ 3072) (hI : INV ly M) (k : ∀ K : Mm, INV ly K → Rn G l mL_law (dep, ca, sa, false) 1507 [some (.float 0), some (.ref 0), some (.ref 149), some (.ref 196), some (.int (nI i)), v5, v6] [] ly K Q) : Rn G l mL_law (dep, ca, sa, false) 461 [some (.float 0), some (.ref 0), some (.ref 149), some (.ref 196), some (.int (nI i)), v5, v6] [] ly M Q := by
  refine Rn.aload_n dL_law_461 rfl ?_
  refine Rn.argS (k := 1) dL_law_462 dL_law_463 dL_law_465 dL_law_466 dL_law_467 (by decide) rfl rfl (by omega) hL ?_
  refine Rn.argS (k := 2) dL_law_468 dL_law_469 dL_law_471 dL_law_472 dL_law_473 (by decide) rfl rfl (by omega) hL ?_
  refine Rn.argS (k := 3) dL_law_474 dL_law_475 dL_law_477 dL_law_478 dL_law_479 (by decide) rfl rfl (by omega) hL ?_
  refine Rn.argS (k := 4) dL_law_480 dL_law_481 dL_law_483 dL_law_484 dL_law_485 (by decide) rfl rfl (by omega) hL ?_
  refine Rn.callV4 dL_law_486 vL_53 hI.o0 (by decide) rfl (pr_law hI) hdep ⟨(Nat.le_of_ble_eq_true rfl), (Nat.le_of_ble_eq_true rfl), (Nat.le_of_ble_eq_true rfl)⟩ (fun h => by cases h) (fun w1 l1 N ⟨q1, r, q2, h2⟩ => ?_)
  rw [q1, q2]
  refine Rn.aload_n dL_law_489 rfl ?_
  refine Rn.argS (k := 1) dL_law_490 dL_law_491 dL_law_493 dL_law_494 dL_law_495 (by decide) rfl rfl (by omega) hL ?_
  refine Rn.argS (k := 2) dL_law_496 dL_law_497 dL_law_499 dL_law_500 dL_law_501 (by decide) rfl rfl (by omega) hL ?_
  refine Rn.argS (k := 3) dL_law_502 dL_law_503 dL_law_505 dL_law_506 dL_law_507 (by decide) rfl rfl (by omega) hL ?_
  refine Rn.argS (k := 4) dL_law_508 dL_law_509 dL_law_511 dL_law_512 dL_law_513 (by decide) rfl rfl (by omega) hL ?_
  refine Rn.callV4 dL_law_514 vL_57 hI.o1 (by decide) rfl h2 hdep ⟨(Nat.le_of_ble_eq_true rfl), (Nat.le_of_ble_eq_true rfl), (Nat.le_of_ble_eq_true rfl)⟩ (fun h => by cases h) (fun w2 l2 K ⟨q3, q4, hK⟩ => ?_)
  rw [q3, q4]
  refine Rn.lcmp dL_law_517 ?_
  refine Rn.topI (y := 0) (lg_cmp_rf r) ?_
  exact Rn.if_eq dL_law_518 (fun _ => k K hK) (fun h => absurd rfl h)
theorem sL_beats {G : Gx} {l : Launch} {ly : Ly} {M : Mm} {Q : Qt} {i dep ca sa : Nat} {v5 v6 : Option Value} (hdep : 140 + 1 ≤ dep) (hi : i + 6 ≤ G.2.2.2.2.1) (hL : G.2.2.2.2.1 ≤ 3072) (hI : INV ly M) (k : ∀ K : Mm, INV ly K → Rn G l mL_law (dep, ca, sa, false) 1507 [some (.float 0), some (.ref 0), some (.ref 149), some (.ref 196), some (.int (nI i)), v5, v6] [] ly K Q) : Rn G l mL_law (dep, ca, sa, false) 523 [some (.float 0), some (.ref 0), some (.ref 149), some (.ref 196), some (.int (nI i)), v5, v6] [] ly M Q := by
  refine Rn.aload_n dL_law_523 rfl ?_
  refine Rn.argS (k := 1) dL_law_524 dL_law_525 dL_law_527 dL_law_528 dL_law_529 (by decide) rfl rfl (by omega) hL ?_
  refine Rn.callV1 dL_law_530 vL_58 hI.o0 (by decide) rfl (pr_beats hI) hdep ⟨(Nat.le_of_ble_eq_true rfl), (Nat.le_of_ble_eq_true rfl), (Nat.le_of_ble_eq_true rfl)⟩ (fun h => by cases h) (fun w1 l1 N ⟨q1, r, q2, h2⟩ => ?_)
  rw [q1, q2]
  refine Rn.aload_n dL_law_533 rfl ?_
  refine Rn.argS (k := 1) dL_law_534 dL_law_535 dL_law_537 dL_law_538 dL_law_539 (by decide) rfl rfl (by omega) hL ?_
  refine Rn.callV1 dL_law_540 vL_61 hI.o1 (by decide) rfl h2 hdep ⟨(Nat.le_of_ble_eq_true rfl), (Nat.le_of_ble_eq_true rfl), (Nat.le_of_ble_eq_true rfl)⟩ (fun h => by cases h) (fun w2 l2 K ⟨q3, q4, hK⟩ => ?_)
  rw [q3, q4]
  exact Rn.icmp_eq dL_law_543 (fun _ => k K hK) (fun h => absurd rfl h)
theorem sL_was {G : Gx} {l : Launch} {ly : Ly} {M : Mm} {Q : Qt} {i dep ca sa : Nat} {v5 v6 : Option Value} (hdep : 140 + 1 ≤ dep) (hi : i + 6 ≤ G.2.2.2.2.1) (hL : G.2.2.2.2.1 ≤ 3072) (hI : INV ly M) (k : ∀ K : Mm, INV ly K → Rn G l mL_law (dep, ca, sa, false) 1507 [some (.float 0), some (.ref 0), some (.ref 149), some (.ref 196), some (.int (nI i)), v5, v6] [] ly K Q) : Rn G l mL_law (dep, ca, sa, false) 548 [some (.float 0), some (.ref 0), some (.ref 149), some (.ref 196), some (.int (nI i)), v5, v6] [] ly M Q := by
  refine Rn.aload_n dL_law_548 rfl ?_
  refine Rn.argS (k := 1) dL_law_549 dL_law_550 dL_law_552 dL_law_553 dL_law_554 (by decide) rfl rfl (by omega) hL ?_
  refine Rn.callV1 dL_law_555 vL_62 hI.o0 (by decide) rfl (pr_was hI) hdep ⟨(Nat.le_of_ble_eq_true rfl), (Nat.le_of_ble_eq_true rfl), (Nat.le_of_ble_eq_true rfl)⟩ (fun h => by cases h) (fun w1 l1 N ⟨q1, r, q2, h2⟩ => ?_)
  rw [q1, q2]
  refine Rn.aload_n dL_law_558 rfl ?_
  refine Rn.argS (k := 1) dL_law_559 dL_law_560 dL_law_562 dL_law_563 dL_law_564 (by decide) rfl rfl (by omega) hL ?_
  refine Rn.callV1 dL_law_565 vL_65 hI.o1 (by decide) rfl h2 hdep ⟨(Nat.le_of_ble_eq_true rfl), (Nat.le_of_ble_eq_true rfl), (Nat.le_of_ble_eq_true rfl)⟩ (fun h => by cases h) (fun w2 l2 K ⟨q3, q4, hK⟩ => ?_)
  rw [q3, q4]
  exact Rn.icmp_eq dL_law_568 (fun _ => k K hK) (fun h => absurd rfl h)
theorem sL_fat {G : Gx} {l : Launch} {ly : Ly} {M : Mm} {Q : Qt} {i dep ca sa : Nat} {v5 v6 : Option Value} (hdep : 140 + 1 ≤ dep) (hi : i + 6 ≤ G.2.2.2.2.1) (hL : G.2.2.2.2.1 ≤ 3072) (hI : INV ly M) (k : ∀ K : Mm, INV ly K → Rn G l mL_law (dep, ca, sa, false) 1507 [some (.float 0), some (.ref 0), some (.ref 149), some (.ref 196), some (.int (nI i)), v5, v6] [] ly K Q) : Rn G l mL_law (dep, ca, sa, false) 573 [some (.float 0), some (.ref 0), some (.ref 149), some (.ref 196), some (.int (nI i)), v5, v6] [] ly M Q := by
  refine Rn.aload_n dL_law_573 rfl ?_
  refine Rn.argS (k := 1) dL_law_574 dL_law_575 dL_law_577 dL_law_578 dL_law_579 (by decide) rfl rfl (by omega) hL ?_
  refine Rn.argS (k := 2) dL_law_580 dL_law_581 dL_law_583 dL_law_584 dL_law_585 (by decide) rfl rfl (by omega) hL ?_
  refine Rn.callV2 dL_law_586 vL_66 hI.o0 (by decide) rfl (pr_fat hI) hdep ⟨(Nat.le_of_ble_eq_true rfl), (Nat.le_of_ble_eq_true rfl), (Nat.le_of_ble_eq_true rfl)⟩ (fun h => by cases h) (fun w1 l1 N ⟨q1, r, q2, h2⟩ => ?_)
  rw [q1, q2]
  refine Rn.aload_n dL_law_589 rfl ?_
  refine Rn.argS (k := 1) dL_law_590 dL_law_591 dL_law_593 dL_law_594 dL_law_595 (by decide) rfl rfl (by omega) hL ?_
  refine Rn.argS (k := 2) dL_law_596 dL_law_597 dL_law_599 dL_law_600 dL_law_601 (by decide) rfl rfl (by omega) hL ?_
  refine Rn.callV2 dL_law_602 vL_69 hI.o1 (by decide) rfl h2 hdep ⟨(Nat.le_of_ble_eq_true rfl), (Nat.le_of_ble_eq_true rfl), (Nat.le_of_ble_eq_true rfl)⟩ (fun h => by cases h) (fun w2 l2 K ⟨q3, q4, hK⟩ => ?_)
  rw [q3, q4]
  exact Rn.icmp_eq dL_law_605 (fun _ => k K hK) (fun h => absurd rfl h)
theorem sL_off {G : Gx} {l : Launch} {ly : Ly} {M : Mm} {Q : Qt} {i dep ca sa : Nat} {v5 v6 : Option Value} (hdep : 140 + 1 ≤ dep) (hi : i + 6 ≤ G.2.2.2.2.1) (hL : G.2.2.2.2.1 ≤ 3072) (hI : INV ly M) (k : ∀ K : Mm, INV ly K → Rn G l mL_law (dep, ca, sa, false) 1507 [some (.float 0), some (.ref 0), some (.ref 149), some (.ref 196), some (.int (nI i)), v5, v6] [] ly K Q) : Rn G l mL_law (dep, ca, sa, false) 610 [some (.float 0), some (.ref 0), some (.ref 149), some (.ref 196), some (.int (nI i)), v5, v6] [] ly M Q := by
  refine Rn.aload_n dL_law_610 rfl ?_
  refine Rn.argS (k := 1) dL_law_611 dL_law_612 dL_law_614 dL_law_615 dL_law_616 (by decide) rfl rfl (by omega) hL ?_
  refine Rn.callV1 dL_law_617 vL_70 hI.o0 (by decide) rfl (pr_off hI) hdep ⟨(Nat.le_of_ble_eq_true rfl), (Nat.le_of_ble_eq_true rfl), (Nat.le_of_ble_eq_true rfl)⟩ (fun h => by cases h) (fun w1 l1 N ⟨q1, r, q2, h2⟩ => ?_)
  rw [q1, q2]
  refine Rn.aload_n dL_law_620 rfl ?_
  refine Rn.argS (k := 1) dL_law_621 dL_law_622 dL_law_624 dL_law_625 dL_law_626 (by decide) rfl rfl (by omega) hL ?_
  refine Rn.callV1 dL_law_627 vL_74 hI.o1 (by decide) rfl h2 hdep ⟨(Nat.le_of_ble_eq_true rfl), (Nat.le_of_ble_eq_true rfl), (Nat.le_of_ble_eq_true rfl)⟩ (fun h => by cases h) (fun w2 l2 K ⟨q3, q4, hK⟩ => ?_)
  rw [q3, q4]
  exact Rn.icmp_eq dL_law_630 (fun _ => k K hK) (fun h => absurd rfl h)
theorem sL_blow {G : Gx} {l : Launch} {ly : Ly} {M : Mm} {Q : Qt} {i dep ca sa : Nat} {v5 v6 : Option Value} (hdep : 140 + 1 ≤ dep) (hi : i + 6 ≤ G.2.2.2.2.1) (hL : G.2.2.2.2.1 ≤ 3072) (hI : INV ly M) (k : ∀ K : Mm, INV ly K → Rn G l mL_law (dep, ca, sa, false) 1507 [some (.float 0), some (.ref 0), some (.ref 149), some (.ref 196), some (.int (nI i)), v5, v6] [] ly K Q) : Rn G l mL_law (dep, ca, sa, false) 635 [some (.float 0), some (.ref 0), some (.ref 149), some (.ref 196), some (.int (nI i)), v5, v6] [] ly M Q := by
  by_cases g : G.2.2.2.2.2 (i + 1) = 0
  · skip
    refine Rn.aload_n dL_law_635 rfl ?_
    refine Rn.argS (k := 1) dL_law_636 dL_law_637 dL_law_639 dL_law_640 dL_law_641 (by decide) rfl rfl (by omega) hL ?_
    refine Rn.if_eq dL_law_642 (fun _ => ?_) (fun h => absurd g h)
    refine Rn.iconstv (v := 0) dL_law_649 ic_0 ?_
    refine Rn.callV1 dL_law_650 vL_75 hI.o0 (by decide) rfl (pr_blow (Or.inl rfl) hI) hdep ⟨(Nat.le_of_ble_eq_true rfl), (Nat.le_of_ble_eq_true rfl), (Nat.le_of_ble_eq_true rfl)⟩ (fun h => by cases h) (fun w1 l1 N ⟨q1, r, q2, h2⟩ => ?_)
    rw [q1, q2]
    refine Rn.aload_n dL_law_653 rfl ?_
    refine Rn.argS (k := 1) dL_law_654 dL_law_655 dL_law_657 dL_law_658 dL_law_659 (by decide) rfl rfl (by omega) hL ?_
    refine Rn.if_eq dL_law_660 (fun _ => ?_) (fun h => absurd g h)
    refine Rn.iconstv (v := 0) dL_law_667 ic_0 ?_
    refine Rn.callV1 dL_law_668 vL_79 hI.o1 (by decide) rfl h2 hdep ⟨(Nat.le_of_ble_eq_true rfl), (Nat.le_of_ble_eq_true rfl), (Nat.le_of_ble_eq_true rfl)⟩ (fun h => by cases h) (fun w2 l2 K ⟨q3, q4, hK⟩ => ?_)
    rw [q3, q4]
    exact Rn.icmp_eq dL_law_671 (fun _ => k K hK) (fun h => absurd rfl h)
  · skip
    refine Rn.aload_n dL_law_635 rfl ?_
    refine Rn.argS (k := 1) dL_law_636 dL_law_637 dL_law_639 dL_law_640 dL_law_641 (by decide) rfl rfl (by omega) hL ?_
    refine Rn.if_eq dL_law_642 (fun h => absurd h g) (fun _ => ?_)
    refine Rn.iconstv (v := 1) dL_law_645 ic_1 ?_
    refine Rn.goto dL_law_646 ?_
    refine Rn.callV1 dL_law_650 vL_75 hI.o0 (by decide) rfl (pr_blow (Or.inr rfl) hI) hdep ⟨(Nat.le_of_ble_eq_true rfl), (Nat.le_of_ble_eq_true rfl), (Nat.le_of_ble_eq_true rfl)⟩ (fun h => by cases h) (fun w1 l1 N ⟨q1, r, q2, h2⟩ => ?_)
    rw [q1, q2]
    refine Rn.aload_n dL_law_653 rfl ?_
    refine Rn.argS (k := 1) dL_law_654 dL_law_655 dL_law_657 dL_law_658 dL_law_659 (by decide) rfl rfl (by omega) hL ?_
    refine Rn.if_eq dL_law_660 (fun h => absurd h g) (fun _ => ?_)
    refine Rn.iconstv (v := 1) dL_law_663 ic_1 ?_
    refine Rn.goto dL_law_664 ?_
    refine Rn.callV1 dL_law_668 vL_79 hI.o1 (by decide) rfl h2 hdep ⟨(Nat.le_of_ble_eq_true rfl), (Nat.le_of_ble_eq_true rfl), (Nat.le_of_ble_eq_true rfl)⟩ (fun h => by cases h) (fun w2 l2 K ⟨q3, q4, hK⟩ => ?_)
    rw [q3, q4]
    exact Rn.icmp_eq dL_law_671 (fun _ => k K hK) (fun h => absurd rfl h)
theorem sL_strike {G : Gx} {l : Launch} {ly : Ly} {M : Mm} {Q : Qt} {i dep ca sa : Nat} {v5 v6 : Option Value} (hdep : 140 + 1 ≤ dep) (hi : i + 6 ≤ G.2.2.2.2.1) (hL : G.2.2.2.2.1 ≤ 3072) (hI : INV ly M) (k : ∀ K : Mm, INV ly K → Rn G l mL_law (dep, ca, sa, false) 1507 [some (.float 0), some (.ref 0), some (.ref 149), some (.ref 196), some (.int (nI i)), v5, v6] [] ly K Q) : Rn G l mL_law (dep, ca, sa, false) 676 [some (.float 0), some (.ref 0), some (.ref 149), some (.ref 196), some (.int (nI i)), v5, v6] [] ly M Q := by
  refine Rn.aload_n dL_law_676 rfl ?_
  refine Rn.argS (k := 1) dL_law_677 dL_law_678 dL_law_680 dL_law_681 dL_law_682 (by decide) rfl rfl (by omega) hL ?_
  refine Rn.argS (k := 2) dL_law_683 dL_law_684 dL_law_686 dL_law_687 dL_law_688 (by decide) rfl rfl (by omega) hL ?_
  refine Rn.callV2 dL_law_689 vL_80 hI.o0 (by decide) rfl (pr_strike hI) hdep ⟨(Nat.le_of_ble_eq_true rfl), (Nat.le_of_ble_eq_true rfl), (Nat.le_of_ble_eq_true rfl)⟩ (fun h => by cases h) (fun w1 l1 N ⟨q1, r, q2, h2⟩ => ?_)
  rw [q1, q2]
  refine Rn.aload_n dL_law_692 rfl ?_
  refine Rn.argS (k := 1) dL_law_693 dL_law_694 dL_law_696 dL_law_697 dL_law_698 (by decide) rfl rfl (by omega) hL ?_
  refine Rn.argS (k := 2) dL_law_699 dL_law_700 dL_law_702 dL_law_703 dL_law_704 (by decide) rfl rfl (by omega) hL ?_
  refine Rn.callV2 dL_law_705 vL_83 hI.o1 (by decide) rfl h2 hdep ⟨(Nat.le_of_ble_eq_true rfl), (Nat.le_of_ble_eq_true rfl), (Nat.le_of_ble_eq_true rfl)⟩ (fun h => by cases h) (fun w2 l2 K ⟨q3, q4, hK⟩ => ?_)
  rw [q3, q4]
  exact Rn.icmp_eq dL_law_708 (fun _ => k K hK) (fun h => absurd rfl h)
theorem sL_high {G : Gx} {l : Launch} {ly : Ly} {M : Mm} {Q : Qt} {i dep ca sa : Nat} {v5 v6 : Option Value} (hdep : 140 + 1 ≤ dep) (hi : i + 6 ≤ G.2.2.2.2.1) (hL : G.2.2.2.2.1 ≤ 3072) (hI : INV ly M) (k : ∀ K : Mm, INV ly K → Rn G l mL_law (dep, ca, sa, false) 1507 [some (.float 0), some (.ref 0), some (.ref 149), some (.ref 196), some (.int (nI i)), v5, v6] [] ly K Q) : Rn G l mL_law (dep, ca, sa, false) 713 [some (.float 0), some (.ref 0), some (.ref 149), some (.ref 196), some (.int (nI i)), v5, v6] [] ly M Q := by
  refine Rn.aload_n dL_law_713 rfl ?_
  refine Rn.argS (k := 1) dL_law_714 dL_law_715 dL_law_717 dL_law_718 dL_law_719 (by decide) rfl rfl (by omega) hL ?_
  refine Rn.callV1 dL_law_720 vL_84 hI.o0 (by decide) rfl (pr_high hI) hdep ⟨(Nat.le_of_ble_eq_true rfl), (Nat.le_of_ble_eq_true rfl), (Nat.le_of_ble_eq_true rfl)⟩ (fun h => by cases h) (fun w1 l1 N ⟨q1, r, q2, h2⟩ => ?_)
  rw [q1, q2]
  refine Rn.aload_n dL_law_723 rfl ?_
  refine Rn.argS (k := 1) dL_law_724 dL_law_725 dL_law_727 dL_law_728 dL_law_729 (by decide) rfl rfl (by omega) hL ?_
  refine Rn.callV1 dL_law_730 vL_87 hI.o1 (by decide) rfl h2 hdep ⟨(Nat.le_of_ble_eq_true rfl), (Nat.le_of_ble_eq_true rfl), (Nat.le_of_ble_eq_true rfl)⟩ (fun h => by cases h) (fun w2 l2 K ⟨q3, q4, hK⟩ => ?_)
  rw [q3, q4]
  exact Rn.icmp_eq dL_law_733 (fun _ => k K hK) (fun h => absurd rfl h)
theorem sL_creaks {G : Gx} {l : Launch} {ly : Ly} {M : Mm} {Q : Qt} {i dep ca sa : Nat} {v5 v6 : Option Value} (hdep : 140 + 1 ≤ dep) (hi : i + 6 ≤ G.2.2.2.2.1) (hL : G.2.2.2.2.1 ≤ 3072) (hI : INV ly M) (k : ∀ K : Mm, INV ly K → Rn G l mL_law (dep, ca, sa, false) 1507 [some (.float 0), some (.ref 0), some (.ref 149), some (.ref 196), some (.int (nI i)), v5, v6] [] ly K Q) : Rn G l mL_law (dep, ca, sa, false) 738 [some (.float 0), some (.ref 0), some (.ref 149), some (.ref 196), some (.int (nI i)), v5, v6] [] ly M Q := by
  refine Rn.aload_n dL_law_738 rfl ?_
  refine Rn.argS (k := 1) dL_law_739 dL_law_740 dL_law_742 dL_law_743 dL_law_744 (by decide) rfl rfl (by omega) hL ?_
  refine Rn.callV1 dL_law_745 vL_88 hI.o0 (by decide) rfl (pr_creaks hI) hdep ⟨(Nat.le_of_ble_eq_true rfl), (Nat.le_of_ble_eq_true rfl), (Nat.le_of_ble_eq_true rfl)⟩ (fun h => by cases h) (fun w1 l1 N ⟨q1, r, q2, h2⟩ => ?_)
  rw [q1, q2]
  refine Rn.aload_n dL_law_748 rfl ?_
  refine Rn.argS (k := 1) dL_law_749 dL_law_750 dL_law_752 dL_law_753 dL_law_754 (by decide) rfl rfl (by omega) hL ?_
  refine Rn.callV1 dL_law_755 vL_91 hI.o1 (by decide) rfl h2 hdep ⟨(Nat.le_of_ble_eq_true rfl), (Nat.le_of_ble_eq_true rfl), (Nat.le_of_ble_eq_true rfl)⟩ (fun h => by cases h) (fun w2 l2 K ⟨q3, q4, hK⟩ => ?_)
  rw [q3, q4]
  exact Rn.icmp_eq dL_law_758 (fun _ => k K hK) (fun h => absurd rfl h)
theorem sL_lies {G : Gx} {l : Launch} {ly : Ly} {M : Mm} {Q : Qt} {i dep ca sa : Nat} {v5 v6 : Option Value} (hdep : 140 + 1 ≤ dep) (hi : i + 6 ≤ G.2.2.2.2.1) (hL : G.2.2.2.2.1 ≤ 3072) (hI : INV ly M) (k : ∀ K : Mm, INV ly K → Rn G l mL_law (dep, ca, sa, false) 1507 [some (.float 0), some (.ref 0), some (.ref 149), some (.ref 196), some (.int (nI i)), v5, v6] [] ly K Q) : Rn G l mL_law (dep, ca, sa, false) 763 [some (.float 0), some (.ref 0), some (.ref 149), some (.ref 196), some (.int (nI i)), v5, v6] [] ly M Q := by
  refine Rn.aload_n dL_law_763 rfl ?_
  refine Rn.argS (k := 1) dL_law_764 dL_law_765 dL_law_767 dL_law_768 dL_law_769 (by decide) rfl rfl (by omega) hL ?_
  refine Rn.argS (k := 2) dL_law_770 dL_law_771 dL_law_773 dL_law_774 dL_law_775 (by decide) rfl rfl (by omega) hL ?_
  refine Rn.argS (k := 3) dL_law_776 dL_law_777 dL_law_779 dL_law_780 dL_law_781 (by decide) rfl rfl (by omega) hL ?_
  refine Rn.argS (k := 4) dL_law_782 dL_law_783 dL_law_785 dL_law_786 dL_law_787 (by decide) rfl rfl (by omega) hL ?_
  refine Rn.callV4 dL_law_788 vL_92 hI.o0 (by decide) rfl (pr_lies hI) hdep ⟨(Nat.le_of_ble_eq_true rfl), (Nat.le_of_ble_eq_true rfl), (Nat.le_of_ble_eq_true rfl)⟩ (fun h => by cases h) (fun w1 l1 N ⟨q1, r, q2, h2⟩ => ?_)
  rw [q1, q2]
  refine Rn.aload_n dL_law_791 rfl ?_
  refine Rn.argS (k := 1) dL_law_792 dL_law_793 dL_law_795 dL_law_796 dL_law_797 (by decide) rfl rfl (by omega) hL ?_
  refine Rn.argS (k := 2) dL_law_798 dL_law_799 dL_law_801 dL_law_802 dL_law_803 (by decide) rfl rfl (by omega) hL ?_
  refine Rn.argS (k := 3) dL_law_804 dL_law_805 dL_law_807 dL_law_808 dL_law_809 (by decide) rfl rfl (by omega) hL ?_
  refine Rn.argS (k := 4) dL_law_810 dL_law_811 dL_law_813 dL_law_814 dL_law_815 (by decide) rfl rfl (by omega) hL ?_
  refine Rn.callV4 dL_law_816 vL_96 hI.o1 (by decide) rfl h2 hdep ⟨(Nat.le_of_ble_eq_true rfl), (Nat.le_of_ble_eq_true rfl), (Nat.le_of_ble_eq_true rfl)⟩ (fun h => by cases h) (fun w2 l2 K ⟨q3, q4, hK⟩ => ?_)
  rw [q3, q4]
  exact Rn.icmp_eq dL_law_819 (fun _ => k K hK) (fun h => absurd rfl h)
theorem sL_fewest {G : Gx} {l : Launch} {ly : Ly} {M : Mm} {Q : Qt} {i dep ca sa : Nat} {v5 v6 : Option Value} (hdep : 140 + 1 ≤ dep) (hi : i + 6 ≤ G.2.2.2.2.1) (hL : G.2.2.2.2.1 ≤ 3072) (hI : INV ly M) (k : ∀ K : Mm, INV ly K → Rn G l mL_law (dep, ca, sa, false) 1507 [some (.float 0), some (.ref 0), some (.ref 149), some (.ref 196), some (.int (nI i)), v5, v6] [] ly K Q) : Rn G l mL_law (dep, ca, sa, false) 824 [some (.float 0), some (.ref 0), some (.ref 149), some (.ref 196), some (.int (nI i)), v5, v6] [] ly M Q := by
  refine Rn.aload_n dL_law_824 rfl ?_
  refine Rn.argS (k := 1) dL_law_825 dL_law_826 dL_law_828 dL_law_829 dL_law_830 (by decide) rfl rfl (by omega) hL ?_
  refine Rn.argS (k := 2) dL_law_831 dL_law_832 dL_law_834 dL_law_835 dL_law_836 (by decide) rfl rfl (by omega) hL ?_
  refine Rn.argS (k := 3) dL_law_837 dL_law_838 dL_law_840 dL_law_841 dL_law_842 (by decide) rfl rfl (by omega) hL ?_
  refine Rn.callV3 dL_law_843 vL_97 hI.o0 (by decide) rfl (pr_fewest hI) hdep ⟨(Nat.le_of_ble_eq_true rfl), (Nat.le_of_ble_eq_true rfl), (Nat.le_of_ble_eq_true rfl)⟩ (fun h => by cases h) (fun w1 l1 N ⟨q1, r, q2, h2⟩ => ?_)
  rw [q1, q2]
  refine Rn.aload_n dL_law_846 rfl ?_
  refine Rn.argS (k := 1) dL_law_847 dL_law_848 dL_law_850 dL_law_851 dL_law_852 (by decide) rfl rfl (by omega) hL ?_
  refine Rn.argS (k := 2) dL_law_853 dL_law_854 dL_law_856 dL_law_857 dL_law_858 (by decide) rfl rfl (by omega) hL ?_
  refine Rn.argS (k := 3) dL_law_859 dL_law_860 dL_law_862 dL_law_863 dL_law_864 (by decide) rfl rfl (by omega) hL ?_
  refine Rn.callV3 dL_law_865 vL_101 hI.o1 (by decide) rfl h2 hdep ⟨(Nat.le_of_ble_eq_true rfl), (Nat.le_of_ble_eq_true rfl), (Nat.le_of_ble_eq_true rfl)⟩ (fun h => by cases h) (fun w2 l2 K ⟨q3, q4, hK⟩ => ?_)
  rw [q3, q4]
  exact Rn.icmp_eq dL_law_868 (fun _ => k K hK) (fun h => absurd rfl h)
theorem sL_forbidden {G : Gx} {l : Launch} {ly : Ly} {M : Mm} {Q : Qt} {i dep ca sa : Nat} {v5 v6 : Option Value} (hdep : 140 + 1 ≤ dep) (hi : i + 6 ≤ G.2.2.2.2.1) (hL : G.2.2.2.2.1 ≤ 3072) (hI : INV ly M) (k : ∀ K : Mm, INV ly K → Rn G l mL_law (dep, ca, sa, false) 1507 [some (.float 0), some (.ref 0), some (.ref 149), some (.ref 196), some (.int (nI i)), v5, v6] [] ly K Q) : Rn G l mL_law (dep, ca, sa, false) 873 [some (.float 0), some (.ref 0), some (.ref 149), some (.ref 196), some (.int (nI i)), v5, v6] [] ly M Q := by
  refine Rn.aload_n dL_law_873 rfl ?_
  refine Rn.argS (k := 1) dL_law_874 dL_law_875 dL_law_877 dL_law_878 dL_law_879 (by decide) rfl rfl (by omega) hL ?_
  refine Rn.argS (k := 2) dL_law_880 dL_law_881 dL_law_883 dL_law_884 dL_law_885 (by decide) rfl rfl (by omega) hL ?_
  refine Rn.argS (k := 3) dL_law_886 dL_law_887 dL_law_889 dL_law_890 dL_law_891 (by decide) rfl rfl (by omega) hL ?_
  refine Rn.callV3 dL_law_892 vL_102 hI.o0 (by decide) rfl (pr_forbidden hI) hdep ⟨(Nat.le_of_ble_eq_true rfl), (Nat.le_of_ble_eq_true rfl), (Nat.le_of_ble_eq_true rfl)⟩ (fun h => by cases h) (fun w1 l1 N ⟨q1, r, q2, h2⟩ => ?_)
  rw [q1, q2]
  refine Rn.aload_n dL_law_895 rfl ?_
  refine Rn.argS (k := 1) dL_law_896 dL_law_897 dL_law_899 dL_law_900 dL_law_901 (by decide) rfl rfl (by omega) hL ?_
  refine Rn.argS (k := 2) dL_law_902 dL_law_903 dL_law_905 dL_law_906 dL_law_907 (by decide) rfl rfl (by omega) hL ?_
  refine Rn.argS (k := 3) dL_law_908 dL_law_909 dL_law_911 dL_law_912 dL_law_913 (by decide) rfl rfl (by omega) hL ?_
  refine Rn.callV3 dL_law_914 vL_105 hI.o1 (by decide) rfl h2 hdep ⟨(Nat.le_of_ble_eq_true rfl), (Nat.le_of_ble_eq_true rfl), (Nat.le_of_ble_eq_true rfl)⟩ (fun h => by cases h) (fun w2 l2 K ⟨q3, q4, hK⟩ => ?_)
  rw [q3, q4]
  exact Rn.icmp_eq dL_law_917 (fun _ => k K hK) (fun h => absurd rfl h)
theorem sL_cancel {G : Gx} {l : Launch} {ly : Ly} {M : Mm} {Q : Qt} {i dep ca sa : Nat} {v5 v6 : Option Value} (hdep : 140 + 1 ≤ dep) (hi : i + 6 ≤ G.2.2.2.2.1) (hL : G.2.2.2.2.1 ≤ 3072) (hI : INV ly M) (k : ∀ K : Mm, INV ly K → Rn G l mL_law (dep, ca, sa, false) 1507 [some (.float 0), some (.ref 0), some (.ref 149), some (.ref 196), some (.int (nI i)), v5, v6] [] ly K Q) : Rn G l mL_law (dep, ca, sa, false) 922 [some (.float 0), some (.ref 0), some (.ref 149), some (.ref 196), some (.int (nI i)), v5, v6] [] ly M Q := by
  refine Rn.aload_n dL_law_922 rfl ?_
  refine Rn.argS (k := 1) dL_law_923 dL_law_924 dL_law_926 dL_law_927 dL_law_928 (by decide) rfl rfl (by omega) hL ?_
  refine Rn.argS (k := 2) dL_law_929 dL_law_930 dL_law_932 dL_law_933 dL_law_934 (by decide) rfl rfl (by omega) hL ?_
  refine Rn.argS (k := 3) dL_law_935 dL_law_936 dL_law_938 dL_law_939 dL_law_940 (by decide) rfl rfl (by omega) hL ?_
  refine Rn.callV3 dL_law_941 vL_106 hI.o0 (by decide) rfl (pr_cancel hI) hdep ⟨(Nat.le_of_ble_eq_true rfl), (Nat.le_of_ble_eq_true rfl), (Nat.le_of_ble_eq_true rfl)⟩ (fun h => by cases h) (fun w1 l1 N ⟨q1, r, q2, h2⟩ => ?_)
  rw [q1, q2]
  refine Rn.aload_n dL_law_944 rfl ?_
  refine Rn.argS (k := 1) dL_law_945 dL_law_946 dL_law_948 dL_law_949 dL_law_950 (by decide) rfl rfl (by omega) hL ?_
  refine Rn.argS (k := 2) dL_law_951 dL_law_952 dL_law_954 dL_law_955 dL_law_956 (by decide) rfl rfl (by omega) hL ?_
  refine Rn.argS (k := 3) dL_law_957 dL_law_958 dL_law_960 dL_law_961 dL_law_962 (by decide) rfl rfl (by omega) hL ?_
  refine Rn.callV3 dL_law_963 vL_109 hI.o1 (by decide) rfl h2 hdep ⟨(Nat.le_of_ble_eq_true rfl), (Nat.le_of_ble_eq_true rfl), (Nat.le_of_ble_eq_true rfl)⟩ (fun h => by cases h) (fun w2 l2 K ⟨q3, q4, hK⟩ => ?_)
  rw [q3, q4]
  exact Rn.icmp_eq dL_law_966 (fun _ => k K hK) (fun h => absurd rfl h)
theorem sL_owes {G : Gx} {l : Launch} {ly : Ly} {M : Mm} {Q : Qt} {i dep ca sa : Nat} {v5 v6 : Option Value} (hdep : 140 + 1 ≤ dep) (hi : i + 6 ≤ G.2.2.2.2.1) (hL : G.2.2.2.2.1 ≤ 3072) (hI : INV ly M) (k : ∀ K : Mm, INV ly K → Rn G l mL_law (dep, ca, sa, false) 1507 [some (.float 0), some (.ref 0), some (.ref 149), some (.ref 196), some (.int (nI i)), v5, v6] [] ly K Q) : Rn G l mL_law (dep, ca, sa, false) 971 [some (.float 0), some (.ref 0), some (.ref 149), some (.ref 196), some (.int (nI i)), v5, v6] [] ly M Q := by
  refine Rn.aload_n dL_law_971 rfl ?_
  refine Rn.argS (k := 1) dL_law_972 dL_law_973 dL_law_975 dL_law_976 dL_law_977 (by decide) rfl rfl (by omega) hL ?_
  refine Rn.argS (k := 2) dL_law_978 dL_law_979 dL_law_981 dL_law_982 dL_law_983 (by decide) rfl rfl (by omega) hL ?_
  refine Rn.callV2 dL_law_984 vL_110 hI.o0 (by decide) rfl (pr_owes hI) hdep ⟨(Nat.le_of_ble_eq_true rfl), (Nat.le_of_ble_eq_true rfl), (Nat.le_of_ble_eq_true rfl)⟩ (fun h => by cases h) (fun w1 l1 N ⟨q1, r, q2, h2⟩ => ?_)
  rw [q1, q2]
  refine Rn.aload_n dL_law_987 rfl ?_
  refine Rn.argS (k := 1) dL_law_988 dL_law_989 dL_law_991 dL_law_992 dL_law_993 (by decide) rfl rfl (by omega) hL ?_
  refine Rn.argS (k := 2) dL_law_994 dL_law_995 dL_law_997 dL_law_998 dL_law_999 (by decide) rfl rfl (by omega) hL ?_
  refine Rn.callV2 dL_law_1000 vL_113 hI.o1 (by decide) rfl h2 hdep ⟨(Nat.le_of_ble_eq_true rfl), (Nat.le_of_ble_eq_true rfl), (Nat.le_of_ble_eq_true rfl)⟩ (fun h => by cases h) (fun w2 l2 K ⟨q3, q4, hK⟩ => ?_)
  rw [q3, q4]
  exact Rn.icmp_eq dL_law_1003 (fun _ => k K hK) (fun h => absurd rfl h)
theorem sL_pump {G : Gx} {l : Launch} {ly : Ly} {M : Mm} {Q : Qt} {i dep ca sa : Nat} {v5 v6 : Option Value} (hdep : 140 + 1 ≤ dep) (hi : i + 6 ≤ G.2.2.2.2.1) (hL : G.2.2.2.2.1 ≤ 3072) (hI : INV ly M) (k : ∀ K : Mm, INV ly K → Rn G l mL_law (dep, ca, sa, false) 1507 [some (.float 0), some (.ref 0), some (.ref 149), some (.ref 196), some (.int (nI i)), v5, v6] [] ly K Q) : Rn G l mL_law (dep, ca, sa, false) 1008 [some (.float 0), some (.ref 0), some (.ref 149), some (.ref 196), some (.int (nI i)), v5, v6] [] ly M Q := by
  refine Rn.aload_n dL_law_1008 rfl ?_
  refine Rn.argS (k := 1) dL_law_1009 dL_law_1010 dL_law_1012 dL_law_1013 dL_law_1014 (by decide) rfl rfl (by omega) hL ?_
  refine Rn.argS (k := 2) dL_law_1015 dL_law_1016 dL_law_1018 dL_law_1019 dL_law_1020 (by decide) rfl rfl (by omega) hL ?_
  refine Rn.argS (k := 3) dL_law_1021 dL_law_1022 dL_law_1024 dL_law_1025 dL_law_1026 (by decide) rfl rfl (by omega) hL ?_
  refine Rn.argS (k := 4) dL_law_1027 dL_law_1028 dL_law_1030 dL_law_1031 dL_law_1032 (by decide) rfl rfl (by omega) hL ?_
  refine Rn.callV4 dL_law_1033 vL_114 hI.o0 (by decide) rfl (pr_pump hI) hdep ⟨(Nat.le_of_ble_eq_true rfl), (Nat.le_of_ble_eq_true rfl), (Nat.le_of_ble_eq_true rfl)⟩ (fun h => by cases h) (fun w1 l1 N ⟨q1, r, q2, h2⟩ => ?_)
  rw [q1, q2]
  refine Rn.aload_n dL_law_1036 rfl ?_
  refine Rn.argS (k := 1) dL_law_1037 dL_law_1038 dL_law_1040 dL_law_1041 dL_law_1042 (by decide) rfl rfl (by omega) hL ?_
  refine Rn.argS (k := 2) dL_law_1043 dL_law_1044 dL_law_1046 dL_law_1047 dL_law_1048 (by decide) rfl rfl (by omega) hL ?_
  refine Rn.argS (k := 3) dL_law_1049 dL_law_1050 dL_law_1052 dL_law_1053 dL_law_1054 (by decide) rfl rfl (by omega) hL ?_
  refine Rn.argS (k := 4) dL_law_1055 dL_law_1056 dL_law_1058 dL_law_1059 dL_law_1060 (by decide) rfl rfl (by omega) hL ?_
  refine Rn.callV4 dL_law_1061 vL_117 hI.o1 (by decide) rfl h2 hdep ⟨(Nat.le_of_ble_eq_true rfl), (Nat.le_of_ble_eq_true rfl), (Nat.le_of_ble_eq_true rfl)⟩ (fun h => by cases h) (fun w2 l2 K ⟨q3, q4, hK⟩ => ?_)
  rw [q3, q4]
  exact Rn.icmp_eq dL_law_1064 (fun _ => k K hK) (fun h => absurd rfl h)
theorem sL_keeper {G : Gx} {l : Launch} {ly : Ly} {M : Mm} {Q : Qt} {i dep ca sa : Nat} {v5 v6 : Option Value} (hdep : 140 + 1 ≤ dep) (hi : i + 6 ≤ G.2.2.2.2.1) (hL : G.2.2.2.2.1 ≤ 3072) (hI : INV ly M) (k : ∀ K : Mm, INV ly K → Rn G l mL_law (dep, ca, sa, false) 1507 [some (.float 0), some (.ref 0), some (.ref 149), some (.ref 196), some (.int (nI i)), v5, v6] [] ly K Q) : Rn G l mL_law (dep, ca, sa, false) 1069 [some (.float 0), some (.ref 0), some (.ref 149), some (.ref 196), some (.int (nI i)), v5, v6] [] ly M Q := by
  refine Rn.aload_n dL_law_1069 rfl ?_
  refine Rn.argS (k := 1) dL_law_1070 dL_law_1071 dL_law_1073 dL_law_1074 dL_law_1075 (by decide) rfl rfl (by omega) hL ?_
  refine Rn.argS (k := 2) dL_law_1076 dL_law_1077 dL_law_1079 dL_law_1080 dL_law_1081 (by decide) rfl rfl (by omega) hL ?_
  refine Rn.argS (k := 3) dL_law_1082 dL_law_1083 dL_law_1085 dL_law_1086 dL_law_1087 (by decide) rfl rfl (by omega) hL ?_
  refine Rn.argS (k := 4) dL_law_1088 dL_law_1089 dL_law_1091 dL_law_1092 dL_law_1093 (by decide) rfl rfl (by omega) hL ?_
  refine Rn.argS (k := 5) dL_law_1094 dL_law_1095 dL_law_1097 dL_law_1098 dL_law_1099 (by decide) rfl rfl (by omega) hL ?_
  refine Rn.callV5 dL_law_1100 vL_118 hI.o0 (by decide) rfl (pr_keeper hI) hdep ⟨(Nat.le_of_ble_eq_true rfl), (Nat.le_of_ble_eq_true rfl), (Nat.le_of_ble_eq_true rfl)⟩ (fun h => by cases h) (fun w1 l1 N ⟨q1, r, q2, h2⟩ => ?_)
  rw [q1, q2]
  refine Rn.aload_n dL_law_1103 rfl ?_
  refine Rn.argS (k := 1) dL_law_1104 dL_law_1105 dL_law_1107 dL_law_1108 dL_law_1109 (by decide) rfl rfl (by omega) hL ?_
  refine Rn.argS (k := 2) dL_law_1110 dL_law_1111 dL_law_1113 dL_law_1114 dL_law_1115 (by decide) rfl rfl (by omega) hL ?_
  refine Rn.argS (k := 3) dL_law_1116 dL_law_1117 dL_law_1119 dL_law_1120 dL_law_1121 (by decide) rfl rfl (by omega) hL ?_
  refine Rn.argS (k := 4) dL_law_1122 dL_law_1123 dL_law_1125 dL_law_1126 dL_law_1127 (by decide) rfl rfl (by omega) hL ?_
  refine Rn.argS (k := 5) dL_law_1128 dL_law_1129 dL_law_1131 dL_law_1132 dL_law_1133 (by decide) rfl rfl (by omega) hL ?_
  refine Rn.callV5 dL_law_1134 vL_121 hI.o1 (by decide) rfl h2 hdep ⟨(Nat.le_of_ble_eq_true rfl), (Nat.le_of_ble_eq_true rfl), (Nat.le_of_ble_eq_true rfl)⟩ (fun h => by cases h) (fun w2 l2 K ⟨q3, q4, hK⟩ => ?_)
  rw [q3, q4]
  exact Rn.icmp_eq dL_law_1137 (fun _ => k K hK) (fun h => absurd rfl h)
theorem sL_groan {G : Gx} {l : Launch} {ly : Ly} {M : Mm} {Q : Qt} {i dep ca sa : Nat} {v5 v6 : Option Value} (hdep : 140 + 1 ≤ dep) (hi : i + 6 ≤ G.2.2.2.2.1) (hL : G.2.2.2.2.1 ≤ 3072) (hI : INV ly M) (k : ∀ K : Mm, INV ly K → Rn G l mL_law (dep, ca, sa, false) 1507 [some (.float 0), some (.ref 0), some (.ref 149), some (.ref 196), some (.int (nI i)), v5, v6] [] ly K Q) : Rn G l mL_law (dep, ca, sa, false) 1142 [some (.float 0), some (.ref 0), some (.ref 149), some (.ref 196), some (.int (nI i)), v5, v6] [] ly M Q := by
  by_cases g : G.2.2.2.2.2 (i + 4) = 0
  · skip
    refine Rn.aload_n dL_law_1142 rfl ?_
    refine Rn.argS (k := 1) dL_law_1143 dL_law_1144 dL_law_1146 dL_law_1147 dL_law_1148 (by decide) rfl rfl (by omega) hL ?_
    refine Rn.argS (k := 2) dL_law_1149 dL_law_1150 dL_law_1152 dL_law_1153 dL_law_1154 (by decide) rfl rfl (by omega) hL ?_
    refine Rn.argS (k := 3) dL_law_1155 dL_law_1156 dL_law_1158 dL_law_1159 dL_law_1160 (by decide) rfl rfl (by omega) hL ?_
    refine Rn.argS (k := 4) dL_law_1161 dL_law_1162 dL_law_1164 dL_law_1165 dL_law_1166 (by decide) rfl rfl (by omega) hL ?_
    refine Rn.if_eq dL_law_1167 (fun _ => ?_) (fun h => absurd g h)
    refine Rn.iconstv (v := 0) dL_law_1174 ic_0 ?_
    refine Rn.callV4 dL_law_1175 vL_122 hI.o0 (by decide) rfl (pr_groan (Or.inl rfl) hI) hdep ⟨(Nat.le_of_ble_eq_true rfl), (Nat.le_of_ble_eq_true rfl), (Nat.le_of_ble_eq_true rfl)⟩ (fun h => by cases h) (fun w1 l1 N ⟨q1, r, q2, h2⟩ => ?_)
    rw [q1, q2]
    refine Rn.aload_n dL_law_1178 rfl ?_
    refine Rn.argS (k := 1) dL_law_1179 dL_law_1180 dL_law_1182 dL_law_1183 dL_law_1184 (by decide) rfl rfl (by omega) hL ?_
    refine Rn.argS (k := 2) dL_law_1185 dL_law_1186 dL_law_1188 dL_law_1189 dL_law_1190 (by decide) rfl rfl (by omega) hL ?_
    refine Rn.argS (k := 3) dL_law_1191 dL_law_1192 dL_law_1194 dL_law_1195 dL_law_1196 (by decide) rfl rfl (by omega) hL ?_
    refine Rn.argS (k := 4) dL_law_1197 dL_law_1198 dL_law_1200 dL_law_1201 dL_law_1202 (by decide) rfl rfl (by omega) hL ?_
    refine Rn.if_eq dL_law_1203 (fun _ => ?_) (fun h => absurd g h)
    refine Rn.iconstv (v := 0) dL_law_1210 ic_0 ?_
    refine Rn.callV4 dL_law_1211 vL_126 hI.o1 (by decide) rfl h2 hdep ⟨(Nat.le_of_ble_eq_true rfl), (Nat.le_of_ble_eq_true rfl), (Nat.le_of_ble_eq_true rfl)⟩ (fun h => by cases h) (fun w2 l2 K ⟨q3, q4, hK⟩ => ?_)
    rw [q3, q4]
    exact Rn.icmp_eq dL_law_1214 (fun _ => k K hK) (fun h => absurd rfl h)
  · skip
    refine Rn.aload_n dL_law_1142 rfl ?_
    refine Rn.argS (k := 1) dL_law_1143 dL_law_1144 dL_law_1146 dL_law_1147 dL_law_1148 (by decide) rfl rfl (by omega) hL ?_
    refine Rn.argS (k := 2) dL_law_1149 dL_law_1150 dL_law_1152 dL_law_1153 dL_law_1154 (by decide) rfl rfl (by omega) hL ?_
    refine Rn.argS (k := 3) dL_law_1155 dL_law_1156 dL_law_1158 dL_law_1159 dL_law_1160 (by decide) rfl rfl (by omega) hL ?_
    refine Rn.argS (k := 4) dL_law_1161 dL_law_1162 dL_law_1164 dL_law_1165 dL_law_1166 (by decide) rfl rfl (by omega) hL ?_
    refine Rn.if_eq dL_law_1167 (fun h => absurd h g) (fun _ => ?_)
    refine Rn.iconstv (v := 1) dL_law_1170 ic_1 ?_
    refine Rn.goto dL_law_1171 ?_
    refine Rn.callV4 dL_law_1175 vL_122 hI.o0 (by decide) rfl (pr_groan (Or.inr rfl) hI) hdep ⟨(Nat.le_of_ble_eq_true rfl), (Nat.le_of_ble_eq_true rfl), (Nat.le_of_ble_eq_true rfl)⟩ (fun h => by cases h) (fun w1 l1 N ⟨q1, r, q2, h2⟩ => ?_)
    rw [q1, q2]
    refine Rn.aload_n dL_law_1178 rfl ?_
    refine Rn.argS (k := 1) dL_law_1179 dL_law_1180 dL_law_1182 dL_law_1183 dL_law_1184 (by decide) rfl rfl (by omega) hL ?_
    refine Rn.argS (k := 2) dL_law_1185 dL_law_1186 dL_law_1188 dL_law_1189 dL_law_1190 (by decide) rfl rfl (by omega) hL ?_
    refine Rn.argS (k := 3) dL_law_1191 dL_law_1192 dL_law_1194 dL_law_1195 dL_law_1196 (by decide) rfl rfl (by omega) hL ?_
    refine Rn.argS (k := 4) dL_law_1197 dL_law_1198 dL_law_1200 dL_law_1201 dL_law_1202 (by decide) rfl rfl (by omega) hL ?_
    refine Rn.if_eq dL_law_1203 (fun h => absurd h g) (fun _ => ?_)
    refine Rn.iconstv (v := 1) dL_law_1206 ic_1 ?_
    refine Rn.goto dL_law_1207 ?_
    refine Rn.callV4 dL_law_1211 vL_126 hI.o1 (by decide) rfl h2 hdep ⟨(Nat.le_of_ble_eq_true rfl), (Nat.le_of_ble_eq_true rfl), (Nat.le_of_ble_eq_true rfl)⟩ (fun h => by cases h) (fun w2 l2 K ⟨q3, q4, hK⟩ => ?_)
    rw [q3, q4]
    exact Rn.icmp_eq dL_law_1214 (fun _ => k K hK) (fun h => absurd rfl h)
theorem sL_unsay {G : Gx} {l : Launch} {ly : Ly} {M : Mm} {Q : Qt} {i dep ca sa : Nat} {v5 v6 : Option Value} (hdep : 140 + 1 ≤ dep) (hi : i + 6 ≤ G.2.2.2.2.1) (hL : G.2.2.2.2.1 ≤ 3072) (hI : INV ly M) (k : ∀ K : Mm, INV ly K → Rn G l mL_law (dep, ca, sa, false) 1507 [some (.float 0), some (.ref 0), some (.ref 149), some (.ref 196), some (.int (nI i)), v5, v6] [] ly K Q) : Rn G l mL_law (dep, ca, sa, false) 1219 [some (.float 0), some (.ref 0), some (.ref 149), some (.ref 196), some (.int (nI i)), v5, v6] [] ly M Q := by
  refine Rn.aload_n dL_law_1219 rfl ?_
  refine Rn.argS (k := 1) dL_law_1220 dL_law_1221 dL_law_1223 dL_law_1224 dL_law_1225 (by decide) rfl rfl (by omega) hL ?_
  refine Rn.callV1 dL_law_1226 vL_127 hI.o0 (by decide) rfl (pr_unsay hI) hdep ⟨(Nat.le_of_ble_eq_true rfl), (Nat.le_of_ble_eq_true rfl), (Nat.le_of_ble_eq_true rfl)⟩ (fun h => by cases h) (fun w1 l1 N ⟨q1, r, q2, h2⟩ => ?_)
  rw [q1, q2]
  refine Rn.aload_n dL_law_1229 rfl ?_
  refine Rn.argS (k := 1) dL_law_1230 dL_law_1231 dL_law_1233 dL_law_1234 dL_law_1235 (by decide) rfl rfl (by omega) hL ?_
  refine Rn.callV1 dL_law_1236 vL_130 hI.o1 (by decide) rfl h2 hdep ⟨(Nat.le_of_ble_eq_true rfl), (Nat.le_of_ble_eq_true rfl), (Nat.le_of_ble_eq_true rfl)⟩ (fun h => by cases h) (fun w2 l2 K ⟨q3, q4, hK⟩ => ?_)
  rw [q3, q4]
  exact Rn.icmp_eq dL_law_1239 (fun _ => k K hK) (fun h => absurd rfl h)
theorem sL_known {G : Gx} {l : Launch} {ly : Ly} {M : Mm} {Q : Qt} {i dep ca sa : Nat} {v5 v6 : Option Value} (hdep : 140 + 1 ≤ dep) (hi : i + 6 ≤ G.2.2.2.2.1) (hL : G.2.2.2.2.1 ≤ 3072) (hI : INV ly M) (k : ∀ K : Mm, INV ly K → Rn G l mL_law (dep, ca, sa, false) 1507 [some (.float 0), some (.ref 0), some (.ref 149), some (.ref 196), some (.int (nI i)), v5, v6] [] ly K Q) : Rn G l mL_law (dep, ca, sa, false) 1244 [some (.float 0), some (.ref 0), some (.ref 149), some (.ref 196), some (.int (nI i)), v5, v6] [] ly M Q := by
  refine Rn.aload_n dL_law_1244 rfl ?_
  refine Rn.argS (k := 1) dL_law_1245 dL_law_1246 dL_law_1248 dL_law_1249 dL_law_1250 (by decide) rfl rfl (by omega) hL ?_
  refine Rn.callV1 dL_law_1251 vL_131 hI.o0 (by decide) rfl (pr_known hI) hdep ⟨(Nat.le_of_ble_eq_true rfl), (Nat.le_of_ble_eq_true rfl), (Nat.le_of_ble_eq_true rfl)⟩ (fun h => by cases h) (fun w1 l1 N ⟨q1, r, q2, h2⟩ => ?_)
  rw [q1, q2]
  refine Rn.aload_n dL_law_1254 rfl ?_
  refine Rn.argS (k := 1) dL_law_1255 dL_law_1256 dL_law_1258 dL_law_1259 dL_law_1260 (by decide) rfl rfl (by omega) hL ?_
  refine Rn.callV1 dL_law_1261 vL_134 hI.o1 (by decide) rfl h2 hdep ⟨(Nat.le_of_ble_eq_true rfl), (Nat.le_of_ble_eq_true rfl), (Nat.le_of_ble_eq_true rfl)⟩ (fun h => by cases h) (fun w2 l2 K ⟨q3, q4, hK⟩ => ?_)
  rw [q3, q4]
  exact Rn.icmp_eq dL_law_1264 (fun _ => k K hK) (fun h => absurd rfl h)
theorem sL_began {G : Gx} {l : Launch} {ly : Ly} {M : Mm} {Q : Qt} {i dep ca sa : Nat} {v5 v6 : Option Value} (hdep : 140 + 1 ≤ dep) (hi : i + 6 ≤ G.2.2.2.2.1) (hL : G.2.2.2.2.1 ≤ 3072) (hI : INV ly M) (k : ∀ K : Mm, INV ly K → Rn G l mL_law (dep, ca, sa, false) 1507 [some (.float 0), some (.ref 0), some (.ref 149), some (.ref 196), some (.int (nI i)), v5, v6] [] ly K Q) : Rn G l mL_law (dep, ca, sa, false) 1269 [some (.float 0), some (.ref 0), some (.ref 149), some (.ref 196), some (.int (nI i)), v5, v6] [] ly M Q := by
  refine Rn.aload_n dL_law_1269 rfl ?_
  refine Rn.callV0 dL_law_1270 vL_135 hI.o0 (by decide) rfl (pr_began hI) hdep ⟨(Nat.le_of_ble_eq_true rfl), (Nat.le_of_ble_eq_true rfl), (Nat.le_of_ble_eq_true rfl)⟩ (fun h => by cases h) (fun w1 l1 N ⟨q1, r, q2, h2⟩ => ?_)
  rw [q1, q2]
  refine Rn.aload_n dL_law_1273 rfl ?_
  refine Rn.callV0 dL_law_1274 vL_138 hI.o1 (by decide) rfl h2 hdep ⟨(Nat.le_of_ble_eq_true rfl), (Nat.le_of_ble_eq_true rfl), (Nat.le_of_ble_eq_true rfl)⟩ (fun h => by cases h) (fun w2 l2 K ⟨q3, q4, hK⟩ => ?_)
  rw [q3, q4]
  exact Rn.icmp_eq dL_law_1277 (fun _ => k K hK) (fun h => absurd rfl h)
theorem sL_set {G : Gx} {l : Launch} {ly : Ly} {M : Mm} {Q : Qt} {i dep ca sa : Nat} {v5 v6 : Option Value} (hdep : 140 + 1 ≤ dep) (hi : i + 6 ≤ G.2.2.2.2.1) (hL : G.2.2.2.2.1 ≤ 3072) (hI : INV ly M) (k : ∀ K : Mm, INV ly K → Rn G l mL_law (dep, ca, sa, false) 1507 [some (.float 0), some (.ref 0), some (.ref 149), some (.ref 196), some (.int (nI i)), v5, v6] [] ly K Q) : Rn G l mL_law (dep, ca, sa, false) 1282 [some (.float 0), some (.ref 0), some (.ref 149), some (.ref 196), some (.int (nI i)), v5, v6] [] ly M Q := by
  refine Rn.aload_n dL_law_1282 rfl ?_
  refine Rn.argS (k := 1) dL_law_1283 dL_law_1284 dL_law_1286 dL_law_1287 dL_law_1288 (by decide) rfl rfl (by omega) hL ?_
  refine Rn.callV1 dL_law_1289 vL_139 hI.o0 (by decide) rfl (pr_set hI) hdep ⟨(Nat.le_of_ble_eq_true rfl), (Nat.le_of_ble_eq_true rfl), (Nat.le_of_ble_eq_true rfl)⟩ (fun h => by cases h) (fun w1 l1 N ⟨q1, r, q2, h2⟩ => ?_)
  rw [q1, q2]
  refine Rn.aload_n dL_law_1292 rfl ?_
  refine Rn.argS (k := 1) dL_law_1293 dL_law_1294 dL_law_1296 dL_law_1297 dL_law_1298 (by decide) rfl rfl (by omega) hL ?_
  refine Rn.callV1 dL_law_1299 vL_142 hI.o1 (by decide) rfl h2 hdep ⟨(Nat.le_of_ble_eq_true rfl), (Nat.le_of_ble_eq_true rfl), (Nat.le_of_ble_eq_true rfl)⟩ (fun h => by cases h) (fun w2 l2 K ⟨q3, q4, hK⟩ => ?_)
  rw [q3, q4]
  exact Rn.icmp_eq dL_law_1302 (fun _ => k K hK) (fun h => absurd rfl h)
theorem sL_sure {G : Gx} {l : Launch} {ly : Ly} {M : Mm} {Q : Qt} {i dep ca sa : Nat} {v5 v6 : Option Value} (hdep : 140 + 1 ≤ dep) (hi : i + 6 ≤ G.2.2.2.2.1) (hL : G.2.2.2.2.1 ≤ 3072) (hI : INV ly M) (k : ∀ K : Mm, INV ly K → Rn G l mL_law (dep, ca, sa, false) 1507 [some (.float 0), some (.ref 0), some (.ref 149), some (.ref 196), some (.int (nI i)), v5, v6] [] ly K Q) : Rn G l mL_law (dep, ca, sa, false) 1307 [some (.float 0), some (.ref 0), some (.ref 149), some (.ref 196), some (.int (nI i)), v5, v6] [] ly M Q := by
  refine Rn.aload_n dL_law_1307 rfl ?_
  refine Rn.argS (k := 1) dL_law_1308 dL_law_1309 dL_law_1311 dL_law_1312 dL_law_1313 (by decide) rfl rfl (by omega) hL ?_
  refine Rn.callV1 dL_law_1314 vL_143 hI.o0 (by decide) rfl (pr_sure hI) hdep ⟨(Nat.le_of_ble_eq_true rfl), (Nat.le_of_ble_eq_true rfl), (Nat.le_of_ble_eq_true rfl)⟩ (fun h => by cases h) (fun w1 l1 N ⟨q1, r, q2, h2⟩ => ?_)
  rw [q1, q2]
  refine Rn.aload_n dL_law_1317 rfl ?_
  refine Rn.argS (k := 1) dL_law_1318 dL_law_1319 dL_law_1321 dL_law_1322 dL_law_1323 (by decide) rfl rfl (by omega) hL ?_
  refine Rn.callV1 dL_law_1324 vL_146 hI.o1 (by decide) rfl h2 hdep ⟨(Nat.le_of_ble_eq_true rfl), (Nat.le_of_ble_eq_true rfl), (Nat.le_of_ble_eq_true rfl)⟩ (fun h => by cases h) (fun w2 l2 K ⟨q3, q4, hK⟩ => ?_)
  rw [q3, q4]
  exact Rn.icmp_eq dL_law_1327 (fun _ => k K hK) (fun h => absurd rfl h)
theorem sL_fits {G : Gx} {l : Launch} {ly : Ly} {M : Mm} {Q : Qt} {i dep ca sa : Nat} {v5 v6 : Option Value} (hdep : 140 + 1 ≤ dep) (hi : i + 6 ≤ G.2.2.2.2.1) (hL : G.2.2.2.2.1 ≤ 3072) (hI : INV ly M) (k : ∀ K : Mm, INV ly K → Rn G l mL_law (dep, ca, sa, false) 1507 [some (.float 0), some (.ref 0), some (.ref 149), some (.ref 196), some (.int (nI i)), v5, v6] [] ly K Q) : Rn G l mL_law (dep, ca, sa, false) 1332 [some (.float 0), some (.ref 0), some (.ref 149), some (.ref 196), some (.int (nI i)), v5, v6] [] ly M Q := by
  refine Rn.aload_n dL_law_1332 rfl ?_
  refine Rn.callV0 dL_law_1333 vL_147 hI.o0 (by decide) rfl (pr_fits hI) hdep ⟨(Nat.le_of_ble_eq_true rfl), (Nat.le_of_ble_eq_true rfl), (Nat.le_of_ble_eq_true rfl)⟩ (fun h => by cases h) (fun w1 l1 N ⟨q1, r, q2, h2⟩ => ?_)
  rw [q1, q2]
  refine Rn.aload_n dL_law_1336 rfl ?_
  refine Rn.callV0 dL_law_1337 vL_150 hI.o1 (by decide) rfl h2 hdep ⟨(Nat.le_of_ble_eq_true rfl), (Nat.le_of_ble_eq_true rfl), (Nat.le_of_ble_eq_true rfl)⟩ (fun h => by cases h) (fun w2 l2 K ⟨q3, q4, hK⟩ => ?_)
  rw [q3, q4]
  exact Rn.icmp_eq dL_law_1340 (fun _ => k K hK) (fun h => absurd rfl h)
theorem sL_gales {G : Gx} {l : Launch} {ly : Ly} {M : Mm} {Q : Qt} {i dep ca sa : Nat} {v5 v6 : Option Value} (hdep : 140 + 1 ≤ dep) (hi : i + 6 ≤ G.2.2.2.2.1) (hL : G.2.2.2.2.1 ≤ 3072) (hI : INV ly M) (k : ∀ K : Mm, INV ly K → Rn G l mL_law (dep, ca, sa, false) 1507 [some (.float 0), some (.ref 0), some (.ref 149), some (.ref 196), some (.int (nI i)), v5, v6] [] ly K Q) : Rn G l mL_law (dep, ca, sa, false) 1345 [some (.float 0), some (.ref 0), some (.ref 149), some (.ref 196), some (.int (nI i)), v5, v6] [] ly M Q := by
  refine Rn.aload_n dL_law_1345 rfl ?_
  refine Rn.argS (k := 1) dL_law_1346 dL_law_1347 dL_law_1349 dL_law_1350 dL_law_1351 (by decide) rfl rfl (by omega) hL ?_
  refine Rn.argS (k := 2) dL_law_1352 dL_law_1353 dL_law_1355 dL_law_1356 dL_law_1357 (by decide) rfl rfl (by omega) hL ?_
  refine Rn.argS (k := 3) dL_law_1358 dL_law_1359 dL_law_1361 dL_law_1362 dL_law_1363 (by decide) rfl rfl (by omega) hL ?_
  refine Rn.callV3 dL_law_1364 vL_151 hI.o0 (by decide) rfl (pr_gales hI) hdep ⟨(Nat.le_of_ble_eq_true rfl), (Nat.le_of_ble_eq_true rfl), (Nat.le_of_ble_eq_true rfl)⟩ (fun h => by cases h) (fun w1 l1 N ⟨q1, r, q2, h2⟩ => ?_)
  rw [q1, q2]
  refine Rn.aload_n dL_law_1367 rfl ?_
  refine Rn.argS (k := 1) dL_law_1368 dL_law_1369 dL_law_1371 dL_law_1372 dL_law_1373 (by decide) rfl rfl (by omega) hL ?_
  refine Rn.argS (k := 2) dL_law_1374 dL_law_1375 dL_law_1377 dL_law_1378 dL_law_1379 (by decide) rfl rfl (by omega) hL ?_
  refine Rn.argS (k := 3) dL_law_1380 dL_law_1381 dL_law_1383 dL_law_1384 dL_law_1385 (by decide) rfl rfl (by omega) hL ?_
  refine Rn.callV3 dL_law_1386 vL_154 hI.o1 (by decide) rfl h2 hdep ⟨(Nat.le_of_ble_eq_true rfl), (Nat.le_of_ble_eq_true rfl), (Nat.le_of_ble_eq_true rfl)⟩ (fun h => by cases h) (fun w2 l2 K ⟨q3, q4, hK⟩ => ?_)
  rw [q3, q4]
  exact Rn.icmp_eq dL_law_1389 (fun _ => k K hK) (fun h => absurd rfl h)
theorem sL_tried {G : Gx} {l : Launch} {ly : Ly} {M : Mm} {Q : Qt} {i dep ca sa : Nat} {v5 v6 : Option Value} (hdep : 140 + 1 ≤ dep) (hi : i + 6 ≤ G.2.2.2.2.1) (hL : G.2.2.2.2.1 ≤ 3072) (hI : INV ly M) (k : ∀ K : Mm, INV ly K → Rn G l mL_law (dep, ca, sa, false) 1507 [some (.float 0), some (.ref 0), some (.ref 149), some (.ref 196), some (.int (nI i)), v5, v6] [] ly K Q) : Rn G l mL_law (dep, ca, sa, false) 1394 [some (.float 0), some (.ref 0), some (.ref 149), some (.ref 196), some (.int (nI i)), v5, v6] [] ly M Q := by
  refine Rn.aload_n dL_law_1394 rfl ?_
  refine Rn.argS (k := 1) dL_law_1395 dL_law_1396 dL_law_1398 dL_law_1399 dL_law_1400 (by decide) rfl rfl (by omega) hL ?_
  refine Rn.argS (k := 2) dL_law_1401 dL_law_1402 dL_law_1404 dL_law_1405 dL_law_1406 (by decide) rfl rfl (by omega) hL ?_
  refine Rn.argS (k := 3) dL_law_1407 dL_law_1408 dL_law_1410 dL_law_1411 dL_law_1412 (by decide) rfl rfl (by omega) hL ?_
  refine Rn.callV3 dL_law_1413 vL_155 hI.o0 (by decide) rfl (pr_tried hI) hdep ⟨(Nat.le_of_ble_eq_true rfl), (Nat.le_of_ble_eq_true rfl), (Nat.le_of_ble_eq_true rfl)⟩ (fun h => by cases h) (fun w1 l1 N ⟨q1, r, q2, h2⟩ => ?_)
  rw [q1, q2]
  refine Rn.aload_n dL_law_1416 rfl ?_
  refine Rn.argS (k := 1) dL_law_1417 dL_law_1418 dL_law_1420 dL_law_1421 dL_law_1422 (by decide) rfl rfl (by omega) hL ?_
  refine Rn.argS (k := 2) dL_law_1423 dL_law_1424 dL_law_1426 dL_law_1427 dL_law_1428 (by decide) rfl rfl (by omega) hL ?_
  refine Rn.argS (k := 3) dL_law_1429 dL_law_1430 dL_law_1432 dL_law_1433 dL_law_1434 (by decide) rfl rfl (by omega) hL ?_
  refine Rn.callV3 dL_law_1435 vL_158 hI.o1 (by decide) rfl h2 hdep ⟨(Nat.le_of_ble_eq_true rfl), (Nat.le_of_ble_eq_true rfl), (Nat.le_of_ble_eq_true rfl)⟩ (fun h => by cases h) (fun w2 l2 K ⟨q3, q4, hK⟩ => ?_)
  rw [q3, q4]
  exact Rn.icmp_eq dL_law_1438 (fun _ => k K hK) (fun h => absurd rfl h)
theorem sL_undo {G : Gx} {l : Launch} {ly : Ly} {M : Mm} {Q : Qt} {i dep ca sa : Nat} {v5 v6 : Option Value} (hdep : 140 + 1 ≤ dep) (hi : i + 6 ≤ G.2.2.2.2.1) (hL : G.2.2.2.2.1 ≤ 3072) (hI : INV ly M) (k : ∀ K : Mm, INV ly K → Rn G l mL_law (dep, ca, sa, false) 1507 [some (.float 0), some (.ref 0), some (.ref 149), some (.ref 196), some (.int (nI i)), v5, v6] [] ly K Q) : Rn G l mL_law (dep, ca, sa, false) 1443 [some (.float 0), some (.ref 0), some (.ref 149), some (.ref 196), some (.int (nI i)), v5, v6] [] ly M Q := by
  refine Rn.aload_n dL_law_1443 rfl ?_
  refine Rn.callV0 dL_law_1444 vL_159 hI.o0 (by decide) rfl (pr_undo hI) hdep ⟨(Nat.le_of_ble_eq_true rfl), (Nat.le_of_ble_eq_true rfl), (Nat.le_of_ble_eq_true rfl)⟩ (fun h => by cases h) (fun w1 l1 N ⟨q1, r, q2, h2⟩ => ?_)
  rw [q1, q2]
  refine Rn.aload_n dL_law_1447 rfl ?_
  refine Rn.callV0 dL_law_1448 vL_162 hI.o1 (by decide) rfl h2 hdep ⟨(Nat.le_of_ble_eq_true rfl), (Nat.le_of_ble_eq_true rfl), (Nat.le_of_ble_eq_true rfl)⟩ (fun h => by cases h) (fun w2 l2 K ⟨q3, q4, hK⟩ => ?_)
  rw [q3, q4]
  exact Rn.icmp_eq dL_law_1451 (fun _ => k K hK) (fun h => absurd rfl h)
theorem sL_keep {G : Gx} {l : Launch} {ly : Ly} {M : Mm} {Q : Qt} {i dep ca sa : Nat} {v5 v6 : Option Value} (hdep : 140 + 1 ≤ dep) (hi : i + 6 ≤ G.2.2.2.2.1) (hL : G.2.2.2.2.1 ≤ 3072) (hI : INV ly M) (k : ∀ K : Mm, INV ly K → Rn G l mL_law (dep, ca, sa, false) 1507 [some (.float 0), some (.ref 0), some (.ref 149), some (.ref 196), some (.int (nI i)), v5, v6] [] ly K Q) : Rn G l mL_law (dep, ca, sa, false) 1456 [some (.float 0), some (.ref 0), some (.ref 149), some (.ref 196), some (.int (nI i)), v5, v6] [] ly M Q := by
  refine Rn.aload_n dL_law_1456 rfl ?_
  refine Rn.callV0 dL_law_1457 vL_163 hI.o0 (by decide) rfl (pr_keep hI) hdep ⟨(Nat.le_of_ble_eq_true rfl), (Nat.le_of_ble_eq_true rfl), (Nat.le_of_ble_eq_true rfl)⟩ (fun h => by cases h) (fun w1 l1 N ⟨q1, r, q2, h2⟩ => ?_)
  rw [q1, q2]
  refine Rn.aload_n dL_law_1460 rfl ?_
  refine Rn.callV0 dL_law_1461 vL_166 hI.o1 (by decide) rfl h2 hdep ⟨(Nat.le_of_ble_eq_true rfl), (Nat.le_of_ble_eq_true rfl), (Nat.le_of_ble_eq_true rfl)⟩ (fun h => by cases h) (fun w2 l2 K ⟨q3, q4, hK⟩ => ?_)
  rw [q3, q4]
  exact Rn.icmp_eq dL_law_1464 (fun _ => k K hK) (fun h => absurd rfl h)
theorem sL_back {G : Gx} {l : Launch} {ly : Ly} {M : Mm} {Q : Qt} {i dep ca sa : Nat} {v5 v6 : Option Value} (hdep : 140 + 1 ≤ dep) (hi : i + 6 ≤ G.2.2.2.2.1) (hL : G.2.2.2.2.1 ≤ 3072) (hI : INV ly M) (k : ∀ K : Mm, INV ly K → Rn G l mL_law (dep, ca, sa, false) 1507 [some (.float 0), some (.ref 0), some (.ref 149), some (.ref 196), some (.int (nI i)), v5, v6] [] ly K Q) : Rn G l mL_law (dep, ca, sa, false) 1469 [some (.float 0), some (.ref 0), some (.ref 149), some (.ref 196), some (.int (nI i)), v5, v6] [] ly M Q := by
  refine Rn.aload_n dL_law_1469 rfl ?_
  refine Rn.callV0 dL_law_1470 vL_167 hI.o0 (by decide) rfl (pr_back hI) hdep ⟨(Nat.le_of_ble_eq_true rfl), (Nat.le_of_ble_eq_true rfl), (Nat.le_of_ble_eq_true rfl)⟩ (fun h => by cases h) (fun w1 l1 N ⟨q1, r, q2, h2⟩ => ?_)
  rw [q1, q2]
  refine Rn.aload_n dL_law_1473 rfl ?_
  refine Rn.callV0 dL_law_1474 vL_170 hI.o1 (by decide) rfl h2 hdep ⟨(Nat.le_of_ble_eq_true rfl), (Nat.le_of_ble_eq_true rfl), (Nat.le_of_ble_eq_true rfl)⟩ (fun h => by cases h) (fun w2 l2 K ⟨q3, q4, hK⟩ => ?_)
  rw [q3, q4]
  exact Rn.icmp_eq dL_law_1477 (fun _ => k K hK) (fun h => absurd rfl h)
theorem sL_count {G : Gx} {l : Launch} {ly : Ly} {M : Mm} {Q : Qt} {i dep ca sa : Nat} {v5 v6 : Option Value} (hdep : 140 + 1 ≤ dep) (hi : i + 6 ≤ G.2.2.2.2.1) (hL : G.2.2.2.2.1 ≤ 3072) (hI : INV ly M) (k : ∀ K : Mm, INV ly K → Rn G l mL_law (dep, ca, sa, false) 1507 [some (.float 0), some (.ref 0), some (.ref 149), some (.ref 196), some (.int (nI i)), v5, v6] [] ly K Q) : Rn G l mL_law (dep, ca, sa, false) 1482 [some (.float 0), some (.ref 0), some (.ref 149), some (.ref 196), some (.int (nI i)), v5, v6] [] ly M Q := by
  refine Rn.aload_n dL_law_1482 rfl ?_
  refine Rn.argS (k := 1) dL_law_1483 dL_law_1484 dL_law_1486 dL_law_1487 dL_law_1488 (by decide) rfl rfl (by omega) hL ?_
  refine Rn.callV1 dL_law_1489 vL_171 hI.o0 (by decide) rfl (pr_count hI) hdep ⟨(Nat.le_of_ble_eq_true rfl), (Nat.le_of_ble_eq_true rfl), (Nat.le_of_ble_eq_true rfl)⟩ (fun h => by cases h) (fun w1 l1 N ⟨q1, r, q2, h2⟩ => ?_)
  rw [q1, q2]
  refine Rn.aload_n dL_law_1492 rfl ?_
  refine Rn.argS (k := 1) dL_law_1493 dL_law_1494 dL_law_1496 dL_law_1497 dL_law_1498 (by decide) rfl rfl (by omega) hL ?_
  refine Rn.callV1 dL_law_1499 vL_174 hI.o1 (by decide) rfl h2 hdep ⟨(Nat.le_of_ble_eq_true rfl), (Nat.le_of_ble_eq_true rfl), (Nat.le_of_ble_eq_true rfl)⟩ (fun h => by cases h) (fun w2 l2 K ⟨q3, q4, hK⟩ => ?_)
  rw [q3, q4]
  exact Rn.icmp_eq dL_law_1502 (fun _ => k K hK) (fun h => absurd rfl h)
