set_option maxHeartbeats 4000000 in
set_option maxRecDepth 100000 in
theorem jAct_none {X : jX} {ω : jW} {γ : jG} {M : jM} {R : jR} {Post : jPost} (C : jC X ω cL_acts yL_acts.cls 10 1 4) (E : jE X ω (some .boolean) 1 4 Post) (hxn : xn X = 14) {x a h T v m d b nh r n c : Nat} {f : Nat → Nat} (L : LI ω γ M R x a h T v m d b nh r n c f) (hb : b ≤ 90000) {y way : Nat} {z num : Int32} (hy : y < 10000000) (K : ∀ γ' M' R', lQ ω γ x a h T v m d b (some (.int (nI 1))) γ' M' R' → Post (some (.int (nI 1))) γ' M' R') (hz0 : lLast (zPlc (M (m + 1)) num) n = -1) (hz : zLast (zPlc (M (m + 1)) num) n = -4) : J X ω γ M R 0 0 274 [(0, .ref x), (1, .ref d), (2, .ref (d + 1)), (3, .ref (d + 2)), (4, .ref (d + 3)), (5, .ref (d + 4)), (6, .ref (d + 5)), (7, .int z), (8, .int (nI y)), (9, .int (nI way)), (10, .int num)] [] := by
  have hb0 : b ≤ 100000 := by omega
  obtain ⟨gx, gd, hvd, hdm, hjm, I, e, hx, A⟩ := L
  have CBH := CB_inv I.1 e I.2.2.2.2.1 hx
  have gx0 := gx.1
  obtain ⟨g0, g1, g2, g3, g4, g5⟩ := gd
  have Z := zRd_of e A.2.2.2.2.2.2.1
  have H := lRd_of A
  have Q := zPn_of e A.2.2.2.2.2.2.2.2 hb0
  have hS := A.1
  have P := A.2.2.2.2.1
  have hr30 := Z.2.1
  have hc6 := Z.2.2.2.2.1
  have hsh := e.2.2.2.2.2.2.2.1
  have hn8 : n ≤ 8 := hsh.2.2.1
  have s0 : M (m + 1) 0 = nI r := Z.1
  have s3 : M (m + 1) 3 = nI c := e.2.2.2.1.2.1
  have s4 : M (m + 1) 4 = nI n := hsh.2.1
  have hd := e.2.2.2.2.2.2.2.2
  have d0 : M d 0 = nI r := (hS 0 (by decide)).trans s0
  have d3 : M d 3 = nI c := (hS 3 (by decide)).trans s3
  have d4 : M d 4 = nI n := (hS 4 (by decide)).trans s4
  have J : LJ M R a h T v m b nh r n c 0 f := ⟨I, e, hx⟩
  have gdd : gD ω γ d := ⟨g0, g1, g2, g3, g4, g5⟩
  refine j_aload_n C dL_acts_274 rfl ?_
  refine j_aload C dL_acts_275 rfl ?_
  refine j_iload C dL_acts_277 rfl ?_
  refine j_cSi C (c_L_plan _ ω γ M R ⟨g0, g1, g2, g3, g4, g5⟩ d4 hn8 P num) yc_L_plan mn_L_116 st_L_plan dL_acts_279 rfl rfl (Nat.le_of_ble_eq_true rfl) (by decide) ?_
  refine j_top (-1) hz0 ?_
  refine j_istore C dL_acts_282 (by rw [hxn]; decide) ?_
  refine j_iload C dL_acts_284 rfl ?_
  refine j_if_ge C 316 dL_acts_286 (by decide) (fun h => absurd h (by decide)) (fun _ => ?_)
  refine j_aload_n C dL_acts_289 rfl ?_
  refine j_iload C dL_acts_290 rfl ?_
  refine j_iconst C (nI 1) dL_acts_292 (by decide) ?_
  obtain ⟨eq1, hz2, nh1, f1, J1, A1⟩ := op_pinX J A hvd hdm hz (nI 1)
  refine j_cVi C (c_X9_pin _ ω γ M R gx CBH num (nI 1)) yc_X9_pin mn_L_120 im_X9_pin se_X9_pin rfl rfl dL_acts_293 rfl rfl (gx0) (by decide) (Nat.le_of_ble_eq_true rfl) (by decide) ?_
  refine j_top (-1) eq1 ?_
  refine j_iconst C (-1) dL_acts_296 (by decide) ?_
  refine j_icmp_ne C 314 dL_acts_297 (by decide) (fun h => absurd (rfl) h) (fun _ => ?_)
  refine j_aload_n C dL_acts_300 rfl ?_
  refine j_iload C dL_acts_301 rfl ?_
  obtain ⟨eq2, M3, lo3, nh3, f3, J3, A3⟩ := op_dropN J1 A1 hvd hdm hz2
  refine j_cVi C (c_X9_drop _ ω γ _ _ gx J1.CB num) yc_X9_drop mn_L_123 im_X9_drop se_X9_drop rfl rfl dL_acts_303 rfl rfl (gx0) (by decide) (Nat.le_of_ble_eq_true rfl) (by decide) ?_
  refine j_top (-1) eq2 ?_
  refine j_ghost M3 (fun z9 hz9 => lo3 z9 (by omega)) ?_
  refine j_iconst C (-1) dL_acts_306 (by decide) ?_
  refine j_icmp_ne C 314 dL_acts_307 (by decide) (fun h => absurd (rfl) h) (fun _ => ?_)
  refine j_iconst C (nI 1) dL_acts_310 (by decide) ?_
  refine j_goto C 315 dL_acts_311 (by decide) ?_
  exact j_ireturn C E dL_acts_315 (by decide) (by decide) (by decide) (K _ _ _ (lQ_of gx gdd hvd hdm hjm J3 (by omega) A3))

set_option maxHeartbeats 4000000 in
set_option maxRecDepth 100000 in
theorem jAct_found {X : jX} {ω : jW} {γ : jG} {M : jM} {R : jR} {Post : jPost} (C : jC X ω cL_acts yL_acts.cls 10 1 4) (E : jE X ω (some .boolean) 1 4 Post) (hxn : xn X = 14) {x a h T v m d b nh r n c : Nat} {f : Nat → Nat} (L : LI ω γ M R x a h T v m d b nh r n c f) (hb : b ≤ 90000) {y way : Nat} {z num : Int32} (hy : y < 10000000) (K : ∀ γ' M' R', lQ ω γ x a h T v m d b (some (.int (nI 1))) γ' M' R' → Post (some (.int (nI 1))) γ' M' R') {q : Nat} (hq : q < n) (hw3 : way < 26) (hz0 : lLast (zPlc (M (m + 1)) num) n = nI q) (hz : zLast (zPlc (M (m + 1)) num) n = nI q) : J X ω γ M R 0 0 274 [(0, .ref x), (1, .ref d), (2, .ref (d + 1)), (3, .ref (d + 2)), (4, .ref (d + 3)), (5, .ref (d + 4)), (6, .ref (d + 5)), (7, .int z), (8, .int (nI y)), (9, .int (nI way)), (10, .int num)] [] := by
  have hb0 : b ≤ 100000 := by omega
  obtain ⟨gx, gd, hvd, hdm, hjm, I, e, hx, A⟩ := L
  have CBH := CB_inv I.1 e I.2.2.2.2.1 hx
  have gx0 := gx.1
  obtain ⟨g0, g1, g2, g3, g4, g5⟩ := gd
  have Z := zRd_of e A.2.2.2.2.2.2.1
  have H := lRd_of A
  have Q := zPn_of e A.2.2.2.2.2.2.2.2 hb0
  have hS := A.1
  have P := A.2.2.2.2.1
  have hr30 := Z.2.1
  have hc6 := Z.2.2.2.2.1
  have hsh := e.2.2.2.2.2.2.2.1
  have hn8 : n ≤ 8 := hsh.2.2.1
  have s0 : M (m + 1) 0 = nI r := Z.1
  have s3 : M (m + 1) 3 = nI c := e.2.2.2.1.2.1
  have s4 : M (m + 1) 4 = nI n := hsh.2.1
  have hd := e.2.2.2.2.2.2.2.2
  have d0 : M d 0 = nI r := (hS 0 (by decide)).trans s0
  have d3 : M d 3 = nI c := (hS 3 (by decide)).trans s3
  have d4 : M d 4 = nI n := (hS 4 (by decide)).trans s4
  have J : LJ M R a h T v m b nh r n c 0 f := ⟨I, e, hx⟩
  have gdd : gD ω γ d := ⟨g0, g1, g2, g3, g4, g5⟩
  obtain ⟨u, s, hu, hs, eu, es, em⟩ := lPl_6 P Q hq
  refine j_aload_n C dL_acts_274 rfl ?_
  refine j_aload C dL_acts_275 rfl ?_
  refine j_iload C dL_acts_277 rfl ?_
  refine j_cSi C (c_L_plan _ ω γ M R ⟨g0, g1, g2, g3, g4, g5⟩ d4 hn8 P num) yc_L_plan mn_L_116 st_L_plan dL_acts_279 rfl rfl (Nat.le_of_ble_eq_true rfl) (by decide) ?_
  refine j_top (nI q) hz0 ?_
  refine j_istore C dL_acts_282 (by rw [hxn]; decide) ?_
  refine j_iload C dL_acts_284 rfl ?_
  refine j_if_ge C 316 dL_acts_286 (by decide) (fun _ => ?_) (fun h => absurd (nI_pos' (by omega)) h)
  refine j_iload C dL_acts_316 rfl ?_
  refine j_bipush C (nI 25) dL_acts_318 (by decide) ?_
  refine j_icmp_ge C 419 dL_acts_320 (by decide) (fun h320 => ?_) (fun h320 => ?_)
  · skip
    refine j_aload C dL_acts_419 rfl ?_
    refine j_bipush C (nI 8) dL_acts_421 (by decide) ?_
    refine j_iload C dL_acts_423 rfl ?_
    first | with_reducible refine j_imulN C dL_acts_425 ?_ | refine j_imul C dL_acts_425 ?_
    refine j_bipush C (nI 6) dL_acts_426 (by decide) ?_
    first | with_reducible refine j_iaddN C dL_acts_428 ?_ | refine j_iadd C dL_acts_428 ?_
    refine j_ialdN C (by assumption) dL_acts_429 (by omega) (by decide) ?_
    refine j_top (nI (u + 2 * s)) em ?_
    refine j_iconst C (nI 2) dL_acts_430 (by decide) ?_
    refine j_iremN C dL_acts_431 (by omega) (by decide) (by decide) ?_
    refine j_top (nI u) (by congr 1; omega) ?_
    refine j_iconst C (nI 1) dL_acts_432 (by decide) ?_
    refine j_icmp_ne C 453 dL_acts_433 (by decide) (fun h433 => ?_) (fun h433 => ?_)
    · skip
      refine j_aload_n C dL_acts_453 rfl ?_
      refine j_aload C dL_acts_454 rfl ?_
      refine j_iload C dL_acts_456 rfl ?_
      refine j_cSv C (c_L_takeOut _ ω γ M R (S := M (m + 1)) ⟨g0, g1, g2, g3, g4, g5⟩ d4 hn8 hq) yc_L_takeOut mn_L_58 st_L_takeOut dL_acts_458 rfl rfl (Nat.le_of_ble_eq_true rfl) (by decide) ?_
      refine j_aload_n C dL_acts_461 rfl ?_
      refine j_bipush C (nI 10) dL_acts_462 (by decide) ?_
      refine j_dup2 C dL_acts_464 rfl rfl ?_
      refine j_ialdN C (by assumption) dL_acts_465 (by omega) (by decide) ?_
      refine j_top (M (m + 1) 10) (by rw [lOut_g _ (by decide)]; exact hS 10 (by decide)) ?_
      refine j_iconst C (nI 1) dL_acts_466 (by decide) ?_
      first | with_reducible refine j_iaddN C dL_acts_467 ?_ | refine j_iadd C dL_acts_467 ?_
      refine j_iastN C (by assumption) dL_acts_468 (by omega) (by decide) ?_
      obtain ⟨M1, hM1⟩ : ∃ M1, M1 = jup (lOut M d n q) d 10 (M (m + 1) 10 + nI 1) := ⟨_, rfl⟩
      refine j_mem M1 hM1.symm ?_
      obtain ⟨J1, eq1, M3, lo3, nh3, f3, J3, A3⟩ := op_drop J A hvd hdm hq hz (fun z9 => h433 (eu.symm.trans z9)) hM1
      refine j_aload_n C dL_acts_469 rfl ?_
      refine j_iload C dL_acts_470 rfl ?_
      refine j_cVi C (c_X9_drop _ ω γ M1 R gx J1.CB num) yc_X9_drop mn_L_123 im_X9_drop se_X9_drop rfl rfl dL_acts_472 rfl rfl (gx0) (by decide) (Nat.le_of_ble_eq_true rfl) (by decide) ?_
      refine j_top (nI (n - 1)) eq1 ?_
      refine j_ghost M3 (fun z9 hz9 => lo3 z9 (by omega)) ?_
      refine j_aload_n C dL_acts_475 rfl ?_
      refine j_iconst C (nI 4) dL_acts_476 (by decide) ?_
      refine j_ialdN C (by assumption) dL_acts_477 (by omega) (by decide) ?_
      refine j_top (nI (n - 1)) ((A3.1 4 (by decide)).trans J3.num.2.2.1) ?_
      refine j_icmp_ne C 485 dL_acts_478 (by decide) (fun h => absurd (rfl) h) (fun _ => ?_)
      refine j_iconst C (nI 1) dL_acts_481 (by decide) ?_
      refine j_goto C 486 dL_acts_482 (by decide) ?_
      exact j_ireturn C E dL_acts_486 (by decide) (by decide) (by decide) (K _ _ _ (lQ_of gx gdd hvd hdm hjm J3 (by omega) A3))
    · skip
      refine j_aload_n C dL_acts_436 rfl ?_
      refine j_iload C dL_acts_437 rfl ?_
      obtain ⟨eq1, M3, lo3, nh3, f3, J3, A3⟩ := op_dropP J A hvd hdm hq hz (eu.trans h433)
      refine j_cVi C (c_X9_drop _ ω γ M R gx CBH num) yc_X9_drop mn_L_123 im_X9_drop se_X9_drop rfl rfl dL_acts_439 rfl rfl (gx0) (by decide) (Nat.le_of_ble_eq_true rfl) (by decide) ?_
      refine j_top (-2) eq1 ?_
      refine j_ghost M3 (fun z9 hz9 => lo3 z9 (by omega)) ?_
      refine j_bipush C (-2) dL_acts_442 (by decide) ?_
      refine j_icmp_ne C 451 dL_acts_444 (by decide) (fun h => absurd (rfl) h) (fun _ => ?_)
      refine j_iconst C (nI 1) dL_acts_447 (by decide) ?_
      refine j_goto C 452 dL_acts_448 (by decide) ?_
      exact j_ireturn C E dL_acts_452 (by decide) (by decide) (by decide) (K _ _ _ (lQ_of gx gdd hvd hdm hjm J3 (by omega) A3))
  · skip
    refine j_aload C dL_acts_323 rfl ?_
    refine j_bipush C (nI 8) dL_acts_325 (by decide) ?_
    refine j_iload C dL_acts_327 rfl ?_
    first | with_reducible refine j_imulN C dL_acts_329 ?_ | refine j_imul C dL_acts_329 ?_
    refine j_bipush C (nI 6) dL_acts_330 (by decide) ?_
    first | with_reducible refine j_iaddN C dL_acts_332 ?_ | refine j_iadd C dL_acts_332 ?_
    refine j_aload C dL_acts_333 rfl ?_
    refine j_bipush C (nI 8) dL_acts_335 (by decide) ?_
    refine j_iload C dL_acts_337 rfl ?_
    first | with_reducible refine j_imulN C dL_acts_339 ?_ | refine j_imul C dL_acts_339 ?_
    refine j_bipush C (nI 6) dL_acts_340 (by decide) ?_
    first | with_reducible refine j_iaddN C dL_acts_342 ?_ | refine j_iadd C dL_acts_342 ?_
    refine j_ialdN C (by assumption) dL_acts_343 (by omega) (by decide) ?_
    refine j_top (nI (u + 2 * s)) em ?_
    refine j_iconst C (nI 2) dL_acts_344 (by decide) ?_
    refine j_idivN C dL_acts_345 (by omega) (by decide) (by decide) ?_
    refine j_top (nI s) (by congr 1; omega) ?_
    refine j_iconst C (nI 2) dL_acts_346 (by decide) ?_
    first | with_reducible refine j_imulN C dL_acts_347 ?_ | refine j_imul C dL_acts_347 ?_
    refine j_iload C dL_acts_348 rfl ?_
    refine j_bipush C (nI 8) dL_acts_350 (by decide) ?_
    refine j_idivN C dL_acts_352 (by omega) (by decide) (by decide) ?_
    refine j_iconst C (nI 2) dL_acts_353 (by decide) ?_
    refine j_iremN C dL_acts_354 (by omega) (by decide) (by decide) ?_
    obtain ⟨w, hw0, hw2⟩ : ∃ w, w = y / 8 % 2 ∧ w < 2 := ⟨_, rfl, by omega⟩
    first | with_reducible refine j_iaddN C dL_acts_355 ?_ | refine j_iadd C dL_acts_355 ?_
    refine j_top (nI (2 * s + w)) (by congr 1; omega) ?_
    refine j_iastN C (by assumption) dL_acts_356 (by omega) (by decide) ?_
    obtain ⟨M1, hM1⟩ : ∃ M1, M1 = jup M (d + 4) (8 * q + 6) (nI (2 * s + w)) := ⟨_, rfl⟩
    refine j_mem M1 hM1.symm ?_
    obtain ⟨J1, S2, P2, Q2, eq1, M3, lo3, nh3, f3, J3, A3⟩ := op_pin J A hvd hdm hb0 hq hw2 hz es hM1
    have d41 : M1 d 4 = nI n := by rw [hM1, jup_row _ _ (by omega)]; exact d4
    refine j_iconst C (nI 0) dL_acts_357 (by decide) ?_
    refine j_istore C dL_acts_358 (by rw [hxn]; decide) ?_
    refine j_iconst C (nI 0) dL_acts_360 (by decide) ?_
    refine j_istore C dL_acts_361 (by rw [hxn]; decide) ?_
    refine j_locs [0, 1, 2, 3, 4, 5, 6, 7, 8, 9, 10, 11, 12, 13] (l' := [(0, .ref x), (1, .ref d), (2, .ref (d + 1)), (3, .ref (d + 2)), (4, .ref (d + 3)), (5, .ref (d + 4)), (6, .ref (d + 5)), (7, .int z), (8, .int (nI y)), (9, .int (nI way)), (10, .int num), (11, .int (nI q)), (12, .int (sI (zPinF S2) 0)), (13, .int (nI 0))]) rfl ?_
    refine j_loop n (fun k => [(0, .ref x), (1, .ref d), (2, .ref (d + 1)), (3, .ref (d + 2)), (4, .ref (d + 3)), (5, .ref (d + 4)), (6, .ref (d + 5)), (7, .int z), (8, .int (nI y)), (9, .int (nI way)), (10, .int num), (11, .int (nI q)), (12, .int (sI (zPinF S2) k)), (13, .int (nI k))]) (fun _ => M1) (fun _ => R) (fun _ => True) trivial (fun k hk _ ih => ?_) (fun _ => ?_)
    · skip
      obtain ⟨u2, s2, hu2, hs2, eu2, es2, em2⟩ := lPl_6 P2 Q2 hk
      refine j_iload C dL_acts_363 rfl ?_
      refine j_aload_n C dL_acts_365 rfl ?_
      refine j_iconst C (nI 4) dL_acts_366 (by decide) ?_
      refine j_ialdN C (by assumption) dL_acts_367 (by omega) (by decide) ?_
      refine j_top (nI n) d41 ?_
      refine j_icmp_ge C 395 dL_acts_368 (by decide) (fun h => absurd h (nI_ge hk (by omega))) (fun _ => ?_)
      refine j_iload C dL_acts_371 rfl ?_
      refine j_aload C dL_acts_373 rfl ?_
      refine j_bipush C (nI 8) dL_acts_375 (by decide) ?_
      refine j_iload C dL_acts_377 rfl ?_
      first | with_reducible refine j_imulN C dL_acts_379 ?_ | refine j_imul C dL_acts_379 ?_
      refine j_bipush C (nI 6) dL_acts_380 (by decide) ?_
      first | with_reducible refine j_iaddN C dL_acts_382 ?_ | refine j_iadd C dL_acts_382 ?_
      refine j_ialdN C (by assumption) dL_acts_383 (by omega) (by decide) ?_
      refine j_top (nI (u2 + 2 * s2)) em2 ?_
      refine j_iconst C (nI 2) dL_acts_384 (by decide) ?_
      refine j_iremN C dL_acts_385 (by omega) (by decide) (by decide) ?_
      refine j_top (zPinF S2 k) (by unfold zPinF; rw [eu2]; congr 1; omega) ?_
      refine j_iadd C dL_acts_386 ?_
      refine j_top (sI (zPinF S2) (k + 1)) rfl ?_
      refine j_istore C dL_acts_387 (by rw [hxn]; decide) ?_
      first | refine j_iinc1 C dL_acts_389 rfl (by rw [hxn]; decide) ?_ | refine j_iinc C _ dL_acts_389 rfl rfl (by rw [hxn]; decide) ?_
      refine j_goto C 363 dL_acts_392 (by decide) ?_
      exact ih trivial
    · skip
      refine j_iload C dL_acts_363 rfl ?_
      refine j_aload_n C dL_acts_365 rfl ?_
      refine j_iconst C (nI 4) dL_acts_366 (by decide) ?_
      refine j_ialdN C (by assumption) dL_acts_367 (by omega) (by decide) ?_
      refine j_top (nI n) d41 ?_
      refine j_icmp_ge C 395 dL_acts_368 (by decide) (fun _ => ?_) (fun h => absurd (Int32.le_refl _) h)
      refine j_aload_n C dL_acts_395 rfl ?_
      refine j_iload C dL_acts_396 rfl ?_
      refine j_iload C dL_acts_398 rfl ?_
      refine j_bipush C (nI 8) dL_acts_400 (by decide) ?_
      refine j_idivN C dL_acts_402 (by omega) (by decide) (by decide) ?_
      refine j_iconst C (nI 2) dL_acts_403 (by decide) ?_
      refine j_iremN C dL_acts_404 (by omega) (by decide) (by decide) ?_
      refine j_top (nI w) (by rw [hw0]) ?_
      refine j_cVi C (c_X9_pin _ ω γ M1 R gx J1.CB num (nI w)) yc_X9_pin mn_L_120 im_X9_pin se_X9_pin rfl rfl dL_acts_405 rfl rfl (gx0) (by decide) (Nat.le_of_ble_eq_true rfl) (by decide) ?_
      refine j_top (sI (zPinF S2) n) eq1 ?_
      refine j_ghost M3 (fun z9 hz9 => lo3 z9 (by omega)) ?_
      refine j_iload C dL_acts_408 rfl ?_
      refine j_icmp_ne C 417 dL_acts_410 (by decide) (fun h => absurd (rfl) h) (fun _ => ?_)
      refine j_iconst C (nI 1) dL_acts_413 (by decide) ?_
      refine j_goto C 418 dL_acts_414 (by decide) ?_
      exact j_ireturn C E dL_acts_418 (by decide) (by decide) (by decide) (K _ _ _ (lQ_of gx gdd hvd hdm hjm J3 (by omega) A3))

set_option maxHeartbeats 4000000 in
set_option maxRecDepth 100000 in
theorem jAct_plan {X : jX} {ω : jW} {γ : jG} {M : jM} {R : jR} {Post : jPost} (C : jC X ω cL_acts yL_acts.cls 10 1 4) (E : jE X ω (some .boolean) 1 4 Post) (hxn : xn X = 14) {x a h T v m d b nh r n c : Nat} {f : Nat → Nat} (L : LI ω γ M R x a h T v m d b nh r n c f) (hb : b ≤ 90000) {y way : Nat} {z : Int32} (hy : y < 10000000) (hw3 : way < 26) (K : ∀ γ' M' R', lQ ω γ x a h T v m d b (some (.int (nI 1))) γ' M' R' → Post (some (.int (nI 1))) γ' M' R')  : J X ω γ M R 0 0 240 [(0, .ref x), (1, .ref d), (2, .ref (d + 1)), (3, .ref (d + 2)), (4, .ref (d + 3)), (5, .ref (d + 4)), (6, .ref (d + 5)), (7, .int z), (8, .int (nI y)), (9, .int (nI way))] [] := by
  have L9 := L
  have hb0 : b ≤ 100000 := by omega
  obtain ⟨gx, gd, hvd, hdm, hjm, I, e, hx, A⟩ := L
  have CBH := CB_inv I.1 e I.2.2.2.2.1 hx
  have gx0 := gx.1
  obtain ⟨g0, g1, g2, g3, g4, g5⟩ := gd
  have Z := zRd_of e A.2.2.2.2.2.2.1
  have H := lRd_of A
  have Q := zPn_of e A.2.2.2.2.2.2.2.2 hb0
  have hS := A.1
  have P := A.2.2.2.2.1
  have hr30 := Z.2.1
  have hc6 := Z.2.2.2.2.1
  have hsh := e.2.2.2.2.2.2.2.1
  have hn8 : n ≤ 8 := hsh.2.2.1
  have s0 : M (m + 1) 0 = nI r := Z.1
  have s3 : M (m + 1) 3 = nI c := e.2.2.2.1.2.1
  have s4 : M (m + 1) 4 = nI n := hsh.2.1
  have hd := e.2.2.2.2.2.2.2.2
  have d0 : M d 0 = nI r := (hS 0 (by decide)).trans s0
  have d3 : M d 3 = nI c := (hS 3 (by decide)).trans s3
  have d4 : M d 4 = nI n := (hS 4 (by decide)).trans s4
  have J : LJ M R a h T v m b nh r n c 0 f := ⟨I, e, hx⟩
  have gdd : gD ω γ d := ⟨g0, g1, g2, g3, g4, g5⟩
  have L := L9
  refine j_aload_n C dL_acts_240 rfl ?_
  refine j_iconst C (nI 4) dL_acts_241 (by decide) ?_
  refine j_ialdN C (by assumption) dL_acts_242 (by omega) (by decide) ?_
  refine j_top (nI n) (d4) ?_
  refine j_if_eq C 254 dL_acts_243 (by decide) (fun h243 => ?_) (fun h243 => ?_)
  · skip
    refine j_aload_n C dL_acts_254 rfl ?_
    refine j_iconst C (nI 5) dL_acts_255 (by decide) ?_
    refine j_ialdN C (by assumption) dL_acts_256 (by omega) (by decide) ?_
    refine j_top (M (m + 1) 5) (hS 5 (by decide)) ?_
    refine j_goto C 272 dL_acts_257 (by decide) ?_
    refine j_istore C dL_acts_272 (by rw [hxn]; decide) ?_
    refine j_locs [0, 1, 2, 3, 4, 5, 6, 7, 8, 9, 10] rfl ?_
    have hzN := zv_none hd hb0
    rcases lLast_z (zPlc (M (m + 1)) (M (m + 1) 5)) n with ⟨q9, k1, k2, k3, k4⟩ | ⟨k1, k2, k3⟩
    · have k5 : (0 : Int32) ≤ nI q9 := nI_pos' (by omega)
      rw [← k4, hzN] at k5
      exact absurd k5 (by decide)
    · exact jAct_none C E hxn L hb hy K k2 k3
  · skip
    have hn0 : 0 < n := Nat.pos_of_ne_zero fun z9 => h243 (by rw [z9]; exact nI_0)
    refine j_iload C dL_acts_246 rfl ?_
    refine j_bipush C (nI 7) dL_acts_248 (by decide) ?_
    refine j_iremN C dL_acts_250 (by omega) (by decide) (by decide) ?_
    refine j_if_ne C 260 dL_acts_251 (by decide) (fun h251 => ?_) (fun h251 => ?_)
    · skip
      refine j_aload C dL_acts_260 rfl ?_
      refine j_bipush C (nI 8) dL_acts_262 (by decide) ?_
      refine j_iload C dL_acts_264 rfl ?_
      refine j_aload_n C dL_acts_266 rfl ?_
      refine j_iconst C (nI 4) dL_acts_267 (by decide) ?_
      refine j_ialdN C (by assumption) dL_acts_268 (by omega) (by decide) ?_
      refine j_top (nI n) (d4) ?_
      refine j_iremN C dL_acts_269 (by omega) (hn0) (by omega) ?_
      obtain ⟨q, hq9, eq9⟩ : ∃ q, q < n ∧ y % n = q := ⟨_, Nat.mod_lt _ hn0, rfl⟩
      refine j_top (nI q) (by rw [eq9]) ?_
      first | with_reducible refine j_imulN C dL_acts_270 ?_ | refine j_imul C dL_acts_270 ?_
      refine j_ialdN C (by assumption) dL_acts_271 (by omega) (by decide) ?_
      refine j_top (M (m + 1) (367 + 9 * q + 0)) ((P q hq9).1 0 (by decide)) ?_
      refine j_istore C dL_acts_272 (by rw [hxn]; decide) ?_
      refine j_locs [0, 1, 2, 3, 4, 5, 6, 7, 8, 9, 10] rfl ?_
      have hzA := zv_at hd hq9
      rcases lLast_z (zPlc (M (m + 1)) (M (m + 1) (367 + 9 * q + 0))) n with ⟨q9, k1, k2, k3, k4⟩ | ⟨k1, k2, k3⟩
      · have k5 : q9 = q := nI_inj (k4.symm.trans hzA) (by omega) (by omega)
        rw [k5] at k3
        exact jAct_found C E hxn L hb hy K hq9 hw3 k3 hzA
      · have k5 : (0 : Int32) ≤ nI q := nI_pos' (by omega)
        rw [← hzA, k3] at k5
        exact absurd k5 (by decide)
    · skip
      refine j_aload_n C dL_acts_254 rfl ?_
      refine j_iconst C (nI 5) dL_acts_255 (by decide) ?_
      refine j_ialdN C (by assumption) dL_acts_256 (by omega) (by decide) ?_
      refine j_top (M (m + 1) 5) (hS 5 (by decide)) ?_
      refine j_goto C 272 dL_acts_257 (by decide) ?_
      refine j_istore C dL_acts_272 (by rw [hxn]; decide) ?_
      refine j_locs [0, 1, 2, 3, 4, 5, 6, 7, 8, 9, 10] rfl ?_
      have hzN := zv_none hd hb0
      rcases lLast_z (zPlc (M (m + 1)) (M (m + 1) 5)) n with ⟨q9, k1, k2, k3, k4⟩ | ⟨k1, k2, k3⟩
      · have k5 : (0 : Int32) ≤ nI q9 := nI_pos' (by omega)
        rw [← k4, hzN] at k5
        exact absurd k5 (by decide)
      · exact jAct_none C E hxn L hb hy K k2 k3

set_option maxHeartbeats 16000000 in
set_option maxRecDepth 100000 in
theorem jAct_run {X : jX} {ω : jW} {γ : jG} {M : jM} {R : jR} {Post : jPost} (C : jC X ω cL_acts yL_acts.cls 10 1 4) (E : jE X ω (some .boolean) 1 4 Post) (hxn : xn X = 14) {x a h T v m d b nh r n c : Nat} {f : Nat → Nat} (L : LI ω γ M R x a h T v m d b nh r n c f) (hb8 : b ≤ 80000) {y way : Nat} {z : Int32} (hy : y < 10000000) (hc0 : 0 < c) (hjm1 : jlo ω + jn γ + 1 ≤ m) (K : ∀ γ' M' R', lQ1 ω γ x a h T v m d b (some (.int (nI 1))) γ' M' R' → Post (some (.int (nI 1))) γ' M' R')  : J X ω γ M R 0 0 73 [(0, .ref x), (1, .ref d), (2, .ref (d + 1)), (3, .ref (d + 2)), (4, .ref (d + 3)), (5, .ref (d + 4)), (6, .ref (d + 5)), (7, .int z), (8, .int (nI y)), (9, .int (nI way))] [] := by
  have hb : b ≤ 90000 := by omega
  have L9 := L
  have hb0 : b ≤ 100000 := by omega
  obtain ⟨gx, gd, hvd, hdm, hjm, I, e, hx, A⟩ := L
  have CBH := CB_inv I.1 e I.2.2.2.2.1 hx
  have gx0 := gx.1
  obtain ⟨g0, g1, g2, g3, g4, g5⟩ := gd
  have Z := zRd_of e A.2.2.2.2.2.2.1
  have H := lRd_of A
  have Q := zPn_of e A.2.2.2.2.2.2.2.2 hb0
  have hS := A.1
  have P := A.2.2.2.2.1
  have hr30 := Z.2.1
  have hc6 := Z.2.2.2.2.1
  have hsh := e.2.2.2.2.2.2.2.1
  have hn8 : n ≤ 8 := hsh.2.2.1
  have s0 : M (m + 1) 0 = nI r := Z.1
  have s3 : M (m + 1) 3 = nI c := e.2.2.2.1.2.1
  have s4 : M (m + 1) 4 = nI n := hsh.2.1
  have hd := e.2.2.2.2.2.2.2.2
  have d0 : M d 0 = nI r := (hS 0 (by decide)).trans s0
  have d3 : M d 3 = nI c := (hS 3 (by decide)).trans s3
  have d4 : M d 4 = nI n := (hS 4 (by decide)).trans s4
  have J : LJ M R a h T v m b nh r n c 0 f := ⟨I, e, hx⟩
  have gdd : gD ω γ d := ⟨g0, g1, g2, g3, g4, g5⟩
  have hdw0 := gD_lt gdd
  obtain ⟨t, ht, et⟩ : ∃ t, t < c ∧ y % c = t := ⟨_, Nat.mod_lt _ hc0, rfl⟩
  have ht6 : t < 6 := by omega
  have hnc := lN4 Z ht
  obtain ⟨w, hw⟩ : ∃ w, w = jlo ω + jn γ := ⟨_, rfl⟩
  obtain ⟨γ1, hγ1⟩ : ∃ γ1, γ1 = jnew ω γ 12 4 := ⟨_, rfl⟩
  have le1 : jLe ω γ γ1 := by rw [hγ1]; exact jLe_new ω γ 12 4
  have hjn1 : jn γ1 = jn γ + 1 := by rw [hγ1]; rfl
  have gw : jArr ω γ1 w 12 4 := by rw [hγ1, hw]; exact jArr_new ω γ 12 4
  have hjm9 : jlo ω + jn γ1 ≤ m := by rw [hjn1]; omega
  obtain ⟨R0, hR0⟩ : ∃ R0, R0 = jz R w none := ⟨_, rfl⟩
  refine j_iload C dL_acts_73 rfl ?_
  refine j_aload_n C dL_acts_75 rfl ?_
  refine j_iconst C (nI 3) dL_acts_76 (by decide) ?_
  refine j_ialdN C (by assumption) dL_acts_77 (by omega) (by decide) ?_
  refine j_top (nI c) (d3) ?_
  refine j_iremN C dL_acts_78 (by omega) (hc0) (by omega) ?_
  refine j_top (nI t) (by rw [et]) ?_
  refine j_istore C dL_acts_79 (by rw [hxn]; decide) ?_
  refine j_iconst C (nI 4) dL_acts_81 (by decide) ?_
  refine j_newI C ar_I (by decide) dL_acts_82 (by decide) ?_
  rw [← hw, ← hγ1, lVk_0, ← hR0]
  refine j_astore C dL_acts_84 (by rw [hxn]; decide) ?_
  refine j_iconst C (nI 0) dL_acts_86 (by decide) ?_
  refine j_istore C dL_acts_87 (by rw [hxn]; decide) ?_
  refine j_locs [0, 1, 2, 3, 4, 5, 6, 7, 8, 9, 10, 11, 12] (l' := [(0, .ref x), (1, .ref d), (2, .ref (d + 1)), (3, .ref (d + 2)), (4, .ref (d + 3)), (5, .ref (d + 4)), (6, .ref (d + 5)), (7, .int z), (8, .int (nI y)), (9, .int (nI way)), (10, .int (nI t)), (11, .ref w), (12, .int (nI 0))]) rfl ?_
  refine j_loop (zN (M (m + 1)) t) (fun k => [(0, .ref x), (1, .ref d), (2, .ref (d + 1)), (3, .ref (d + 2)), (4, .ref (d + 3)), (5, .ref (d + 4)), (6, .ref (d + 5)), (7, .int z), (8, .int (nI y)), (9, .int (nI way)), (10, .int (nI t)), (11, .ref w), (12, .int (nI k))]) (fun k => lVk M w y k) (fun _ => R0) (fun _ => True) trivial (fun k hk _ ih => ?_) (fun _ => ?_)
  · skip
    have gd1 := lt_D le1 gdd
    have H1 := lRd_of (lA_M A (fun z1 h1 h2 => lVk_o M (w := w) (y := y) (k := k) (show z1 ≠ w by omega)))
    refine j_iload C dL_acts_89 rfl ?_
    refine j_aload C dL_acts_91 rfl ?_
    refine j_iload C dL_acts_93 rfl ?_
    refine j_cSi C (c_L_many _ ω γ1 (lVk M w y k) R0 gd1 H1 Z ht) yc_L_many mn_L_40 st_L_many dL_acts_95 rfl rfl (Nat.le_of_ble_eq_true rfl) (by decide) ?_
    refine j_icmp_ge C 162 dL_acts_98 (by decide) (fun h => absurd h (nI_ge hk (by omega))) (fun _ => ?_)
    refine j_aload C dL_acts_101 rfl ?_
    refine j_iload C dL_acts_103 rfl ?_
    refine j_iload C dL_acts_105 rfl ?_
    refine j_if_ne C 118 dL_acts_107 (by decide) (fun h107 => ?_) (fun h107 => ?_)
    · skip
      have hk0 : ¬ k = 0 := fun z9 => h107 (by rw [z9]; exact nI_0)
      refine j_iload C dL_acts_118 rfl ?_
      refine j_iconst C (nI 1) dL_acts_120 (by decide) ?_
      refine j_icmp_ne C 133 dL_acts_121 (by decide) (fun h121 => ?_) (fun h121 => ?_)
      · skip
        have hk1 : ¬ k = 1 := fun z9 => h121 (by rw [z9])
        refine j_iload C dL_acts_133 rfl ?_
        refine j_iconst C (nI 2) dL_acts_135 (by decide) ?_
        refine j_icmp_ne C 147 dL_acts_136 (by decide) (fun h136 => ?_) (fun h136 => ?_)
        · skip
          have hk2 : ¬ k = 2 := fun z9 => h136 (by rw [z9])
          refine j_iload C dL_acts_147 rfl ?_
          refine j_bipush C (nI 31) dL_acts_149 (by decide) ?_
          refine j_idivN C dL_acts_151 (by omega) (by decide) (by decide) ?_
          refine j_bipush C (nI 32) dL_acts_152 (by decide) ?_
          refine j_iremN C dL_acts_154 (by omega) (by decide) (by decide) ?_
          refine j_top (nI (lVv y k)) (by unfold lVv; rw [if_neg hk0, if_neg hk1, if_neg hk2]) ?_
          refine j_iastN C (gw) dL_acts_155 (by omega) (by decide) ?_
          refine j_mem (lVk M w y (k + 1)) (lVk_s M w y k) ?_
          first | refine j_iinc1 C dL_acts_156 rfl (by rw [hxn]; decide) ?_ | refine j_iinc C _ dL_acts_156 rfl rfl (by rw [hxn]; decide) ?_
          refine j_goto C 89 dL_acts_159 (by decide) ?_
          exact ih trivial
        · skip
          have hk2 : k = 2 := nI_inj h136 (by omega) (by decide)
          refine j_iload C dL_acts_139 rfl ?_
          refine j_bipush C (nI 11) dL_acts_141 (by decide) ?_
          refine j_idivN C dL_acts_143 (by omega) (by decide) (by decide) ?_
          refine j_goto C 152 dL_acts_144 (by decide) ?_
          refine j_bipush C (nI 32) dL_acts_152 (by decide) ?_
          refine j_iremN C dL_acts_154 (by omega) (by decide) (by decide) ?_
          refine j_top (nI (lVv y k)) (by unfold lVv; rw [if_neg hk0, if_neg hk1, if_pos hk2]) ?_
          refine j_iastN C (gw) dL_acts_155 (by omega) (by decide) ?_
          refine j_mem (lVk M w y (k + 1)) (lVk_s M w y k) ?_
          first | refine j_iinc1 C dL_acts_156 rfl (by rw [hxn]; decide) ?_ | refine j_iinc C _ dL_acts_156 rfl rfl (by rw [hxn]; decide) ?_
          refine j_goto C 89 dL_acts_159 (by decide) ?_
          exact ih trivial
      · skip
        have hk1 : k = 1 := nI_inj h121 (by omega) (by decide)
        refine j_iload C dL_acts_124 rfl ?_
        refine j_sipush C (nI 192) dL_acts_126 (by decide) ?_
        refine j_idivN C dL_acts_129 (by omega) (by decide) (by decide) ?_
        refine j_goto C 152 dL_acts_130 (by decide) ?_
        refine j_bipush C (nI 32) dL_acts_152 (by decide) ?_
        refine j_iremN C dL_acts_154 (by omega) (by decide) (by decide) ?_
        refine j_top (nI (lVv y k)) (by unfold lVv; rw [if_neg hk0, if_pos hk1]) ?_
        refine j_iastN C (gw) dL_acts_155 (by omega) (by decide) ?_
        refine j_mem (lVk M w y (k + 1)) (lVk_s M w y k) ?_
        first | refine j_iinc1 C dL_acts_156 rfl (by rw [hxn]; decide) ?_ | refine j_iinc C _ dL_acts_156 rfl rfl (by rw [hxn]; decide) ?_
        refine j_goto C 89 dL_acts_159 (by decide) ?_
        exact ih trivial
    · skip
      have hk0 : k = 0 := nI_inj (h107.trans nI_0.symm) (by omega) (by decide)
      refine j_iload C dL_acts_110 rfl ?_
      refine j_bipush C (nI 6) dL_acts_112 (by decide) ?_
      refine j_idivN C dL_acts_114 (by omega) (by decide) (by decide) ?_
      refine j_goto C 152 dL_acts_115 (by decide) ?_
      refine j_bipush C (nI 32) dL_acts_152 (by decide) ?_
      refine j_iremN C dL_acts_154 (by omega) (by decide) (by decide) ?_
      refine j_top (nI (lVv y k)) (by unfold lVv; rw [if_pos hk0]) ?_
      refine j_iastN C (gw) dL_acts_155 (by omega) (by decide) ?_
      refine j_mem (lVk M w y (k + 1)) (lVk_s M w y k) ?_
      first | refine j_iinc1 C dL_acts_156 rfl (by rw [hxn]; decide) ?_ | refine j_iinc C _ dL_acts_156 rfl rfl (by rw [hxn]; decide) ?_
      refine j_goto C 89 dL_acts_159 (by decide) ?_
      exact ih trivial
  · skip
    have gd1 := lt_D le1 gdd
    have H1 := lRd_of (lA_M A (fun z1 h1 h2 => lVk_o M (w := w) (y := y) (k := (zN (M (m + 1)) t)) (show z1 ≠ w by omega)))
    obtain ⟨Mv, hMv⟩ : ∃ Mv, Mv = lVk M w y (zN (M (m + 1)) t) := ⟨_, rfl⟩
    have hF := lVk_F M w y (zN (M (m + 1)) t)
    have hMo : ∀ z1, z1 ≠ w → Mv z1 = M z1 := fun z1 h1 => by rw [hMv]; exact lVk_o M h1
    rw [← hMv] at hF H1
    rw [← hMv]
    have L1 := LI_grow (R2 := R0) L9 le1 hjm9 (Nat.le_of_eq hw.symm) (by omega) hMo (fun z1 h1 => by rw [hR0]; exact jz_row R none h1)
    obtain ⟨gx1, -, -, -, -, I1, e1, hx1, A1⟩ := id L1
    have gx10 := gx1.1
    have J1 : LJ Mv R0 a h T v m (b + 1) nh r n c 0 f := ⟨I1, e1, hx1⟩
    obtain ⟨cap, P1⟩ := lP0_of (nh' := nh) J1 A1 (by omega) ht (Mv w 0) (Mv w 1) (Mv w 2) (Mv w 3)
    obtain ⟨N, hN⟩ : ∃ N, N = zRn Mv m nh (nI t) (Mv w 0) (Mv w 1) (Mv w 2) (Mv w 3) := ⟨_, rfl⟩
    rw [← hN] at P1
    have hV1 : ∀ k, k < 4 → Mv w k = N (m + 4) k := fun k hk => by rw [hN, zRn_4]; exact (mTk_V Mv m (Mv w) k hk).symm
    have e11 : Mv (m + 1) = M (m + 1) := hMo _ (by omega)
    refine j_iload C dL_acts_89 rfl ?_
    refine j_aload C dL_acts_91 rfl ?_
    refine j_iload C dL_acts_93 rfl ?_
    refine j_cSi C (c_L_many _ ω γ1 Mv R0 gd1 H1 Z ht) yc_L_many mn_L_40 st_L_many dL_acts_95 rfl rfl (Nat.le_of_ble_eq_true rfl) (by decide) ?_
    refine j_icmp_ge C 162 dL_acts_98 (by decide) (fun _ => ?_) (fun h => absurd (Int32.le_refl _) h)
    refine j_aload_n C dL_acts_162 rfl ?_
    refine j_aload_n C dL_acts_163 rfl ?_
    refine j_aload_n C dL_acts_164 rfl ?_
    refine j_aload C dL_acts_165 rfl ?_
    refine j_aload C dL_acts_167 rfl ?_
    refine j_aload C dL_acts_169 rfl ?_
    refine j_iload C dL_acts_171 rfl ?_
    refine j_aload C dL_acts_173 rfl ?_
    refine j_callS C (c_L_runs _ ω γ1 Mv R0 gd1 P1 (by omega) gw (by omega) hV1) yc_L_runs mn_L_109 st_L_runs dL_acts_175 rfl rfl (Nat.le_of_ble_eq_true rfl) (by decide) (by decide) ?_
    rintro _ γ9 Mr R9 ⟨rfl, h91, h92, hMr, n2, hn2, h42, A2⟩
    rw [h91, h92]
    obtain ⟨sm, hsm⟩ : ∃ sm, sm = sI (zAllF (zGoes N m t r n (zN (N (m + 1)) t) (m + 1)) (N (m + 4)) t (zN (N (m + 1)) t)) r := ⟨_, rfl⟩
    refine j_top sm hsm.symm ?_
    refine j_istore C dL_acts_178 (by rw [hxn]; decide) ?_
    refine j_iconst C (nI 0) dL_acts_180 (by decide) ?_
    refine j_istore C dL_acts_181 (by rw [hxn]; decide) ?_
    refine j_locs [0, 1, 2, 3, 4, 5, 6, 7, 8, 9, 10, 11, 12, 13] (l' := [(0, .ref x), (1, .ref d), (2, .ref (d + 1)), (3, .ref (d + 2)), (4, .ref (d + 3)), (5, .ref (d + 4)), (6, .ref (d + 5)), (7, .int z), (8, .int (nI y)), (9, .int (nI way)), (10, .int (nI t)), (11, .ref w), (12, .int sm), (13, .int (nI 0))]) rfl ?_
    refine j_mem (lWk Mr d w 0) (lWk_0 Mr d w) ?_
    refine j_loop 4 (fun k => [(0, .ref x), (1, .ref d), (2, .ref (d + 1)), (3, .ref (d + 2)), (4, .ref (d + 3)), (5, .ref (d + 4)), (6, .ref (d + 5)), (7, .int z), (8, .int (nI y)), (9, .int (nI way)), (10, .int (nI t)), (11, .ref w), (12, .int sm), (13, .int (nI k))]) (fun k => lWk Mr d w k) (fun _ => R0) (fun _ => True) trivial (fun k hk _ ih2 => ?_) (fun _ => ?_)
    · skip
      refine j_iload C dL_acts_183 rfl ?_
      refine j_iconst C (nI 4) dL_acts_185 (by decide) ?_
      refine j_icmp_ge C 207 dL_acts_186 (by decide) (fun h => absurd h (nI_ge hk (by omega))) (fun _ => ?_)
      refine j_aload C dL_acts_189 rfl ?_
      refine j_iconst C (nI 1) dL_acts_191 (by decide) ?_
      refine j_iload C dL_acts_192 rfl ?_
      first | with_reducible refine j_iaddN C dL_acts_194 ?_ | refine j_iadd C dL_acts_194 ?_
      refine j_aload C dL_acts_195 rfl ?_
      refine j_iload C dL_acts_197 rfl ?_
      refine j_ialdN C (gw) dL_acts_199 (by omega) (by decide) ?_
      refine j_top (Mr w k) (by rw [lWk_o Mr (by omega)]) ?_
      refine j_iastN C (gd1.2.2.2.2.2) dL_acts_200 (by omega) (by decide) ?_
      refine j_mem (lWk Mr d w (k + 1)) (lWk_s Mr d w k) ?_
      first | refine j_iinc1 C dL_acts_201 rfl (by rw [hxn]; decide) ?_ | refine j_iinc C _ dL_acts_201 rfl rfl (by rw [hxn]; decide) ?_
      refine j_goto C 183 dL_acts_204 (by decide) ?_
      exact ih2 trivial
    · skip
      obtain ⟨Mw, hMw⟩ : ∃ Mw, Mw = lWk Mr d w 4 := ⟨_, rfl⟩
      rw [← hMw]
      have hMw1 : ∀ z1, (z1 < d ∨ d + 6 ≤ z1) → Mw z1 = Mv z1 := fun z1 h1 => by rw [hMw, lWk_o Mr (by omega)]; exact hMr z1 h1
      have A3 := lA_l A2 (M1 := Mw) (fun z1 h1 h2 => by rw [hMw, lWk_o Mr (by omega)]) (fun i hi => by rw [hMw]; exact lWk_i Mr hi (Nat.le_refl 4))
      obtain ⟨J2, eq2, M3, lo3, nh3, f3, J3, A4⟩ := op_runs (V := Mv w) J1 (by omega) hvd (show d + 6 ≤ w by omega) (by omega) ht (by rw [e11]; exact hF) hN hMw1 A3 hn2 h42
      rw [← hsm] at eq2
      have hv : ∀ k, Mw w k = Mv w k := fun k => by rw [hMw1 w (by omega)]
      refine j_iload C dL_acts_183 rfl ?_
      refine j_iconst C (nI 4) dL_acts_185 (by decide) ?_
      refine j_icmp_ge C 207 dL_acts_186 (by decide) (fun _ => ?_) (fun h => absurd (Int32.le_refl _) h)
      refine j_aload_n C dL_acts_207 rfl ?_
      refine j_iload C dL_acts_208 rfl ?_
      refine j_aload C dL_acts_210 rfl ?_
      refine j_iconst C (nI 0) dL_acts_212 (by decide) ?_
      refine j_ialdN C (gw) dL_acts_213 (by omega) (by decide) ?_
      refine j_top (Mv w 0) (hv 0) ?_
      refine j_aload C dL_acts_214 rfl ?_
      refine j_iconst C (nI 1) dL_acts_216 (by decide) ?_
      refine j_ialdN C (gw) dL_acts_217 (by omega) (by decide) ?_
      refine j_top (Mv w 1) (hv 1) ?_
      refine j_aload C dL_acts_218 rfl ?_
      refine j_iconst C (nI 2) dL_acts_220 (by decide) ?_
      refine j_ialdN C (gw) dL_acts_221 (by omega) (by decide) ?_
      refine j_top (Mv w 2) (hv 2) ?_
      refine j_aload C dL_acts_222 rfl ?_
      refine j_iconst C (nI 3) dL_acts_224 (by decide) ?_
      refine j_ialdN C (gw) dL_acts_225 (by omega) (by decide) ?_
      refine j_top (Mv w 3) (hv 3) ?_
      refine j_cVi C (c_X9_run _ ω γ1 Mw R0 gx1 J2.CB (nI t) (Mv w 0) (Mv w 1) (Mv w 2) (Mv w 3)) yc_X9_run mn_L_113 im_X9_run se_X9_run rfl rfl dL_acts_226 rfl rfl (gx10) (by decide) (Nat.le_of_ble_eq_true rfl) (by decide) ?_
      refine j_top sm eq2 ?_
      refine j_ghost M3 (fun z9 hz9 => lo3 z9 (by omega)) ?_
      refine j_iload C dL_acts_229 rfl ?_
      refine j_icmp_ne C 238 dL_acts_231 (by decide) (fun h => absurd (rfl) h) (fun _ => ?_)
      refine j_iconst C (nI 1) dL_acts_234 (by decide) ?_
      refine j_goto C 239 dL_acts_235 (by decide) ?_
      exact j_ireturn C E dL_acts_239 (by decide) (by decide) (by decide) (K _ _ _ ⟨rfl, le1, Nat.le_of_eq hjn1, b + 1 + 2, nh3, r, n2, c, f3, by omega, gx1, gd1, hvd, hdm, hjm9, J3.1, J3.2.1, J3.2.2, A4⟩)

set_option maxHeartbeats 4000000 in
set_option maxRecDepth 100000 in
theorem c_L_acts (l : Launch) (ω : jW) (γ : jG) (M : jM) (R : jR) {x a h T v m d b nh r n c : Nat} {f : Nat → Nat} (L : LI ω γ M R x a h T v m d b nh r n c f) (hb8 : b ≤ 80000) (hjm1 : jlo ω + jn γ + 1 ≤ m) (z : Int32) : Ct l ω yL_acts cL_acts 14 (some .boolean) 10 1 4 [.ref x, .ref d, .ref (d + 1), .ref (d + 2), .ref (d + 3), .ref (d + 4), .ref (d + 5), .int z] γ M R (lQ1 ω γ x a h T v m d b) := by
  refine Ct_of (by decide) (Nat.le_of_ble_eq_true rfl) rfl (jcat_of rfl) ?_
  intro X C E hnm hxl hxn
  subst hxl
  have hb : b ≤ 90000 := by omega
  have L9 := L
  have hb0 : b ≤ 100000 := by omega
  obtain ⟨gx, gd, hvd, hdm, hjm, I, e, hx, A⟩ := L
  have CBH := CB_inv I.1 e I.2.2.2.2.1 hx
  have gx0 := gx.1
  obtain ⟨g0, g1, g2, g3, g4, g5⟩ := gd
  have Z := zRd_of e A.2.2.2.2.2.2.1
  have H := lRd_of A
  have Q := zPn_of e A.2.2.2.2.2.2.2.2 hb0
  have hS := A.1
  have P := A.2.2.2.2.1
  have hr30 := Z.2.1
  have hc6 := Z.2.2.2.2.1
  have hsh := e.2.2.2.2.2.2.2.1
  have hn8 : n ≤ 8 := hsh.2.2.1
  have s0 : M (m + 1) 0 = nI r := Z.1
  have s3 : M (m + 1) 3 = nI c := e.2.2.2.1.2.1
  have s4 : M (m + 1) 4 = nI n := hsh.2.1
  have hd := e.2.2.2.2.2.2.2.2
  have d0 : M d 0 = nI r := (hS 0 (by decide)).trans s0
  have d3 : M d 3 = nI c := (hS 3 (by decide)).trans s3
  have d4 : M d 4 = nI n := (hS 4 (by decide)).trans s4
  have J : LJ M R a h T v m b nh r n c 0 f := ⟨I, e, hx⟩
  have gdd : gD ω γ d := ⟨g0, g1, g2, g3, g4, g5⟩
  refine j_iload C dL_acts_0 rfl ?_
  refine j_iconst C (nI 5) dL_acts_2 (by decide) ?_
  refine j_ishr C dL_acts_3 ?_
  refine j_ldc C ck_L_97 dL_acts_4 ?_
  refine j_top (nI 10000000) (by decide) ?_
  refine j_callS C (c_L_low _ ω γ M R (n := 10000000) (by decide) (by decide)) yc_L_low mn_L_98 st_L_low dL_acts_6 rfl rfl (Nat.le_of_ble_eq_true rfl) (by decide) (by decide) ?_
  rintro _ γ9 M9 R9 ⟨⟨y, hy, rfl⟩, h91, h92, h93⟩
  rw [h91, h92, h93]
  refine j_istore C dL_acts_9 (by rw [hxn]; decide) ?_
  refine j_iload C dL_acts_11 rfl ?_
  refine j_bipush C (nI 26) dL_acts_13 (by decide) ?_
  refine j_callS C (c_L_low _ ω γ M R (n := 26) (by decide) (by decide)) yc_L_low mn_L_98 st_L_low dL_acts_15 rfl rfl (Nat.le_of_ble_eq_true rfl) (by decide) (by decide) ?_
  rintro _ γ8 M8 R8 ⟨⟨way, hw3, rfl⟩, h81, h82, h83⟩
  rw [h81, h82, h83]
  refine j_istore C dL_acts_18 (by rw [hxn]; decide) ?_
  refine j_iload C dL_acts_20 rfl ?_
  refine j_bipush C (nI 9) dL_acts_22 (by decide) ?_
  refine j_icmp_ge C 43 dL_acts_24 (by decide) (fun h24 => ?_) (fun h24 => ?_)
  · skip
    refine j_iload C dL_acts_43 rfl ?_
    refine j_bipush C (nI 12) dL_acts_45 (by decide) ?_
    refine j_icmp_lt C 56 dL_acts_47 (by decide) (fun h47 => ?_) (fun h47 => ?_)
    · skip
      refine j_aload_n C dL_acts_56 rfl ?_
      refine j_aload_n C dL_acts_57 rfl ?_
      refine j_aload C dL_acts_58 rfl ?_
      refine j_iload C dL_acts_60 rfl ?_
      refine j_callS C (c_L_tells _ ω γ M R L9 hb hy) yc_L_tells mn_L_105 st_L_tells dL_acts_62 rfl rfl (Nat.le_of_ble_eq_true rfl) (by decide) (by decide) ?_
      rintro v1 γ1 M1 R1 hQ
      obtain ⟨rfl, -⟩ := id hQ
      exact j_ireturn C E dL_acts_65 (by decide) (by decide) (by decide) (lQ_1 hQ)
    · skip
      refine j_aload_n C dL_acts_50 rfl ?_
      refine j_iconst C (nI 3) dL_acts_51 (by decide) ?_
      refine j_ialdN C (by assumption) dL_acts_52 (by omega) (by decide) ?_
      refine j_top (nI c) (d3) ?_
      refine j_if_ne C 66 dL_acts_53 (by decide) (fun h53 => ?_) (fun h53 => ?_)
      · skip
        refine j_iload C dL_acts_66 rfl ?_
        refine j_bipush C (nI 23) dL_acts_68 (by decide) ?_
        refine j_icmp_ge C 240 dL_acts_70 (by decide) (fun h70 => ?_) (fun h70 => ?_)
        · skip
          refine j_locs [0, 1, 2, 3, 4, 5, 6, 7, 8, 9] rfl ?_
          exact jAct_plan C E hxn L9 hb hy hw3 (fun _ _ _ H9 => lQ_1 H9)
        · skip
          have hc0 : 0 < c := Nat.pos_of_ne_zero fun z9 => h53 (by rw [z9]; exact nI_0)
          refine j_locs [0, 1, 2, 3, 4, 5, 6, 7, 8, 9] rfl ?_
          exact jAct_run C E hxn L9 hb8 hy hc0 hjm1 (fun _ _ _ H9 => H9)
      · skip
        refine j_aload_n C dL_acts_56 rfl ?_
        refine j_aload_n C dL_acts_57 rfl ?_
        refine j_aload C dL_acts_58 rfl ?_
        refine j_iload C dL_acts_60 rfl ?_
        refine j_callS C (c_L_tells _ ω γ M R L9 hb hy) yc_L_tells mn_L_105 st_L_tells dL_acts_62 rfl rfl (Nat.le_of_ble_eq_true rfl) (by decide) (by decide) ?_
        rintro v1 γ1 M1 R1 hQ
        obtain ⟨rfl, -⟩ := id hQ
        exact j_ireturn C E dL_acts_65 (by decide) (by decide) (by decide) (lQ_1 hQ)
  · skip
    have hw9 : way < 9 := Nat.lt_of_not_le fun q => h24 (nI_le q (by omega))
    refine j_aload_n C dL_acts_27 rfl ?_
    refine j_aload_n C dL_acts_28 rfl ?_
    refine j_aload_n C dL_acts_29 rfl ?_
    refine j_aload_n C dL_acts_30 rfl ?_
    refine j_aload C dL_acts_31 rfl ?_
    refine j_aload C dL_acts_33 rfl ?_
    refine j_iload C dL_acts_35 rfl ?_
    refine j_iload C dL_acts_37 rfl ?_
    refine j_callS C (c_L_changes _ ω γ M R L9 hb hw9 hy) yc_L_changes mn_L_101 st_L_changes dL_acts_39 rfl rfl (Nat.le_of_ble_eq_true rfl) (by decide) (by decide) ?_
    rintro v1 γ1 M1 R1 hQ
    obtain ⟨rfl, -⟩ := id hQ
    exact j_ireturn C E dL_acts_42 (by decide) (by decide) (by decide) (lQ_1 hQ)
