set_option maxHeartbeats 4000000 in
set_option maxRecDepth 100000 in
theorem c_L_changes_ana (l : Launch) (ω : jW) (γ : jG) (M : jM) (R : jR) {x a h T v m d b nh r n c : Nat} {f : Nat → Nat} (L : LI ω γ M R x a h T v m d b nh r n c f) (hb : b ≤ 90000) {way y : Nat} (hw : 6 ≤ way) (hw2 : way < 8) (hy : y < 10000000) : Ct l ω yL_changes cL_changes 12 (some .boolean) 8 0 0 [.ref x, .ref d, .ref (d + 1), .ref (d + 2), .ref (d + 3), .ref (d + 4), .int (nI way), .int (nI y)] γ M R (lQ ω γ x a h T v m d b) := by
  refine Ct_of (by decide) (Nat.le_of_ble_eq_true rfl) rfl (jcat_of rfl) ?_
  intro X C E hnm hxl hxn
  subst hxl
  have hb0 : b ≤ 100000 := by omega
  obtain ⟨gx, gd, hvd, hdm, hjm, I, e, hx, A⟩ := L
  have CBH := CB_inv I.1 e I.2.2.2.2.1 hx
  have gx0 := gx.1
  obtain ⟨g0, g1, g2, g3, g4, g5⟩ := gd
  have Z := zRd_of e A.2.2.2.2.2.2.1
  have H := lRd_of A
  have Q := zPn_of e A.2.2.2.2.2.2.2.2 hb0
  have hS := A.1
  have P := A.2.2.2.2.1
  have hr30 := Z.2.1
  have hc6 := Z.2.2.2.2.1
  have hsh := e.2.2.2.2.2.2.2.1
  have hn8 : n ≤ 8 := hsh.2.2.1
  have s0 : M (m + 1) 0 = nI r := Z.1
  have s3 : M (m + 1) 3 = nI c := e.2.2.2.1.2.1
  have s4 : M (m + 1) 4 = nI n := hsh.2.1
  have hd := e.2.2.2.2.2.2.2.2
  have d0 : M d 0 = nI r := (hS 0 (by decide)).trans s0
  have d3 : M d 3 = nI c := (hS 3 (by decide)).trans s3
  have d4 : M d 4 = nI n := (hS 4 (by decide)).trans s4
  have J : LJ M R a h T v m b nh r n c 0 f := ⟨I, e, hx⟩
  have gdd : gD ω γ d := ⟨g0, g1, g2, g3, g4, g5⟩
  refine j_iload C dL_changes_0 rfl ?_
  refine j_iconst C (nI 3) dL_changes_2 (by decide) ?_
  refine j_icmp_ge C 167 dL_changes_3 (by decide) (fun _ => ?_) (fun h => absurd (nI_le (by omega) (by omega)) h)
  refine j_iload C dL_changes_167 rfl ?_
  refine j_iconst C (nI 3) dL_changes_169 (by decide) ?_
  refine j_icmp_ne C 264 dL_changes_170 (by decide) (fun _ => ?_) (fun h => absurd h (fun q => by have := nI_inj q (by omega) (by decide); omega))
  refine j_iload C dL_changes_264 rfl ?_
  refine j_bipush C (nI 6) dL_changes_266 (by decide) ?_
  refine j_icmp_ge C 461 dL_changes_268 (by decide) (fun _ => ?_) (fun h => absurd (nI_le (by omega) (by omega)) h)
  refine j_iload C dL_changes_461 rfl ?_
  refine j_bipush C (nI 8) dL_changes_463 (by decide) ?_
  refine j_icmp_ge C 580 dL_changes_465 (by decide) (fun h => absurd h (nI_ge hw2 (by decide))) (fun _ => ?_)
  refine j_iconst C (nI 0) dL_changes_468 (by decide) ?_
  refine j_istore C dL_changes_469 (by rw [hxn]; decide) ?_
  refine j_mem (lZr M d 0) (lZr_0 M d).symm ?_
  refine j_loop 64 (fun q => [(0, .ref x), (1, .ref d), (2, .ref (d + 1)), (3, .ref (d + 2)), (4, .ref (d + 3)), (5, .ref (d + 4)), (6, .int (nI way)), (7, .int (nI y)), (8, .int (nI q))]) (fun q => lZr M d q) (fun _ => R) (fun _ => True) trivial (fun q hq _ ih => ?_) (fun _ => ?_)
  · skip
    refine j_iload C dL_changes_471 rfl ?_
    refine j_bipush C (nI 64) dL_changes_473 (by decide) ?_
    refine j_icmp_ge C 489 dL_changes_475 (by decide) (fun h => absurd h (nI_ge hq (by decide))) (fun _ => ?_)
    refine j_aload_n C dL_changes_478 rfl ?_
    refine j_iload C dL_changes_479 rfl ?_
    refine j_lconst C (lN 0) dL_changes_481 (by decide) ?_
    refine j_last C (by assumption) (by omega) (by decide) dL_changes_482 ?_
    refine j_mem (lZr M d (q + 1)) (lZr_s _ _ _) ?_
    first | refine j_iinc1 C dL_changes_483 rfl (by rw [hxn]; decide) ?_ | refine j_iinc C _ dL_changes_483 rfl rfl (by rw [hxn]; decide) ?_
    refine j_goto C 471 dL_changes_486 (by decide) ?_
    exact ih trivial
  · skip
    refine j_iload C dL_changes_471 rfl ?_
    refine j_bipush C (nI 64) dL_changes_473 (by decide) ?_
    refine j_icmp_ge C 489 dL_changes_475 (by decide) (fun _ => ?_) (fun h => absurd (Int32.le_refl _) h)
    refine j_iconst C (nI 0) dL_changes_489 (by decide) ?_
    refine j_istore C dL_changes_490 (by rw [hxn]; decide) ?_
    refine j_mem (lAcM M d (M (m + 1)) 0) (lAcM_0 _ _ _) ?_
    refine j_loop (4 * r) (fun q => [(0, .ref x), (1, .ref d), (2, .ref (d + 1)), (3, .ref (d + 2)), (4, .ref (d + 3)), (5, .ref (d + 4)), (6, .int (nI way)), (7, .int (nI y)), (8, .int (nI q))]) (fun q => lAcM M d (M (m + 1)) q) (fun _ => R) (fun _ => True) trivial (fun q hq _ ih => ?_) (fun _ => ?_)
    · skip
      obtain ⟨v2, hv2⟩ : ∃ v2, v2 = zV (M (m + 1)) (q / 4) (q % 4) := ⟨_, rfl⟩
      obtain ⟨w2, hw2⟩ : ∃ w2, w2 = zV (M (m + 1)) (q / 4) 4 := ⟨_, rfl⟩
      have hz1 := Z.2.2.1 (q / 4) (by omega) (q % 4) (by omega)
      have hz2 := Z.2.2.2.1 (q / 4) (by omega)
      rw [← hv2] at hz1
      rw [← hw2] at hz2
      have b1 := lAcN_lt Z (2 * (16 * (q % 4) + v2 / 2)) q (by omega)
      have b2 := lAcN_lt Z (2 * (16 * (q % 4) + v2 / 2) + 1) q (by omega)
      have hv32 := hz1.2
      have hw9 := hz2.1
      refine j_iload C dL_changes_492 rfl ?_
      refine j_iconst C (nI 4) dL_changes_494 (by decide) ?_
      refine j_aload_n C dL_changes_495 rfl ?_
      refine j_iconst C (nI 0) dL_changes_496 (by decide) ?_
      refine j_ialdN C (by assumption) dL_changes_497 (by omega) (by decide) ?_
      refine j_top (nI r) (by rw [lAcM_o _ _ (by omega)]; exact d0) ?_
      first | with_reducible refine j_imulN C dL_changes_498 ?_ | refine j_imul C dL_changes_498 ?_
      refine j_icmp_ge C 556 dL_changes_499 (by decide) (fun h => absurd h (nI_ge hq (by omega))) (fun _ => ?_)
      refine j_aload_n C dL_changes_502 rfl ?_
      refine j_iload C dL_changes_503 rfl ?_
      refine j_iconst C (nI 4) dL_changes_505 (by decide) ?_
      refine j_idivN C dL_changes_506 (by omega) (by decide) (by decide) ?_
      refine j_iload C dL_changes_507 rfl ?_
      refine j_iconst C (nI 4) dL_changes_509 (by decide) ?_
      refine j_iremN C dL_changes_510 (by omega) (by decide) (by decide) ?_
      refine j_cSi C (c_L_of _ ω γ _ R ⟨g0, g1, g2, g3, g4, g5⟩ (lAcS_H H Z q) (lAcS_Z Z (by omega)) (k := q / 4) (j := q % 4) (by omega) (by omega)) yc_L_of mn_L_25 st_L_of dL_changes_511 rfl rfl (Nat.le_of_ble_eq_true rfl) (by decide) ?_
      refine j_top (nI v2) ((lAcS_o (by omega)).trans hz1.1) ?_
      refine j_istore C dL_changes_514 (by rw [hxn]; decide) ?_
      refine j_aload_n C dL_changes_516 rfl ?_
      refine j_bipush C (nI 16) dL_changes_517 (by decide) ?_
      refine j_iload C dL_changes_519 rfl ?_
      refine j_iconst C (nI 4) dL_changes_521 (by decide) ?_
      refine j_iremN C dL_changes_522 (by omega) (by decide) (by decide) ?_
      first | with_reducible refine j_imulN C dL_changes_523 ?_ | refine j_imul C dL_changes_523 ?_
      refine j_iload C dL_changes_524 rfl ?_
      refine j_iconst C (nI 2) dL_changes_526 (by decide) ?_
      refine j_idivN C dL_changes_527 (by omega) (by decide) (by decide) ?_
      first | with_reducible refine j_iaddN C dL_changes_528 ?_ | refine j_iadd C dL_changes_528 ?_
      refine j_dup2 C dL_changes_529 rfl rfl ?_
      refine j_lald C (by assumption) (by omega) (by decide) dL_changes_530 ?_
      refine j_topl (lN (lAcN (M (m + 1)) q (2 * (16 * (q % 4) + v2 / 2)) + 2 ^ 32 * lAcN (M (m + 1)) q (2 * (16 * (q % 4) + v2 / 2) + 1))) (by rw [lAcM_i _ _ (by omega), lAcM_i _ _ (by omega), jlg_N (by omega), Nat.mod_eq_of_lt (b := 2 ^ 32) (by omega)]) ?_
      refine j_aload_n C dL_changes_531 rfl ?_
      refine j_iload C dL_changes_532 rfl ?_
      refine j_iconst C (nI 4) dL_changes_534 (by decide) ?_
      refine j_idivN C dL_changes_535 (by omega) (by decide) (by decide) ?_
      refine j_cSi C (c_L_weight _ ω γ _ R ⟨g0, g1, g2, g3, g4, g5⟩ (lAcS_H H Z q) (lAcS_Z Z (by omega)) (k := q / 4) (by omega)) yc_L_weight mn_L_11 st_L_weight dL_changes_536 rfl rfl (Nat.le_of_ble_eq_true rfl) (by decide) ?_
      refine j_top (nI w2) ((lAcS_o (by omega)).trans hz2.2) ?_
      refine j_i2l C _ (nI_l (by omega)) dL_changes_539 ?_
      refine j_bipush C (nI 32) dL_changes_540 (by decide) ?_
      refine j_iload C dL_changes_542 rfl ?_
      refine j_iconst C (nI 2) dL_changes_544 (by decide) ?_
      refine j_iremN C dL_changes_545 (by omega) (by decide) (by decide) ?_
      first | with_reducible refine j_imulN C dL_changes_546 ?_ | refine j_imul C dL_changes_546 ?_
      refine j_lshl C _ (wb_shl _ (by omega)) dL_changes_547 ?_
      refine j_ladd C dL_changes_548 ?_
      refine j_topl _ (lN_add _ _) ?_
      refine j_last C (by assumption) (by omega) (by decide) dL_changes_549 ?_
      refine j_mem (lAcM M d (M (m + 1)) (q + 1)) (lAcM_s Z M d hq hv2.symm hw2.symm) ?_
      first | refine j_iinc1 C dL_changes_550 rfl (by rw [hxn]; decide) ?_ | refine j_iinc C _ dL_changes_550 rfl rfl (by rw [hxn]; decide) ?_
      refine j_goto C 492 dL_changes_553 (by decide) ?_
      refine j_locs [0, 1, 2, 3, 4, 5, 6, 7, 8] rfl ?_
      exact ih trivial
    · skip
      refine j_iload C dL_changes_492 rfl ?_
      refine j_iconst C (nI 4) dL_changes_494 (by decide) ?_
      refine j_aload_n C dL_changes_495 rfl ?_
      refine j_iconst C (nI 0) dL_changes_496 (by decide) ?_
      refine j_ialdN C (by assumption) dL_changes_497 (by omega) (by decide) ?_
      refine j_top (nI r) (by rw [lAcM_o _ _ (by omega)]; exact d0) ?_
      first | with_reducible refine j_imulN C dL_changes_498 ?_ | refine j_imul C dL_changes_498 ?_
      refine j_icmp_ge C 556 dL_changes_499 (by decide) (fun _ => ?_) (fun h => absurd (Int32.le_refl _) h)
      refine j_aload_n C dL_changes_556 rfl ?_
      refine j_iconst C (nI 2) dL_changes_557 (by decide) ?_
      refine j_aload_n C dL_changes_558 rfl ?_
      refine j_aload_n C dL_changes_559 rfl ?_
      refine j_cSi C (c_L_size _ ω γ _ R ⟨g0, g1, g2, g3, g4, g5⟩ (lAcS_H H Z (4 * r)) (lAcS_Z Z (by omega))) yc_L_size mn_L_29 st_L_size dL_changes_560 rfl rfl (Nat.le_of_ble_eq_true rfl) (by decide) ?_
      refine j_top (sI (zRowW (M (m + 1))) r) (sI_congr (fun i hi => lAcS_o (by omega))) ?_
      refine j_iastN C (by assumption) dL_changes_563 (by omega) (by decide) ?_
      obtain ⟨M1, hM1⟩ : ∃ M1, M1 = jup (lAcM M d (M (m + 1)) (4 * r)) d 2 (sI (zRowW (M (m + 1))) r) := ⟨_, rfl⟩
      refine j_mem M1 hM1.symm ?_
      obtain ⟨J1, eq1, M3, lo3, nh3, f3, J3, A3, e2⟩ := op_ana J A hvd hdm hM1
      refine j_aload_n C dL_changes_564 rfl ?_
      refine j_cVi C (c_X9_analyse _ ω γ M1 R gx J1.CB) yc_X9_analyse mn_L_91 im_X9_analyse se_X9_analyse rfl rfl dL_changes_565 rfl rfl (gx0) (by decide) (Nat.le_of_ble_eq_true rfl) (by decide) ?_
      refine j_top _ eq1 ?_
      refine j_ghost M3 (fun y hy => lo3 y (by omega)) ?_
      refine j_aload_n C dL_changes_568 rfl ?_
      refine j_iconst C (nI 2) dL_changes_569 (by decide) ?_
      refine j_ialdN C (by assumption) dL_changes_570 (by omega) (by decide) ?_
      refine j_top _ ((A3.1 2 (by decide)).trans e2) ?_
      refine j_icmp_ne C 578 dL_changes_571 (by decide) (fun h => absurd (rfl) h) (fun _ => ?_)
      refine j_iconst C (nI 1) dL_changes_574 (by decide) ?_
      refine j_goto C 579 dL_changes_575 (by decide) ?_
      exact j_ireturn C E dL_changes_579 (by decide) (by decide) (by decide) (lQ_of gx gdd hvd hdm hjm J3 (by omega) A3)

set_option maxHeartbeats 4000000 in
set_option maxRecDepth 100000 in
theorem c_L_changes_idx1 (l : Launch) (ω : jW) (γ : jG) (M : jM) (R : jR) {x a h T v m d b nh r n c : Nat} {f : Nat → Nat} (L : LI ω γ M R x a h T v m d b nh r n c f) (hb : b ≤ 90000) {way y : Nat} (hw4 : 4 ≤ way) (hw2 : way < 6) (hy : y < 10000000) (hz : ¬ y / 4 % 3 = 0) : Ct l ω yL_changes cL_changes 12 (some .boolean) 8 0 0 [.ref x, .ref d, .ref (d + 1), .ref (d + 2), .ref (d + 3), .ref (d + 4), .int (nI way), .int (nI y)] γ M R (lQ ω γ x a h T v m d b) := by
  refine Ct_of (by decide) (Nat.le_of_ble_eq_true rfl) rfl (jcat_of rfl) ?_
  intro X C E hnm hxl hxn
  subst hxl
  have hb0 : b ≤ 100000 := by omega
  obtain ⟨gx, gd, hvd, hdm, hjm, I, e, hx, A⟩ := L
  have CBH := CB_inv I.1 e I.2.2.2.2.1 hx
  have gx0 := gx.1
  obtain ⟨g0, g1, g2, g3, g4, g5⟩ := gd
  have Z := zRd_of e A.2.2.2.2.2.2.1
  have H := lRd_of A
  have Q := zPn_of e A.2.2.2.2.2.2.2.2 hb0
  have hS := A.1
  have P := A.2.2.2.2.1
  have hr30 := Z.2.1
  have hc6 := Z.2.2.2.2.1
  have hsh := e.2.2.2.2.2.2.2.1
  have hn8 : n ≤ 8 := hsh.2.2.1
  have s0 : M (m + 1) 0 = nI r := Z.1
  have s3 : M (m + 1) 3 = nI c := e.2.2.2.1.2.1
  have s4 : M (m + 1) 4 = nI n := hsh.2.1
  have hd := e.2.2.2.2.2.2.2.2
  have d0 : M d 0 = nI r := (hS 0 (by decide)).trans s0
  have d3 : M d 3 = nI c := (hS 3 (by decide)).trans s3
  have d4 : M d 4 = nI n := (hS 4 (by decide)).trans s4
  have J : LJ M R a h T v m b nh r n c 0 f := ⟨I, e, hx⟩
  have gdd : gD ω γ d := ⟨g0, g1, g2, g3, g4, g5⟩
  obtain ⟨j, hj0⟩ : ∃ j, j = y % 4 := ⟨_, rfl⟩
  have hj : j < 4 := by omega
  obtain ⟨u, hu, eu⟩ := A.2.2.2.2.2.2.2.1.2
  have d1 : M d 1 = nI u := (hS 1 (by decide)).trans eu
  have hpl0 : ∀ q, q < n → ∃ t, t < c ∧ M (m + 1) (367 + 9 * q + 1) = nI t ∧ ∃ y, (y = 9 ∨ y < zN (M (m + 1)) t) ∧ M (m + 1) (367 + 9 * q + 3) = nI y := fun q hq => (hsh.2.2.2.2.2 q hq).2
  refine j_iload C dL_changes_0 rfl ?_
  refine j_iconst C (nI 3) dL_changes_2 (by decide) ?_
  refine j_icmp_ge C 167 dL_changes_3 (by decide) (fun _ => ?_) (fun h => absurd (nI_le (by omega) (by omega)) h)
  refine j_iload C dL_changes_167 rfl ?_
  refine j_iconst C (nI 3) dL_changes_169 (by decide) ?_
  refine j_icmp_ne C 264 dL_changes_170 (by decide) (fun _ => ?_) (fun h => absurd h (fun q => by have := nI_inj q (by omega) (by decide); omega))
  refine j_iload C dL_changes_264 rfl ?_
  refine j_bipush C (nI 6) dL_changes_266 (by decide) ?_
  refine j_icmp_ge C 461 dL_changes_268 (by decide) (fun h => absurd h (nI_ge hw2 (by decide))) (fun _ => ?_)
  refine j_iload C dL_changes_271 rfl ?_
  refine j_iconst C (nI 4) dL_changes_273 (by decide) ?_
  refine j_iremN C dL_changes_274 (by omega) (by decide) (by decide) ?_
  refine j_top (nI j) (by rw [hj0]) ?_
  refine j_istore C dL_changes_275 (by rw [hxn]; decide) ?_
  refine j_iload C dL_changes_277 rfl ?_
  refine j_iconst C (nI 4) dL_changes_279 (by decide) ?_
  refine j_idivN C dL_changes_280 (by omega) (by decide) (by decide) ?_
  refine j_iconst C (nI 3) dL_changes_281 (by decide) ?_
  refine j_iremN C dL_changes_282 (by omega) (by decide) (by decide) ?_
  refine j_if_le C 290 dL_changes_283 (by decide) (fun h => absurd h (nI_nle (by omega) (by omega))) (fun _ => ?_)
  refine j_iconst C (nI 1) dL_changes_286 (by decide) ?_
  refine j_goto C 291 dL_changes_287 (by decide) ?_
  refine j_istore C dL_changes_291 (by rw [hxn]; decide) ?_
  refine j_aload_n C dL_changes_293 rfl ?_
  refine j_iconst C (nI 1) dL_changes_294 (by decide) ?_
  refine j_ialdN C (by assumption) dL_changes_295 (by omega) (by decide) ?_
  refine j_top (nI u) (d1) ?_
  refine j_iload C dL_changes_296 rfl ?_
  refine j_ishrN C dL_changes_298 (by omega) (by omega) ?_
  refine j_iconst C (nI 1) dL_changes_299 (by decide) ?_
  refine j_iand C dL_changes_300 ?_
  refine j_top _ (lx_m1 _) ?_
  refine j_iload C dL_changes_301 rfl ?_
  refine j_icmp_ne C 325 dL_changes_303 (by decide) (fun h303 => ?_) (fun h303 => ?_)
  · skip
    have hbit : u / 2 ^ j % 2 = 0 := by have h0 : ¬ u / 2 ^ j % 2 = 1 := fun q => h303 (by rw [q]); omega
    obtain ⟨ix1, ix2⟩ := ix_on hu hj hbit
    refine j_aload_n C dL_changes_325 rfl ?_
    refine j_iconst C (nI 1) dL_changes_326 (by decide) ?_
    refine j_dup2 C dL_changes_327 rfl rfl ?_
    refine j_ialdN C (by assumption) dL_changes_328 (by omega) (by decide) ?_
    refine j_top (nI u) d1 ?_
    refine j_iload C dL_changes_329 rfl ?_
    refine j_iconst C (nI 1) dL_changes_331 (by decide) ?_
    refine j_icmp_ne C 342 dL_changes_332 (by decide) (fun h => absurd (rfl) h) (fun _ => ?_)
    refine j_iconst C (nI 1) dL_changes_335 (by decide) ?_
    refine j_iload C dL_changes_336 rfl ?_
    refine j_ishl C dL_changes_338 ?_
    refine j_goto C 347 dL_changes_339 (by decide) ?_
    refine j_iadd C dL_changes_347 ?_
    refine j_top _ ix1 ?_
    refine j_iastN C (by assumption) dL_changes_348 (by omega) (by decide) ?_
    refine j_iconst C (nI 0) dL_changes_349 (by decide) ?_
    refine j_istore C dL_changes_350 (by rw [hxn]; decide) ?_
    refine j_aload_n C dL_changes_352 rfl ?_
    refine j_iconst C (nI 4) dL_changes_353 (by decide) ?_
    refine j_ialdN C (by assumption) dL_changes_354 (by omega) (by decide) ?_
    refine j_top (nI n) (by rw [jup_nk _ _ (by decide)]; exact d4) ?_
    refine j_iconst C (nI 1) dL_changes_355 (by decide) ?_
    refine j_isub C dL_changes_356 ?_
    refine j_istore C dL_changes_357 (by rw [hxn]; decide) ?_
    refine j_iload C dL_changes_359 rfl ?_
    refine j_if_lt C 433 dL_changes_361 (by decide) (fun h361 => ?_) (fun h361 => ?_)
    · skip
      refine j_aload_n C dL_changes_433 rfl ?_
      refine j_bipush C (nI 10) dL_changes_434 (by decide) ?_
      refine j_dup2 C dL_changes_436 rfl rfl ?_
      refine j_ialdN C (by assumption) dL_changes_437 (by omega) (by decide) ?_
      refine j_top (M (m + 1) 10) (by rw [jup_nk _ _ (by decide)]; exact hS 10 (by decide)) ?_
      refine j_iload C dL_changes_438 rfl ?_
      refine j_iadd C dL_changes_440 ?_
      refine j_iastN C (by assumption) dL_changes_441 (by omega) (by decide) ?_
      obtain ⟨M1, hM1⟩ : ∃ M1, M1 = jup (jup M d 1 (nI u ^^^ (nI 1 <<< (nI j &&& 31)))) d 10 (M (m + 1) 10 + nI 0) := ⟨_, rfl⟩
      refine j_mem M1 hM1.symm ?_
      obtain ⟨J1, eq1, M3, lo3, nh3, f3, J3, A3⟩ := op_idx J A hvd hdm (M1 := M1) (w := 1) (k := 0) hj (by decide) hu eu (by omega) rfl (zIx_w (by decide) n n _ 0) (Nat.le_refl n) (fun i _ _ => rfl) (by rw [jup_nk _ _ (by decide)]; exact s4) (fun x h1 h2 => by rw [hM1, jup_row _ _ h1, jup_row _ _ h1]) (by rw [hM1, jup_eq]) (by rw [hM1, jup_nk _ _ (by decide), jup_nk _ _ (by decide)]; exact d4) (by rw [hM1, jup_nk _ _ (by decide), jup_eq, jup_eq]) (fun i h1 h2 h3 => by rw [hM1, jup_nk _ _ h3, jup_nk _ _ h1]) (lPl_c P (by rw [hM1, jup_row _ _ (by omega), jup_row _ _ (by omega)]) (fun i h1 h2 => jup_nk _ _ (by omega))) (xSp_c A.2.2.2.2.2.2.2.2 (Nat.le_refl b) (fun i h1 h2 => jup_nk _ _ (by omega))) ix2
      refine j_aload_n C dL_changes_442 rfl ?_
      refine j_iload C dL_changes_443 rfl ?_
      refine j_iload C dL_changes_445 rfl ?_
      refine j_cVi C (c_X9_index _ ω γ M1 R gx J1.CB (nI j) (nI 1)) yc_X9_index mn_L_87 im_X9_index se_X9_index rfl rfl dL_changes_447 rfl rfl (gx0) (by decide) (Nat.le_of_ble_eq_true rfl) (by decide) ?_
      refine j_top (nI 0) eq1 ?_
      refine j_ghost M3 (fun y hy => lo3 y (by omega)) ?_
      refine j_iload C dL_changes_450 rfl ?_
      refine j_icmp_ne C 459 dL_changes_452 (by decide) (fun h => absurd (rfl) h) (fun _ => ?_)
      refine j_iconst C (nI 1) dL_changes_455 (by decide) ?_
      refine j_goto C 460 dL_changes_456 (by decide) ?_
      exact j_ireturn C E dL_changes_460 (by decide) (by decide) (by decide) (lQ_of gx gdd hvd hdm hjm J3 (by omega) A3)
    · skip
      refine j_iload C dL_changes_364 rfl ?_
      refine j_if_ne C 433 dL_changes_366 (by decide) (fun _ => ?_) (fun h => absurd h (by decide))
      refine j_aload_n C dL_changes_433 rfl ?_
      refine j_bipush C (nI 10) dL_changes_434 (by decide) ?_
      refine j_dup2 C dL_changes_436 rfl rfl ?_
      refine j_ialdN C (by assumption) dL_changes_437 (by omega) (by decide) ?_
      refine j_top (M (m + 1) 10) (by rw [jup_nk _ _ (by decide)]; exact hS 10 (by decide)) ?_
      refine j_iload C dL_changes_438 rfl ?_
      refine j_iadd C dL_changes_440 ?_
      refine j_iastN C (by assumption) dL_changes_441 (by omega) (by decide) ?_
      obtain ⟨M1, hM1⟩ : ∃ M1, M1 = jup (jup M d 1 (nI u ^^^ (nI 1 <<< (nI j &&& 31)))) d 10 (M (m + 1) 10 + nI 0) := ⟨_, rfl⟩
      refine j_mem M1 hM1.symm ?_
      obtain ⟨J1, eq1, M3, lo3, nh3, f3, J3, A3⟩ := op_idx J A hvd hdm (M1 := M1) (w := 1) (k := 0) hj (by decide) hu eu (by omega) rfl (zIx_w (by decide) n n _ 0) (Nat.le_refl n) (fun i _ _ => rfl) (by rw [jup_nk _ _ (by decide)]; exact s4) (fun x h1 h2 => by rw [hM1, jup_row _ _ h1, jup_row _ _ h1]) (by rw [hM1, jup_eq]) (by rw [hM1, jup_nk _ _ (by decide), jup_nk _ _ (by decide)]; exact d4) (by rw [hM1, jup_nk _ _ (by decide), jup_eq, jup_eq]) (fun i h1 h2 h3 => by rw [hM1, jup_nk _ _ h3, jup_nk _ _ h1]) (lPl_c P (by rw [hM1, jup_row _ _ (by omega), jup_row _ _ (by omega)]) (fun i h1 h2 => jup_nk _ _ (by omega))) (xSp_c A.2.2.2.2.2.2.2.2 (Nat.le_refl b) (fun i h1 h2 => jup_nk _ _ (by omega))) ix2
      refine j_aload_n C dL_changes_442 rfl ?_
      refine j_iload C dL_changes_443 rfl ?_
      refine j_iload C dL_changes_445 rfl ?_
      refine j_cVi C (c_X9_index _ ω γ M1 R gx J1.CB (nI j) (nI 1)) yc_X9_index mn_L_87 im_X9_index se_X9_index rfl rfl dL_changes_447 rfl rfl (gx0) (by decide) (Nat.le_of_ble_eq_true rfl) (by decide) ?_
      refine j_top (nI 0) eq1 ?_
      refine j_ghost M3 (fun y hy => lo3 y (by omega)) ?_
      refine j_iload C dL_changes_450 rfl ?_
      refine j_icmp_ne C 459 dL_changes_452 (by decide) (fun h => absurd (rfl) h) (fun _ => ?_)
      refine j_iconst C (nI 1) dL_changes_455 (by decide) ?_
      refine j_goto C 460 dL_changes_456 (by decide) ?_
      exact j_ireturn C E dL_changes_460 (by decide) (by decide) (by decide) (lQ_of gx gdd hvd hdm hjm J3 (by omega) A3)
  · skip
    have hbit : u / 2 ^ j % 2 = 1 := nI_inj h303 (by omega) (by decide)
    refine j_aload_n C dL_changes_306 rfl ?_
    refine j_iload C dL_changes_307 rfl ?_
    refine j_iload C dL_changes_309 rfl ?_
    obtain ⟨eq1, M3, lo3, nh3, f3, J3, A3⟩ := op_idxN J A hvd hdm (w := 1) hj (by decide) hu eu hbit
    refine j_cVi C (c_X9_index _ ω γ M R gx CBH (nI j) (nI 1)) yc_X9_index mn_L_87 im_X9_index se_X9_index rfl rfl dL_changes_311 rfl rfl (gx0) (by decide) (Nat.le_of_ble_eq_true rfl) (by decide) ?_
    refine j_top (-2) eq1 ?_
    refine j_ghost M3 (fun y hy => lo3 y (by omega)) ?_
    refine j_bipush C (-2) dL_changes_314 (by decide) ?_
    refine j_icmp_ne C 323 dL_changes_316 (by decide) (fun h => absurd (rfl) h) (fun _ => ?_)
    refine j_iconst C (nI 1) dL_changes_319 (by decide) ?_
    refine j_goto C 324 dL_changes_320 (by decide) ?_
    exact j_ireturn C E dL_changes_324 (by decide) (by decide) (by decide) (lQ_of gx gdd hvd hdm hjm J3 (by omega) A3)

set_option maxHeartbeats 16000000 in
set_option maxRecDepth 100000 in
theorem c_L_changes_idx0 (l : Launch) (ω : jW) (γ : jG) (M : jM) (R : jR) {x a h T v m d b nh r n c : Nat} {f : Nat → Nat} (L : LI ω γ M R x a h T v m d b nh r n c f) (hb : b ≤ 90000) {way y : Nat} (hw4 : 4 ≤ way) (hw2 : way < 6) (hy : y < 10000000) (hz : y / 4 % 3 = 0) : Ct l ω yL_changes cL_changes 12 (some .boolean) 8 0 0 [.ref x, .ref d, .ref (d + 1), .ref (d + 2), .ref (d + 3), .ref (d + 4), .int (nI way), .int (nI y)] γ M R (lQ ω γ x a h T v m d b) := by
  refine Ct_of (by decide) (Nat.le_of_ble_eq_true rfl) rfl (jcat_of rfl) ?_
  intro X C E hnm hxl hxn
  subst hxl
  have hb0 : b ≤ 100000 := by omega
  obtain ⟨gx, gd, hvd, hdm, hjm, I, e, hx, A⟩ := L
  have CBH := CB_inv I.1 e I.2.2.2.2.1 hx
  have gx0 := gx.1
  obtain ⟨g0, g1, g2, g3, g4, g5⟩ := gd
  have Z := zRd_of e A.2.2.2.2.2.2.1
  have H := lRd_of A
  have Q := zPn_of e A.2.2.2.2.2.2.2.2 hb0
  have hS := A.1
  have P := A.2.2.2.2.1
  have hr30 := Z.2.1
  have hc6 := Z.2.2.2.2.1
  have hsh := e.2.2.2.2.2.2.2.1
  have hn8 : n ≤ 8 := hsh.2.2.1
  have s0 : M (m + 1) 0 = nI r := Z.1
  have s3 : M (m + 1) 3 = nI c := e.2.2.2.1.2.1
  have s4 : M (m + 1) 4 = nI n := hsh.2.1
  have hd := e.2.2.2.2.2.2.2.2
  have d0 : M d 0 = nI r := (hS 0 (by decide)).trans s0
  have d3 : M d 3 = nI c := (hS 3 (by decide)).trans s3
  have d4 : M d 4 = nI n := (hS 4 (by decide)).trans s4
  have J : LJ M R a h T v m b nh r n c 0 f := ⟨I, e, hx⟩
  have gdd : gD ω γ d := ⟨g0, g1, g2, g3, g4, g5⟩
  obtain ⟨j, hj0⟩ : ∃ j, j = y % 4 := ⟨_, rfl⟩
  have hj : j < 4 := by omega
  obtain ⟨u, hu, eu⟩ := A.2.2.2.2.2.2.2.1.2
  have d1 : M d 1 = nI u := (hS 1 (by decide)).trans eu
  have hpl0 : ∀ q, q < n → ∃ t, t < c ∧ M (m + 1) (367 + 9 * q + 1) = nI t ∧ ∃ y, (y = 9 ∨ y < zN (M (m + 1)) t) ∧ M (m + 1) (367 + 9 * q + 3) = nI y := fun q hq => (hsh.2.2.2.2.2 q hq).2
  refine j_iload C dL_changes_0 rfl ?_
  refine j_iconst C (nI 3) dL_changes_2 (by decide) ?_
  refine j_icmp_ge C 167 dL_changes_3 (by decide) (fun _ => ?_) (fun h => absurd (nI_le (by omega) (by omega)) h)
  refine j_iload C dL_changes_167 rfl ?_
  refine j_iconst C (nI 3) dL_changes_169 (by decide) ?_
  refine j_icmp_ne C 264 dL_changes_170 (by decide) (fun _ => ?_) (fun h => absurd h (fun q => by have := nI_inj q (by omega) (by decide); omega))
  refine j_iload C dL_changes_264 rfl ?_
  refine j_bipush C (nI 6) dL_changes_266 (by decide) ?_
  refine j_icmp_ge C 461 dL_changes_268 (by decide) (fun h => absurd h (nI_ge hw2 (by decide))) (fun _ => ?_)
  refine j_iload C dL_changes_271 rfl ?_
  refine j_iconst C (nI 4) dL_changes_273 (by decide) ?_
  refine j_iremN C dL_changes_274 (by omega) (by decide) (by decide) ?_
  refine j_top (nI j) (by rw [hj0]) ?_
  refine j_istore C dL_changes_275 (by rw [hxn]; decide) ?_
  refine j_iload C dL_changes_277 rfl ?_
  refine j_iconst C (nI 4) dL_changes_279 (by decide) ?_
  refine j_idivN C dL_changes_280 (by omega) (by decide) (by decide) ?_
  refine j_iconst C (nI 3) dL_changes_281 (by decide) ?_
  refine j_iremN C dL_changes_282 (by omega) (by decide) (by decide) ?_
  refine j_if_le C 290 dL_changes_283 (by decide) (fun _ => ?_) (fun h => absurd (by rw [hz]; decide) h)
  refine j_iconst C (nI 0) dL_changes_290 (by decide) ?_
  refine j_istore C dL_changes_291 (by rw [hxn]; decide) ?_
  refine j_aload_n C dL_changes_293 rfl ?_
  refine j_iconst C (nI 1) dL_changes_294 (by decide) ?_
  refine j_ialdN C (by assumption) dL_changes_295 (by omega) (by decide) ?_
  refine j_top (nI u) (d1) ?_
  refine j_iload C dL_changes_296 rfl ?_
  refine j_ishrN C dL_changes_298 (by omega) (by omega) ?_
  refine j_iconst C (nI 1) dL_changes_299 (by decide) ?_
  refine j_iand C dL_changes_300 ?_
  refine j_top _ (lx_m1 _) ?_
  refine j_iload C dL_changes_301 rfl ?_
  refine j_icmp_ne C 325 dL_changes_303 (by decide) (fun h303 => ?_) (fun h303 => ?_)
  · skip
    have hbit : u / 2 ^ j % 2 = 1 := by have h0 : ¬ u / 2 ^ j % 2 = 0 := fun q => h303 (by rw [q]); omega
    obtain ⟨ix1, ix2⟩ := ix_off hu hj hbit
    refine j_aload_n C dL_changes_325 rfl ?_
    refine j_iconst C (nI 1) dL_changes_326 (by decide) ?_
    refine j_dup2 C dL_changes_327 rfl rfl ?_
    refine j_ialdN C (by assumption) dL_changes_328 (by omega) (by decide) ?_
    refine j_top (nI u) d1 ?_
    refine j_iload C dL_changes_329 rfl ?_
    refine j_iconst C (nI 1) dL_changes_331 (by decide) ?_
    refine j_icmp_ne C 342 dL_changes_332 (by decide) (fun _ => ?_) (fun h => absurd h (by decide))
    refine j_iconst C (nI 1) dL_changes_342 (by decide) ?_
    refine j_iload C dL_changes_343 rfl ?_
    refine j_ishl C dL_changes_345 ?_
    refine j_ineg C dL_changes_346 ?_
    refine j_iadd C dL_changes_347 ?_
    refine j_top _ ix1 ?_
    refine j_iastN C (by assumption) dL_changes_348 (by omega) (by decide) ?_
    refine j_iconst C (nI 0) dL_changes_349 (by decide) ?_
    refine j_istore C dL_changes_350 (by rw [hxn]; decide) ?_
    refine j_aload_n C dL_changes_352 rfl ?_
    refine j_iconst C (nI 4) dL_changes_353 (by decide) ?_
    refine j_ialdN C (by assumption) dL_changes_354 (by omega) (by decide) ?_
    refine j_top (nI n) (by rw [jup_nk _ _ (by decide)]; exact d4) ?_
    refine j_iconst C (nI 1) dL_changes_355 (by decide) ?_
    refine j_isub C dL_changes_356 ?_
    refine j_istore C dL_changes_357 (by rw [hxn]; decide) ?_
    rw [show (Value.int (nI n - nI 1)) = Value.int (jPred n) from rfl]
    refine j_while (σ := Nat × Nat × jM × jM × Nat) (fun s => [(0, .ref x), (1, .ref d), (2, .ref (d + 1)), (3, .ref (d + 2)), (4, .ref (d + 3)), (5, .ref (d + 4)), (6, .int (nI way)), (7, .int (nI y)), (8, .int (nI j)), (9, .int (nI 0)), (10, .int (nI s.2.2.2.2)), (11, .int (jPred s.1))]) (fun s => s.2.2.1) (fun _ => R) (fun s => lIxI M d m c n b j (nI u ^^^ (nI 1 <<< (nI j &&& 31))) s.1 s.2.1 s.2.2.1 s.2.2.2.1 s.2.2.2.2) (fun s => s.1) (fun s hI ih => ?_) (n, n, jup M d 1 (nI u ^^^ (nI 1 <<< (nI j &&& 31))), jup M (m + 1) 1 (nI u ^^^ (nI 1 <<< (nI j &&& 31))), 0) ?_
    · skip
      obtain ⟨p1, n1, Ml, N1, k⟩ := s
      have hI0 : lIxI M d m c n b j (nI u ^^^ (nI 1 <<< (nI j &&& 31))) p1 n1 Ml N1 k := hI
      obtain ⟨hp1, hn1, hX1, hMo1, h41, h11, hMi1, hP1, hSp1, hN1, hN41, hpl1⟩ := hI0
      dsimp only at ih ⊢
      rcases Nat.eq_zero_or_pos p1 with rfl | hpos
      · skip
        have hX2 := hX1.symm
        dsimp only [zIx] at hX2
        refine j_iload C dL_changes_359 rfl ?_
        refine j_if_lt C 433 dL_changes_361 (by decide) (fun _ => ?_) (fun h => absurd (jPred_neg) h)
        refine j_aload_n C dL_changes_433 rfl ?_
        refine j_bipush C (nI 10) dL_changes_434 (by decide) ?_
        refine j_dup2 C dL_changes_436 rfl rfl ?_
        refine j_ialdN C (by assumption) dL_changes_437 (by omega) (by decide) ?_
        refine j_top (M (m + 1) 10) ((hMi1 10 (by decide) (by decide)).trans (hS 10 (by decide))) ?_
        refine j_iload C dL_changes_438 rfl ?_
        refine j_iadd C dL_changes_440 ?_
        refine j_iastN C (by assumption) dL_changes_441 (by omega) (by decide) ?_
        obtain ⟨M1, hM1⟩ : ∃ M1, M1 = jup Ml d 10 (M (m + 1) 10 + nI k) := ⟨_, rfl⟩
        refine j_mem M1 hM1.symm ?_
        obtain ⟨J1, eq1, M3, lo3, nh3, f3, J3, A3⟩ := op_idx J A hvd hdm (M1 := M1) (w := 0) (k := k) hj (by decide) hu eu (by omega) rfl hX2 hn1 hN1 hN41 (fun x h1 h2 => by rw [hM1, jup_row _ _ h1]; exact hMo1 x h1 h2) (by rw [hM1, jup_eq]) (by rw [hM1, jup_nk _ _ (by decide)]; exact h41) (by rw [hM1, jup_nk _ _ (by decide), jup_eq]; exact h11) (fun i h1 h2 h3 => by rw [hM1, jup_nk _ _ h3]; exact hMi1 i h1 h2) (lPl_c hP1 (by rw [hM1, jup_row _ _ (by omega)]) (fun i h1 h2 => rfl)) hSp1 ix2
        refine j_aload_n C dL_changes_442 rfl ?_
        refine j_iload C dL_changes_443 rfl ?_
        refine j_iload C dL_changes_445 rfl ?_
        refine j_cVi C (c_X9_index _ ω γ M1 R gx J1.CB (nI j) (nI 0)) yc_X9_index mn_L_87 im_X9_index se_X9_index rfl rfl dL_changes_447 rfl rfl (gx0) (by decide) (Nat.le_of_ble_eq_true rfl) (by decide) ?_
        refine j_top (nI k) eq1 ?_
        refine j_ghost M3 (fun y hy => lo3 y (by omega)) ?_
        refine j_iload C dL_changes_450 rfl ?_
        refine j_icmp_ne C 459 dL_changes_452 (by decide) (fun h => absurd (rfl) h) (fun _ => ?_)
        refine j_iconst C (nI 1) dL_changes_455 (by decide) ?_
        refine j_goto C 460 dL_changes_456 (by decide) ?_
        exact j_ireturn C E dL_changes_460 (by decide) (by decide) (by decide) (lQ_of gx gdd hvd hdm hjm J3 (by omega) A3)
      · skip
        obtain ⟨p, rfl⟩ : ∃ p, p1 = p + 1 := ⟨p1 - 1, by omega⟩
        rw [jPred_s p]
        have hpn : p < n1 := by omega
        obtain ⟨t, ht, et, y2, hy2, ey⟩ := hpl1 p hpn
        have HX := lIx_H H Z hMo1 h11 hMi1
        have ZX := lIx_Z (w := nI u ^^^ (nI 1 <<< (nI j &&& 31))) Z
        have hn4 := lN4 Z ht
        have ezn : zN (jup M (m + 1) 1 (nI u ^^^ (nI 1 <<< (nI j &&& 31))) (m + 1)) t = zN (M (m + 1)) t := by unfold zN; rw [jup_nk _ _ (by omega)]
        refine j_iload C dL_changes_359 rfl ?_
        refine j_if_lt C 433 dL_changes_361 (by decide) (fun h => absurd h (nI_pos (by omega))) (fun _ => ?_)
        refine j_iload C dL_changes_364 rfl ?_
        refine j_if_ne C 433 dL_changes_366 (by decide) (fun h => absurd (rfl) h) (fun _ => ?_)
        refine j_aload C dL_changes_369 rfl ?_
        refine j_bipush C (nI 8) dL_changes_371 (by decide) ?_
        refine j_iload C dL_changes_373 rfl ?_
        first | with_reducible refine j_imulN C dL_changes_375 ?_ | refine j_imul C dL_changes_375 ?_
        refine j_iconst C (nI 3) dL_changes_376 (by decide) ?_
        first | with_reducible refine j_iaddN C dL_changes_377 ?_ | refine j_iadd C dL_changes_377 ?_
        refine j_ialdN C (by assumption) dL_changes_378 (by omega) (by decide) ?_
        refine j_top (nI y2) (((hP1 p hpn).1 3 (by decide)).trans ey) ?_
        refine j_bipush C (nI 9) dL_changes_379 (by decide) ?_
        refine j_icmp_ge C 427 dL_changes_381 (by decide) (fun h381 => ?_) (fun h381 => ?_)
        · skip
          have hy9 : y2 = 9 := by have := (nI_leI (by decide) (by omega)).mp h381; omega
          refine j_iinc C (jPred p) dL_changes_427 rfl (jPred_i p) (by rw [hxn]; decide) ?_
          refine j_goto C 359 dL_changes_430 (by decide) ?_
          refine j_locs [0, 1, 2, 3, 4, 5, 6, 7, 8, 9, 10, 11] rfl ?_
          first | (have hz413 : _ = _ := h413; exact ih (p, n1 - 1, lOut Ml d n1 p, mOut N1 m n1 p, k + 1) (lIx_go hn8 hI (zGo_t et ey (by omega) (by omega) hy9 (hcz.trans hz413) nI_0)) (Nat.lt_succ_self p)) | exact ih (p, n1, Ml, N1, k) (lIx_stay hI (zGo_f1 ey (by rw [hy9]))) (Nat.lt_succ_self p) | exact ih (p, n1, Ml, N1, k) (lIx_stay hI (zGo_f2 et ey (by omega) (by omega) (fun q => h413 (hcz.symm.trans q)))) (Nat.lt_succ_self p)
        · skip
          have hyn : y2 < zN (M (m + 1)) t := by have h9 : y2 < 9 := Nat.lt_of_not_le fun q => h381 (nI_le q (by omega)); omega
          have hy9 : ¬ nI y2 = nI 9 := fun q => by have := nI_inj q (by omega) (by decide); omega
          have hcz0 := ((ZX.2.2.2.2.2.1 t ht).1.2.2.2.2 y2 (by rw [ezn]; exact hyn))
          have hcz : N1 (m + 1) (307 + 10 * t + 1 + y2) = nI (zCol (jup M (m + 1) 1 (nI u ^^^ (nI 1 <<< (nI j &&& 31))) (m + 1)) t y2) := (hN1 _ (by omega) (by omega)).trans hcz0.1
          have hop := (ZX.2.2.2.2.2.1 t ht).2 y2 (by rw [ezn]; exact hyn)
          refine j_aload C dL_changes_384 rfl ?_
          refine j_aload C dL_changes_386 rfl ?_
          refine j_bipush C (nI 8) dL_changes_388 (by decide) ?_
          refine j_iload C dL_changes_390 rfl ?_
          first | with_reducible refine j_imulN C dL_changes_392 ?_ | refine j_imul C dL_changes_392 ?_
          refine j_iconst C (nI 1) dL_changes_393 (by decide) ?_
          first | with_reducible refine j_iaddN C dL_changes_394 ?_ | refine j_iadd C dL_changes_394 ?_
          refine j_ialdN C (by assumption) dL_changes_395 (by omega) (by decide) ?_
          refine j_top (nI t) (((hP1 p hpn).1 1 (by decide)).trans et) ?_
          refine j_aload C dL_changes_396 rfl ?_
          refine j_bipush C (nI 8) dL_changes_398 (by decide) ?_
          refine j_iload C dL_changes_400 rfl ?_
          first | with_reducible refine j_imulN C dL_changes_402 ?_ | refine j_imul C dL_changes_402 ?_
          refine j_iconst C (nI 3) dL_changes_403 (by decide) ?_
          first | with_reducible refine j_iaddN C dL_changes_404 ?_ | refine j_iadd C dL_changes_404 ?_
          refine j_ialdN C (by assumption) dL_changes_405 (by omega) (by decide) ?_
          refine j_top (nI y2) (((hP1 p hpn).1 3 (by decide)).trans ey) ?_
          refine j_cSi C (c_L_condition _ ω γ Ml R ⟨g0, g1, g2, g3, g4, g5⟩ HX ZX ht (show y2 ≤ 4 by omega)) yc_L_condition mn_L_33 st_L_condition dL_changes_406 rfl rfl (Nat.le_of_ble_eq_true rfl) (by decide) ?_
          refine j_top (nI (lCd (jup M (m + 1) 1 (nI u ^^^ (nI 1 <<< (nI j &&& 31))) (m + 1)) t y2)) (by rw [lCd_of ZX ht (by rw [ezn]; exact hyn)]) ?_
          have hl12 := lCd_lt ZX ht (k := y2) (by rw [ezn]; exact hyn)
          refine j_iconst C (nI 3) dL_changes_409 (by decide) ?_
          refine j_idivN C dL_changes_410 (by omega) (by decide) (by decide) ?_
          refine j_top (nI (zCol (jup M (m + 1) 1 (nI u ^^^ (nI 1 <<< (nI j &&& 31))) (m + 1)) t y2)) (by congr 1; unfold lCd; have := hop.2; omega) ?_
          refine j_iload C dL_changes_411 rfl ?_
          refine j_icmp_ne C 427 dL_changes_413 (by decide) (fun h413 => ?_) (fun h413 => ?_)
          · skip
            refine j_iinc C (jPred p) dL_changes_427 rfl (jPred_i p) (by rw [hxn]; decide) ?_
            refine j_goto C 359 dL_changes_430 (by decide) ?_
            refine j_locs [0, 1, 2, 3, 4, 5, 6, 7, 8, 9, 10, 11] rfl ?_
            first | (have hz413 : _ = _ := h413; exact ih (p, n1 - 1, lOut Ml d n1 p, mOut N1 m n1 p, k + 1) (lIx_go hn8 hI (zGo_t et ey (by omega) (by omega) hy9 (hcz.trans hz413) nI_0)) (Nat.lt_succ_self p)) | exact ih (p, n1, Ml, N1, k) (lIx_stay hI (zGo_f1 ey (by rw [hy9]))) (Nat.lt_succ_self p) | exact ih (p, n1, Ml, N1, k) (lIx_stay hI (zGo_f2 et ey (by omega) (by omega) (fun q => h413 (hcz.symm.trans q)))) (Nat.lt_succ_self p)
          · skip
            refine j_aload_n C dL_changes_416 rfl ?_
            refine j_aload C dL_changes_417 rfl ?_
            refine j_iload C dL_changes_419 rfl ?_
            refine j_cSv C (c_L_takeOut _ ω γ Ml R (S := M (m + 1)) ⟨g0, g1, g2, g3, g4, g5⟩ h41 (by omega) hpn) yc_L_takeOut mn_L_58 st_L_takeOut dL_changes_421 rfl rfl (Nat.le_of_ble_eq_true rfl) (by decide) ?_
            first | refine j_iinc1 C dL_changes_424 rfl (by rw [hxn]; decide) ?_ | refine j_iinc C _ dL_changes_424 rfl rfl (by rw [hxn]; decide) ?_
            refine j_iinc C (jPred p) dL_changes_427 rfl (jPred_i p) (by rw [hxn]; decide) ?_
            refine j_goto C 359 dL_changes_430 (by decide) ?_
            refine j_locs [0, 1, 2, 3, 4, 5, 6, 7, 8, 9, 10, 11] rfl ?_
            first | (have hz413 : _ = _ := h413; exact ih (p, n1 - 1, lOut Ml d n1 p, mOut N1 m n1 p, k + 1) (lIx_go hn8 hI (zGo_t et ey (by omega) (by omega) hy9 (hcz.trans hz413) nI_0)) (Nat.lt_succ_self p)) | exact ih (p, n1, Ml, N1, k) (lIx_stay hI (zGo_f1 ey (by rw [hy9]))) (Nat.lt_succ_self p) | exact ih (p, n1, Ml, N1, k) (lIx_stay hI (zGo_f2 et ey (by omega) (by omega) (fun q => h413 (hcz.symm.trans q)))) (Nat.lt_succ_self p)
    exact lIx_0 d4 s4 P A.2.2.2.2.2.2.2.2 hpl0
  · skip
    have hbit : u / 2 ^ j % 2 = 0 := nI_inj h303 (by omega) (by decide)
    refine j_aload_n C dL_changes_306 rfl ?_
    refine j_iload C dL_changes_307 rfl ?_
    refine j_iload C dL_changes_309 rfl ?_
    obtain ⟨eq1, M3, lo3, nh3, f3, J3, A3⟩ := op_idxN J A hvd hdm (w := 0) hj (by decide) hu eu hbit
    refine j_cVi C (c_X9_index _ ω γ M R gx CBH (nI j) (nI 0)) yc_X9_index mn_L_87 im_X9_index se_X9_index rfl rfl dL_changes_311 rfl rfl (gx0) (by decide) (Nat.le_of_ble_eq_true rfl) (by decide) ?_
    refine j_top (-2) eq1 ?_
    refine j_ghost M3 (fun y hy => lo3 y (by omega)) ?_
    refine j_bipush C (-2) dL_changes_314 (by decide) ?_
    refine j_icmp_ne C 323 dL_changes_316 (by decide) (fun h => absurd (rfl) h) (fun _ => ?_)
    refine j_iconst C (nI 1) dL_changes_319 (by decide) ?_
    refine j_goto C 324 dL_changes_320 (by decide) ?_
    exact j_ireturn C E dL_changes_324 (by decide) (by decide) (by decide) (lQ_of gx gdd hvd hdm hjm J3 (by omega) A3)
