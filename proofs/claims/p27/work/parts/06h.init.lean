set_option maxHeartbeats 4000000 in
set_option maxRecDepth 100000 in
theorem c_X2_init (l : Launch) (ω : jW) (γ : jG) (M : jM) (R : jR) {a : Nat} (h1 : jlo ω ≤ a) (h2 : jlo ω + jn γ = a + 1) (h3 : row γ M R a = wN 2 0) : Ct l ω yX2_init cX2_init 1 none 1 0 0 [.ref a] γ M R (jIn ω a 1 (dPl a) γ M R) := by
  refine Ct_of (by decide) (Nat.le_of_ble_eq_true rfl) rfl (jcat_of rfl) ?_
  intro X C E hnm hxl hxn
  subst hxl
  refine j_aload_n C dX2_init_0 rfl ?_
  refine j_objInit C oi_X2_3 oi_im oi_c dX2_init_1 (by decide) (Nat.le_of_ble_eq_true rfl) ?_
  refine j_aload_n C dX2_init_4 rfl ?_
  refine j_bipush C (-4) dX2_init_5 (by decide) ?_
  refine j_putI C fl_X2_9 (jAt_row h1 (by omega) h3 rfl) dX2_init_7 (by decide) rfl (rfl) (rfl) ?_
  exact j_return C E dX2_init_10 (by decide) (by decide) (⟨rfl, h2, fun b => by rw [row_M, h3]; exact one_row _ _⟩)

set_option maxHeartbeats 4000000 in
set_option maxRecDepth 100000 in
theorem c_X6_init (l : Launch) (ω : jW) (γ : jG) (M : jM) (R : jR) {a : Nat} (h1 : jlo ω ≤ a) (h2 : jlo ω + jn γ = a + 1) (h3 : row γ M R a = wN 6 0) : Ct l ω yX6_init cX6_init 1 none 1 1 128 [.ref a] γ M R (jIn ω a 2 (dSums a) γ M R) := by
  refine Ct_of (by decide) (Nat.le_of_ble_eq_true rfl) rfl (jcat_of rfl) ?_
  intro X C E hnm hxl hxn
  subst hxl
  have H0 := jSt_0 (q := 1) (D := (dSums a)) h1 h2 h3 (by decide)
  refine j_aload_n C dX6_init_0 rfl ?_
  refine j_objInit C oi_X6_3 oi_im oi_c dX6_init_1 (by decide) (Nat.le_of_ble_eq_true rfl) ?_
  refine j_aload_n C dX6_init_4 rfl ?_
  refine j_sipush C (nI 128) dX6_init_5 (by decide) ?_
  refine j_newI C ar_I (by decide) dX6_init_8 (by decide) ?_
  refine j_gen (P := jSt ω _ a 1 (dSums a) _ _ 2) (jSt_arrq H0 rfl) (fun γ1 M1 R1 H1 => ?_)
  rw [H0.2.2.1]
  refine j_putP (ty := tyX6 0) C cl6 (by decide) rfl flw_X6_9 hnm (H1.atA rfl) dX6_init_10 (by decide) rfl rfl rfl ?_
  refine j_gen (P := jSt ω _ a 1 (dSums a) _ _ 2) (jSt_put H1) (fun γ2 M2 R2 H2 => ?_)
  exact j_return C E dX6_init_13 (by decide) (by decide) (jSt_end H2 (by rfl) (by decide) (by rfl) _ _ _ rfl)

set_option maxHeartbeats 4000000 in
set_option maxRecDepth 100000 in
theorem c_X1_init (l : Launch) (ω : jW) (γ : jG) (M : jM) (R : jR) {a : Nat} (h1 : jlo ω ≤ a) (h2 : jlo ω + jn γ = a + 1) (h3 : row γ M R a = wN 1 0) : Ct l ω yX1_init cX1_init 1 none 1 1 4 [.ref a] γ M R (jIn ω a 2 (dLast a) γ M R) := by
  refine Ct_of (by decide) (Nat.le_of_ble_eq_true rfl) rfl (jcat_of rfl) ?_
  intro X C E hnm hxl hxn
  subst hxl
  have H0 := jSt_0 (q := 1) (D := (dLast a)) h1 h2 h3 (by decide)
  refine j_aload_n C dX1_init_0 rfl ?_
  refine j_objInit C oi_X1_3 oi_im oi_c dX1_init_1 (by decide) (Nat.le_of_ble_eq_true rfl) ?_
  refine j_aload_n C dX1_init_4 rfl ?_
  refine j_iconst C (nI 4) dX1_init_5 (by decide) ?_
  refine j_newI C ar_I (by decide) dX1_init_6 (by decide) ?_
  refine j_gen (P := jSt ω _ a 1 (dLast a) _ _ 2) (jSt_arrq H0 rfl) (fun γ1 M1 R1 H1 => ?_)
  rw [H0.2.2.1]
  refine j_putP (ty := tyX1 0) C cl1 (by decide) rfl flw_X1_9 hnm (H1.atA rfl) dX1_init_8 (by decide) rfl rfl rfl ?_
  refine j_gen (P := jSt ω _ a 1 (dLast a) _ _ 2) (jSt_put H1) (fun γ2 M2 R2 H2 => ?_)
  exact j_return C E dX1_init_11 (by decide) (by decide) (jSt_end H2 (by rfl) (by decide) (by rfl) _ _ _ rfl)

set_option maxHeartbeats 4000000 in
set_option maxRecDepth 100000 in
theorem c_X8_init (l : Launch) (ω : jW) (γ : jG) (M : jM) (R : jR) {a : Nat} (h1 : jlo ω ≤ a) (h2 : jlo ω + jn γ = a + 1) (h3 : row γ M R a = wN 8 0) : Ct l ω yX8_init cX8_init 1 none 1 1 30 [.ref a] γ M R (jIn ω a 2 (dText a) γ M R) := by
  refine Ct_of (by decide) (Nat.le_of_ble_eq_true rfl) rfl (jcat_of rfl) ?_
  intro X C E hnm hxl hxn
  subst hxl
  have H0 := jSt_0 (q := 1) (D := (dText a)) h1 h2 h3 (by decide)
  refine j_aload_n C dX8_init_0 rfl ?_
  refine j_objInit C oi_X8_3 oi_im oi_c dX8_init_1 (by decide) (Nat.le_of_ble_eq_true rfl) ?_
  refine j_aload_n C dX8_init_4 rfl ?_
  refine j_bipush C (nI 30) dX8_init_5 (by decide) ?_
  refine j_newC C ar_C (by decide) dX8_init_7 (by decide) ?_
  refine j_gen (P := jSt ω _ a 1 (dText a) _ _ 2) (jSt_arrq H0 rfl) (fun γ1 M1 R1 H1 => ?_)
  rw [H0.2.2.1]
  refine j_putP (ty := tyX8 0) C cl8 (by decide) rfl flw_X8_9 hnm (H1.atA rfl) dX8_init_9 (by decide) rfl rfl rfl ?_
  refine j_gen (P := jSt ω _ a 1 (dText a) _ _ 2) (jSt_put H1) (fun γ2 M2 R2 H2 => ?_)
  exact j_return C E dX8_init_12 (by decide) (by decide) (jSt_end H2 (by rfl) (by decide) (by rfl) _ _ _ rfl)

set_option maxHeartbeats 4000000 in
set_option maxRecDepth 100000 in
theorem c_X5_init (l : Launch) (ω : jW) (γ : jG) (M : jM) (R : jR) {a : Nat} (h1 : jlo ω ≤ a) (h2 : jlo ω + jn γ = a + 1) (h3 : row γ M R a = wN 5 0) : Ct l ω yX5_init cX5_init 1 none 1 2 8 [.ref a] γ M R (jIn ω a 3 (dStm a) γ M R) := by
  refine Ct_of (by decide) (Nat.le_of_ble_eq_true rfl) rfl (jcat_of rfl) ?_
  intro X C E hnm hxl hxn
  subst hxl
  have H0 := jSt_0 (q := 1) (D := (dStm a)) h1 h2 h3 (by decide)
  refine j_aload_n C dX5_init_0 rfl ?_
  refine j_objInit C oi_X5_3 oi_im oi_c dX5_init_1 (by decide) (Nat.le_of_ble_eq_true rfl) ?_
  refine j_aload_n C dX5_init_4 rfl ?_
  refine j_iconst C (nI 4) dX5_init_5 (by decide) ?_
  refine j_newI C ar_I (by decide) dX5_init_6 (by decide) ?_
  refine j_gen (P := jSt ω _ a 1 (dStm a) _ _ 2) (jSt_arrq H0 rfl) (fun γ1 M1 R1 H1 => ?_)
  rw [H0.2.2.1]
  refine j_putP (ty := tyX5 0) C cl5 (by decide) rfl flw_X5_9 hnm (H1.atA rfl) dX5_init_8 (by decide) rfl rfl rfl ?_
  refine j_gen (P := jSt ω _ a 1 (dStm a) _ _ 2) (jSt_put H1) (fun γ2 M2 R2 H2 => ?_)
  refine j_aload_n C dX5_init_11 rfl ?_
  refine j_iconst C (nI 4) dX5_init_12 (by decide) ?_
  refine j_newI C ar_I (by decide) dX5_init_13 (by decide) ?_
  refine j_gen (P := jSt ω _ a 1 (dStm a) _ _ 3) (jSt_arr H2 (by decide) rfl) (fun γ3 M3 R3 H3 => ?_)
  rw [H2.2.2.1]
  refine j_putP (ty := tyX5 1) C cl5 (by decide) rfl flw_X5_15 hnm (H3.atA rfl) dX5_init_15 (by decide) rfl rfl rfl ?_
  refine j_gen (P := jSt ω _ a 1 (dStm a) _ _ 3) (jSt_put H3) (fun γ4 M4 R4 H4 => ?_)
  exact j_return C E dX5_init_18 (by decide) (by decide) (jSt_end H4 (by rfl) (by decide) (by rfl) _ _ _ rfl)

set_option maxHeartbeats 4000000 in
set_option maxRecDepth 100000 in
theorem c_X7_init (l : Launch) (ω : jW) (γ : jG) (M : jM) (R : jR) {a : Nat} (h1 : jlo ω ≤ a) (h2 : jlo ω + jn γ = a + 1) (h3 : row γ M R a = wN 7 0) : Ct l ω yX7_init cX7_init 1 none 2 3 280 [.ref a] γ M R (jIn ω a 4 (dTable a) γ M R) := by
  refine Ct_of (by decide) (Nat.le_of_ble_eq_true rfl) rfl (jcat_of rfl) ?_
  intro X C E hnm hxl hxn
  subst hxl
  have H0 := jSt_0 (q := 1) (D := (dTable a)) h1 h2 h3 (by decide)
  refine j_aload_n C dX7_init_0 rfl ?_
  refine j_objInit C oi_X7_3 oi_im oi_c dX7_init_1 (by decide) (Nat.le_of_ble_eq_true rfl) ?_
  refine j_aload_n C dX7_init_4 rfl ?_
  refine j_sipush C (nI 150) dX7_init_5 (by decide) ?_
  refine j_newI C ar_I (by decide) dX7_init_8 (by decide) ?_
  refine j_gen (P := jSt ω _ a 1 (dTable a) _ _ 2) (jSt_arrq H0 rfl) (fun γ1 M1 R1 H1 => ?_)
  rw [H0.2.2.1]
  refine j_putP (ty := tyX7 0) C cl7 (by decide) rfl flw_X7_11 hnm (H1.atA rfl) dX7_init_10 (by decide) rfl rfl rfl ?_
  refine j_gen (P := jSt ω _ a 1 (dTable a) _ _ 2) (jSt_put H1) (fun γ2 M2 R2 H2 => ?_)
  refine j_aload_n C dX7_init_13 rfl ?_
  refine j_new C cl6 (by decide) cw_X7_15 inst6 in6 dX7_init_14 (by decide) ?_
  refine j_dup C dX7_init_17 rfl ?_
  refine j_callI C (c_X6_init _ ω _ _ _ (a := jlo ω + jn γ2) (Nat.le_add_right _ _) rfl row_self) yc_X6_init mn_X7_17 im_X6_init rfl dX7_init_18 rfl rfl (Nat.le_of_ble_eq_true rfl) (by decide) (by decide) ?_
  rintro v3 γ3 M3 R3 hi3
  have H3 : jSt ω _ a 1 (dTable a) _ _ (4) γ3 M3 R3 := jSt_kid H2 (by omega) (by omega) hi3 (fun i hi => by show dTable a _ = dSums _ i; rw [H2.2.2.1]; unfold dTable; rw [if_neg (by omega), if_neg (by omega)]; congr 1 <;> omega)
  obtain rfl := hi3.1
  rw [H2.2.2.1]
  refine j_putP (ty := tyX7 1) C cl7 (by decide) rfl flw_X7_18 hnm (H3.atA rfl) dX7_init_21 (by decide) rfl rfl rfl ?_
  refine j_gen (P := jSt ω _ a 1 (dTable a) _ _ 4) (jSt_put H3) (fun γ4 M4 R4 H4 => ?_)
  exact j_return C E dX7_init_24 (by decide) (by decide) (jSt_end H4 (by rfl) (by decide) (by rfl) _ _ _ rfl)

set_option maxHeartbeats 4000000 in
set_option maxRecDepth 100000 in
theorem c_X3_init (l : Launch) (ω : jW) (γ : jG) (M : jM) (R : jR) {a : Nat} (h1 : jlo ω ≤ a) (h2 : jlo ω + jn γ = a + 1) (h3 : row γ M R a = wN 3 0) : Ct l ω yX3_init cX3_init 2 none 2 10 89 [.ref a] γ M R (jIn ω a 11 (dShelf a) γ M R) := by
  refine Ct_of (by decide) (Nat.le_of_ble_eq_true rfl) rfl (jcat_of rfl) ?_
  intro X C E hnm hxl hxn
  subst hxl
  have H0 := jSt_0 (q := 1) (D := (dShelf a)) h1 h2 h3 (by decide)
  refine j_aload_n C dX3_init_0 rfl ?_
  refine j_objInit C oi_X3_3 oi_im oi_c dX3_init_1 (by decide) (Nat.le_of_ble_eq_true rfl) ?_
  refine j_aload_n C dX3_init_4 rfl ?_
  refine j_bipush C (nI 8) dX3_init_5 (by decide) ?_
  refine j_anew C cw_X3_9 C.xi.2.2.2.2.2.2.2.1 (kd := 13) (by decide) rfl (by decide) dX3_init_7 (by decide) ?_
  refine j_gen (P := jSt ω _ a 1 (dShelf a) _ _ 2) (jSt_arrq H0 rfl) (fun γ1 M1 R1 H1 => ?_)
  rw [H0.2.2.1]
  refine j_putP (ty := tyX3 0) C cl3 (by decide) rfl flw_X3_11 hnm (H1.atA rfl) dX3_init_10 (by decide) rfl rfl rfl ?_
  refine j_gen (P := jSt ω _ a 1 (dShelf a) _ _ 2) (jSt_put H1) (fun γ2 M2 R2 H2 => ?_)
  refine j_aload_n C dX3_init_13 rfl ?_
  refine j_new C cl2 (by decide) cw_X3_9 inst2 in2 dX3_init_14 (by decide) ?_
  refine j_dup C dX3_init_17 rfl ?_
  refine j_callI C (c_X2_init _ ω _ _ _ (a := jlo ω + jn γ2) (Nat.le_add_right _ _) rfl row_self) yc_X2_init mn_X3_17 im_X2_init rfl dX3_init_18 rfl rfl (Nat.le_of_ble_eq_true rfl) (by decide) (by decide) ?_
  rintro v3 γ3 M3 R3 hi3
  have H3 : jSt ω _ a 1 (dShelf a) _ _ (3) γ3 M3 R3 := jSt_kid H2 (by omega) (by omega) hi3 (fun i hi => by show dShelf a _ = dPl _ i; rw [H2.2.2.1]; unfold dShelf; rw [if_neg (by omega), if_neg (by omega)]; congr 1 <;> omega)
  obtain rfl := hi3.1
  rw [H2.2.2.1]
  refine j_putP (ty := tyX3 1) C cl3 (by decide) rfl flw_X3_18 hnm (H3.atA rfl) dX3_init_21 (by decide) rfl rfl rfl ?_
  refine j_gen (P := jSt ω _ a 1 (dShelf a) _ _ 3) (jSt_put H3) (fun γ4 M4 R4 H4 => ?_)
  refine j_iconst C (nI 0) dX3_init_24 (by decide) ?_
  refine j_istore_n C dX3_init_25 (by rw [hxn]; decide) ?_
  refine j_loopP 8 (fun k => [(0, .ref a), (1, .int (nI k))]) (fun k => 2 + 1 * k) (fun k => 17 + 9 * k) (fun k γ9 M9 R9 => jSt ω (row γ M R) a 1 (dShelf a) _ (dRefs 13 8 (a + 3) 1 k) (3 + 1 * k) γ9 M9 R9) (fun k γ8 M8 R8 hk H8 ih => ?_) (fun γ9 M9 R9 H9 => ?_) (by rw [dRefs_0]; exact H4)
  · skip
    refine j_iload_n C dX3_init_26 rfl ?_
    refine j_aload_n C dX3_init_27 rfl ?_
    refine j_getR C fl_X3_11 (H8.atA rfl) dX3_init_28 (by decide) rfl (H8.pA rfl) ?_
    refine j_alen C (H8.arB (kd := 13) (len := 8) (by decide) (by omega) rfl rfl) rfl (by decide) dX3_init_31 ?_
    refine j_icmp_ge C 54 dX3_init_32 (by decide) (fun h => absurd h (nI_ge hk (by decide))) (fun _ => ?_)
    refine j_aload_n C dX3_init_35 rfl ?_
    refine j_getR C fl_X3_11 (H8.atA rfl) dX3_init_36 (by decide) rfl (H8.pA rfl) ?_
    refine j_iload_n C dX3_init_39 rfl ?_
    refine j_new C cl2 (by decide) cw_X3_9 inst2 in2 dX3_init_40 (⟨by omega, by omega⟩) ?_
    refine j_dup C dX3_init_43 rfl ?_
    refine j_callI C (c_X2_init _ ω _ _ _ (a := jlo ω + jn γ8) (Nat.le_add_right _ _) rfl row_self) yc_X2_init mn_X3_17 im_X2_init rfl dX3_init_44 rfl rfl (Nat.le_of_ble_eq_true rfl) (by decide) (⟨by omega, by omega⟩) ?_
    rintro v21 γ21 M21 R21 hi21
    have H21 : jSt ω _ a 1 (dShelf a) _ _ (3 + 1 * k + 1) γ21 M21 R21 := jSt_kid H8 (by omega) (by omega) hi21 (fun i hi => by show dShelf a _ = dPl _ i; rw [H8.2.2.1]; unfold dShelf; rw [if_neg (by omega), if_neg (by omega)]; congr 1 <;> omega)
    obtain rfl := hi21.1
    rw [H8.2.2.1]
    refine j_aastN C (H21.arB (kd := 13) (len := 8) (by decide) (by omega) rfl rfl) (by decide) (H21.atD (ci := 2) (by omega) (by omega) (by omega) (by show (dShelf a _).1 = _; unfold dShelf; first | (rw [if_neg (by omega), if_neg (by omega)]; done) | (rw [if_neg (by omega), if_neg (by omega)]; rfl) | (rw [if_neg (by omega), if_neg (by omega), show k - k = 0 by omega]; rfl))) (by decide) rfl rfl (hk) (by decide) dX3_init_47 ?_
    first | refine j_iinc1 C dX3_init_48 rfl (by rw [hxn]; decide) ?_ | refine j_iinc C _ dX3_init_48 rfl rfl (by rw [hxn]; decide) ?_
    refine j_goto C 26 dX3_init_51 (by decide) ?_
    refine j_cells (by show _ = 2 + 1 * (k + 1); omega) (by show _ = 17 + 9 * (k + 1); omega) (ih _ _ _ (jSt_aast H21 (by decide)))
  · skip
    refine j_iload_n C dX3_init_26 rfl ?_
    refine j_aload_n C dX3_init_27 rfl ?_
    refine j_getR C fl_X3_11 (H9.atA rfl) dX3_init_28 (by decide) rfl (H9.pA rfl) ?_
    refine j_alen C (H9.arB (kd := 13) (len := 8) (by decide) (by omega) rfl rfl) rfl (by decide) dX3_init_31 ?_
    refine j_icmp_ge C 54 dX3_init_32 (by decide) (fun _ => ?_) (fun h => absurd (Int32.le_refl _) h)
    exact j_return C E dX3_init_54 (by decide) (by decide) (jSt_end H9 (by rfl) (by decide) (by rfl) _ _ _ rfl)

set_option maxHeartbeats 4000000 in
set_option maxRecDepth 100000 in
theorem c_X4_init (l : Launch) (ω : jW) (γ : jG) (M : jM) (R : jR) {a : Nat} (h1 : jlo ω ≤ a) (h2 : jlo ω + jn γ = a + 1) (h3 : row γ M R a = wN 4 0) : Ct l ω yX4_init cX4_init 2 none 3 42 618 [.ref a] γ M R (jIn ω a 43 (dState a) γ M R) := by
  refine Ct_of (by decide) (Nat.le_of_ble_eq_true rfl) rfl (jcat_of rfl) ?_
  intro X C E hnm hxl hxn
  subst hxl
  have H0 := jSt_0 (q := 7) (D := (dState a)) h1 h2 h3 (by decide)
  refine j_aload_n C dX4_init_0 rfl ?_
  refine j_objInit C oi_X4_3 oi_im oi_c dX4_init_1 (by decide) (Nat.le_of_ble_eq_true rfl) ?_
  refine j_aload_n C dX4_init_4 rfl ?_
  refine j_new C cl7 (by decide) cw_X4_9 inst7 in7 dX4_init_5 (by decide) ?_
  refine j_dup C dX4_init_8 rfl ?_
  refine j_callI C (c_X7_init _ ω _ _ _ (a := jlo ω + jn γ) (Nat.le_add_right _ _) rfl row_self) yc_X7_init mn_X4_11 im_X7_init rfl dX4_init_9 rfl rfl (Nat.le_of_ble_eq_true rfl) (by decide) (by decide) ?_
  rintro v1 γ1 M1 R1 hi1
  have H1 : jSt ω _ a 7 (dState a) _ _ (5) γ1 M1 R1 := jSt_kid H0 (by omega) (by omega) hi1 (fun i hi => by show dState a _ = dTable _ i; rw [H0.2.2.1]; unfold dState; rw [if_neg (by omega), if_pos (by omega)]; congr 1 <;> omega)
  obtain rfl := hi1.1
  rw [H0.2.2.1]
  refine j_putP (ty := tyX4 0) C cl4 (by decide) rfl flw_X4_12 hnm (H1.atA rfl) dX4_init_12 (by decide) rfl rfl rfl ?_
  refine j_gen (P := jSt ω _ a 7 (dState a) _ _ 5) (jSt_put H1) (fun γ2 M2 R2 H2 => ?_)
  refine j_aload_n C dX4_init_15 rfl ?_
  refine j_new C cl6 (by decide) cw_X4_18 inst6 in6 dX4_init_16 (by decide) ?_
  refine j_dup C dX4_init_19 rfl ?_
  refine j_callI C (c_X6_init _ ω _ _ _ (a := jlo ω + jn γ2) (Nat.le_add_right _ _) rfl row_self) yc_X6_init mn_X4_20 im_X6_init rfl dX4_init_20 rfl rfl (Nat.le_of_ble_eq_true rfl) (by decide) (by decide) ?_
  rintro v3 γ3 M3 R3 hi3
  have H3 : jSt ω _ a 7 (dState a) _ _ (7) γ3 M3 R3 := jSt_kid H2 (by omega) (by omega) hi3 (fun i hi => by show dState a _ = dSums _ i; rw [H2.2.2.1]; unfold dState; rw [if_neg (by omega), if_neg (by omega), if_pos (by omega)]; congr 1 <;> omega)
  obtain rfl := hi3.1
  rw [H2.2.2.1]
  refine j_putP (ty := tyX4 1) C cl4 (by decide) rfl flw_X4_21 hnm (H3.atA rfl) dX4_init_23 (by decide) rfl rfl rfl ?_
  refine j_gen (P := jSt ω _ a 7 (dState a) _ _ 7) (jSt_put H3) (fun γ4 M4 R4 H4 => ?_)
  refine j_aload_n C dX4_init_26 rfl ?_
  refine j_bipush C (nI 6) dX4_init_27 (by decide) ?_
  refine j_anew C cw_X4_25 C.xi.2.2.2.2.2.2.2.2.2.1 (kd := 15) (by decide) rfl (by decide) dX4_init_29 (by decide) ?_
  refine j_gen (P := jSt ω _ a 7 (dState a) _ _ 8) (jSt_arrq H4 rfl) (fun γ5 M5 R5 H5 => ?_)
  rw [H4.2.2.1]
  refine j_putP (ty := tyX4 2) C cl4 (by decide) rfl flw_X4_27 hnm (H5.atA rfl) dX4_init_32 (by decide) rfl rfl rfl ?_
  refine j_gen (P := jSt ω _ a 7 (dState a) _ _ 8) (jSt_put H5) (fun γ6 M6 R6 H6 => ?_)
  refine j_aload_n C dX4_init_35 rfl ?_
  refine j_new C cl5 (by decide) cw_X4_25 inst5 in5 dX4_init_36 (by decide) ?_
  refine j_dup C dX4_init_39 rfl ?_
  refine j_callI C (c_X5_init _ ω _ _ _ (a := jlo ω + jn γ6) (Nat.le_add_right _ _) rfl row_self) yc_X5_init mn_X4_31 im_X5_init rfl dX4_init_40 rfl rfl (Nat.le_of_ble_eq_true rfl) (by decide) (by decide) ?_
  rintro v7 γ7 M7 R7 hi7
  have H7 : jSt ω _ a 7 (dState a) _ _ (11) γ7 M7 R7 := jSt_kid H6 (by omega) (by omega) hi7 (fun i hi => by show dState a _ = dStm _ i; rw [H6.2.2.1]; unfold dState; rw [if_neg (by omega), if_neg (by omega), if_neg (by omega), if_neg (by omega), if_pos (by omega)]; congr 1 <;> omega)
  obtain rfl := hi7.1
  rw [H6.2.2.1]
  refine j_putP (ty := tyX4 3) C cl4 (by decide) rfl flw_X4_32 hnm (H7.atA rfl) dX4_init_43 (by decide) rfl rfl rfl ?_
  refine j_gen (P := jSt ω _ a 7 (dState a) _ _ 11) (jSt_put H7) (fun γ8 M8 R8 H8 => ?_)
  refine j_aload_n C dX4_init_46 rfl ?_
  refine j_new C cl3 (by decide) cw_X4_36 inst3 in3 dX4_init_47 (by decide) ?_
  refine j_dup C dX4_init_50 rfl ?_
  refine j_callI C (c_X3_init _ ω _ _ _ (a := jlo ω + jn γ8) (Nat.le_add_right _ _) rfl row_self) yc_X3_init mn_X4_38 im_X3_init rfl dX4_init_51 rfl rfl (Nat.le_of_ble_eq_true rfl) (by decide) (by decide) ?_
  rintro v9 γ9 M9 R9 hi9
  have H9 : jSt ω _ a 7 (dState a) _ _ (22) γ9 M9 R9 := jSt_kid H8 (by omega) (by omega) hi9 (fun i hi => by show dState a _ = dShelf _ i; rw [H8.2.2.1]; unfold dState; rw [if_neg (by omega), if_neg (by omega), if_neg (by omega), if_neg (by omega), if_neg (by omega), if_pos (by omega)]; congr 1 <;> omega)
  obtain rfl := hi9.1
  rw [H8.2.2.1]
  refine j_putP (ty := tyX4 4) C cl4 (by decide) rfl flw_X4_39 hnm (H9.atA rfl) dX4_init_54 (by decide) rfl rfl rfl ?_
  refine j_gen (P := jSt ω _ a 7 (dState a) _ _ 22) (jSt_put H9) (fun γ10 M10 R10 H10 => ?_)
  refine j_aload_n C dX4_init_57 rfl ?_
  refine j_new C cl1 (by decide) cw_X4_43 inst1 in1 dX4_init_58 (by decide) ?_
  refine j_dup C dX4_init_61 rfl ?_
  refine j_callI C (c_X1_init _ ω _ _ _ (a := jlo ω + jn γ10) (Nat.le_add_right _ _) rfl row_self) yc_X1_init mn_X4_45 im_X1_init rfl dX4_init_62 rfl rfl (Nat.le_of_ble_eq_true rfl) (by decide) (by decide) ?_
  rintro v11 γ11 M11 R11 hi11
  have H11 : jSt ω _ a 7 (dState a) _ _ (24) γ11 M11 R11 := jSt_kid H10 (by omega) (by omega) hi11 (fun i hi => by show dState a _ = dLast _ i; rw [H10.2.2.1]; unfold dState; rw [if_neg (by omega), if_neg (by omega), if_neg (by omega), if_neg (by omega), if_neg (by omega), if_neg (by omega), if_pos (by omega)]; congr 1 <;> omega)
  obtain rfl := hi11.1
  rw [H10.2.2.1]
  refine j_putP (ty := tyX4 5) C cl4 (by decide) rfl flw_X4_46 hnm (H11.atA rfl) dX4_init_65 (by decide) rfl rfl rfl ?_
  refine j_gen (P := jSt ω _ a 7 (dState a) _ _ 24) (jSt_put H11) (fun γ12 M12 R12 H12 => ?_)
  refine j_aload_n C dX4_init_68 rfl ?_
  refine j_iconst C (nI 5) dX4_init_69 (by decide) ?_
  refine j_newI C ar_I (by decide) dX4_init_70 (by decide) ?_
  have hA : jArr ω (jnew ω γ12 12 5) (jlo ω + jn γ12) 12 5 := jArr_row (Nat.le_add_right _ _) (Nat.lt_succ_self _) (row_self (M := M12) (R := R12)) rfl rfl
  refine j_dup C dX4_init_72 rfl ?_
  refine j_iconst C (nI 0) dX4_init_73 (by decide) ?_
  refine j_bipush C (nI 50) dX4_init_74 (by decide) ?_
  refine j_iastN C (hA) dX4_init_76 (by decide) (by decide) ?_
  refine j_dup C dX4_init_77 rfl ?_
  refine j_iconst C (nI 1) dX4_init_78 (by decide) ?_
  refine j_sipush C (nI 300) dX4_init_79 (by decide) ?_
  refine j_iastN C (hA) dX4_init_82 (by decide) (by decide) ?_
  refine j_dup C dX4_init_83 rfl ?_
  refine j_iconst C (nI 2) dX4_init_84 (by decide) ?_
  refine j_iconst C (nI 4) dX4_init_85 (by decide) ?_
  refine j_iastN C (hA) dX4_init_86 (by decide) (by decide) ?_
  refine j_dup C dX4_init_87 rfl ?_
  refine j_iconst C (nI 3) dX4_init_88 (by decide) ?_
  refine j_iconst C (nI 2) dX4_init_89 (by decide) ?_
  refine j_iastN C (hA) dX4_init_90 (by decide) (by decide) ?_
  refine j_dup C dX4_init_91 rfl ?_
  refine j_iconst C (nI 4) dX4_init_92 (by decide) ?_
  refine j_iconst C (nI 4) dX4_init_93 (by decide) ?_
  refine j_iastN C (hA) dX4_init_94 (by decide) (by decide) ?_
  have H13 : jSt ω _ a 7 (dState a) _ _ 25 (jnew ω γ12 12 5) _ _ := jSt_ext (s := 1) H12 (by omega) (by show _ + (jn γ12 + 1) = _; have := H12.2.2.1; omega) (fun b => settle H12.2.2.1)
  refine j_gen (P := jSt ω _ a 7 (dState a) _ _ 25) H13 (fun γ14 M14 R14 H14 => ?_)
  rw [H12.2.2.1]
  refine j_putP (ty := tyX4 6) C cl4 (by decide) rfl flw_X4_50 hnm (H14.atA rfl) dX4_init_95 (by decide) rfl rfl rfl ?_
  refine j_gen (P := jSt ω _ a 7 (dState a) _ _ 25) (jSt_put H14) (fun γ15 M15 R15 H15 => ?_)
  refine j_iconst C (nI 0) dX4_init_98 (by decide) ?_
  refine j_istore_n C dX4_init_99 (by rw [hxn]; decide) ?_
  refine j_loopP 6 (fun k => [(0, .ref a), (1, .int (nI k))]) (fun k => 24 + 3 * k) (fun k => 546 + 12 * k) (fun k γ9 M9 R9 => jSt ω (row γ M R) a 7 (dState a) _ (dRefs 15 6 (a + 25) 3 k) (25 + 3 * k) γ9 M9 R9) (fun k γ8 M8 R8 hk H8 ih => ?_) (fun γ9 M9 R9 H9 => ?_) (by rw [dRefs_0]; exact H15)
  · skip
    refine j_iload_n C dX4_init_100 rfl ?_
    refine j_aload_n C dX4_init_101 rfl ?_
    refine j_getR C fl_X4_27 (H8.atA rfl) dX4_init_102 (by decide) rfl (H8.pA rfl) ?_
    refine j_alen C (H8.arB (kd := 15) (len := 6) (by decide) (by omega) rfl rfl) rfl (by decide) dX4_init_105 ?_
    refine j_icmp_ge C 128 dX4_init_106 (by decide) (fun h => absurd h (nI_ge hk (by decide))) (fun _ => ?_)
    refine j_aload_n C dX4_init_109 rfl ?_
    refine j_getR C fl_X4_27 (H8.atA rfl) dX4_init_110 (by decide) rfl (H8.pA rfl) ?_
    refine j_iload_n C dX4_init_113 rfl ?_
    refine j_new C cl5 (by decide) cw_X4_25 inst5 in5 dX4_init_114 (⟨by omega, by omega⟩) ?_
    refine j_dup C dX4_init_117 rfl ?_
    refine j_callI C (c_X5_init _ ω _ _ _ (a := jlo ω + jn γ8) (Nat.le_add_right _ _) rfl row_self) yc_X5_init mn_X4_31 im_X5_init rfl dX4_init_118 rfl rfl (Nat.le_of_ble_eq_true rfl) (by decide) (⟨by omega, by omega⟩) ?_
    rintro v21 γ21 M21 R21 hi21
    have H21 : jSt ω _ a 7 (dState a) _ _ (25 + 3 * k + 3) γ21 M21 R21 := jSt_kid H8 (by omega) (by omega) hi21 (fun i hi => by show dState a _ = dStm _ i; rw [H8.2.2.1]; unfold dState; rw [if_neg (by omega), if_neg (by omega), if_neg (by omega), if_neg (by omega), if_neg (by omega), if_neg (by omega), if_neg (by omega), if_neg (by omega)]; congr 1 <;> omega)
    obtain rfl := hi21.1
    rw [H8.2.2.1]
    refine j_aastN C (H21.arB (kd := 15) (len := 6) (by decide) (by omega) rfl rfl) (by decide) (H21.atD (ci := 5) (by omega) (by omega) (by omega) (by show (dState a _).1 = _; unfold dState; first | (rw [if_neg (by omega), if_neg (by omega), if_neg (by omega), if_neg (by omega), if_neg (by omega), if_neg (by omega), if_neg (by omega), if_neg (by omega)]; done) | (rw [if_neg (by omega), if_neg (by omega), if_neg (by omega), if_neg (by omega), if_neg (by omega), if_neg (by omega), if_neg (by omega), if_neg (by omega)]; rfl) | (rw [if_neg (by omega), if_neg (by omega), if_neg (by omega), if_neg (by omega), if_neg (by omega), if_neg (by omega), if_neg (by omega), if_neg (by omega), show (25 + 3 * k - 25) % 3 = 0 by omega]; rfl))) (by decide) rfl rfl (hk) (by decide) dX4_init_121 ?_
    first | refine j_iinc1 C dX4_init_122 rfl (by rw [hxn]; decide) ?_ | refine j_iinc C _ dX4_init_122 rfl rfl (by rw [hxn]; decide) ?_
    refine j_goto C 100 dX4_init_125 (by decide) ?_
    refine j_cells (by show _ = 24 + 3 * (k + 1); omega) (by show _ = 546 + 12 * (k + 1); omega) (ih _ _ _ (jSt_aast H21 (by decide)))
  · skip
    refine j_iload_n C dX4_init_100 rfl ?_
    refine j_aload_n C dX4_init_101 rfl ?_
    refine j_getR C fl_X4_27 (H9.atA rfl) dX4_init_102 (by decide) rfl (H9.pA rfl) ?_
    refine j_alen C (H9.arB (kd := 15) (len := 6) (by decide) (by omega) rfl rfl) rfl (by decide) dX4_init_105 ?_
    refine j_icmp_ge C 128 dX4_init_106 (by decide) (fun _ => ?_) (fun h => absurd (Int32.le_refl _) h)
    exact j_return C E dX4_init_128 (by decide) (by decide) (jSt_end H9 (by rfl) (by decide) (by rfl) _ _ _ rfl)

set_option maxHeartbeats 4000000 in
set_option maxRecDepth 100000 in
theorem c_X0_init (l : Launch) (ω : jW) (γ : jG) (M : jM) (R : jR) {a : Nat} (h1 : jlo ω ≤ a) (h2 : jlo ω + jn γ = a + 1) (h3 : row γ M R a = wN 0 0) : Ct l ω yX0_init cX0_init 2 none 4 173 2524 [.ref a] γ M R (jIn ω a 174 (dHist a) γ M R) := by
  refine Ct_of (by decide) (Nat.le_of_ble_eq_true rfl) rfl (jcat_of rfl) ?_
  intro X C E hnm hxl hxn
  subst hxl
  have H0 := jSt_0 (q := 1) (D := (dHist a)) h1 h2 h3 (by decide)
  refine j_aload_n C dX0_init_0 rfl ?_
  refine j_objInit C oi_X0_3 oi_im oi_c dX0_init_1 (by decide) (Nat.le_of_ble_eq_true rfl) ?_
  refine j_aload_n C dX0_init_4 rfl ?_
  refine j_iconst C (nI 4) dX0_init_5 (by decide) ?_
  refine j_anew C cw_X0_9 C.xi.2.2.2.2.2.2.2.2.1 (kd := 14) (by decide) rfl (by decide) dX0_init_6 (by decide) ?_
  refine j_gen (P := jSt ω _ a 1 (dHist a) _ _ 2) (jSt_arrq H0 rfl) (fun γ1 M1 R1 H1 => ?_)
  rw [H0.2.2.1]
  refine j_putP (ty := tyX0 0) C cl0 (by decide) rfl flw_X0_11 hnm (H1.atA rfl) dX0_init_9 (by decide) rfl rfl rfl ?_
  refine j_gen (P := jSt ω _ a 1 (dHist a) _ _ 2) (jSt_put H1) (fun γ2 M2 R2 H2 => ?_)
  refine j_iconst C (nI 0) dX0_init_12 (by decide) ?_
  refine j_istore_n C dX0_init_13 (by rw [hxn]; decide) ?_
  refine j_loopP 4 (fun k => [(0, .ref a), (1, .int (nI k))]) (fun k => 1 + 43 * k) (fun k => 4 + 630 * k) (fun k γ9 M9 R9 => jSt ω (row γ M R) a 1 (dHist a) _ (dRefs 14 4 (a + 2) 43 k) (2 + 43 * k) γ9 M9 R9) (fun k γ8 M8 R8 hk H8 ih => ?_) (fun γ9 M9 R9 H9 => ?_) (by rw [dRefs_0]; exact H2)
  · skip
    refine j_iload_n C dX0_init_14 rfl ?_
    refine j_aload_n C dX0_init_15 rfl ?_
    refine j_getR C fl_X0_11 (H8.atA rfl) dX0_init_16 (by decide) rfl (H8.pA rfl) ?_
    refine j_alen C (H8.arB (kd := 14) (len := 4) (by decide) (by omega) rfl rfl) rfl (by decide) dX0_init_19 ?_
    refine j_icmp_ge C 42 dX0_init_20 (by decide) (fun h => absurd h (nI_ge hk (by decide))) (fun _ => ?_)
    refine j_aload_n C dX0_init_23 rfl ?_
    refine j_getR C fl_X0_11 (H8.atA rfl) dX0_init_24 (by decide) rfl (H8.pA rfl) ?_
    refine j_iload_n C dX0_init_27 rfl ?_
    refine j_new C cl4 (by decide) cw_X0_9 inst4 in4 dX0_init_28 (⟨by omega, by omega⟩) ?_
    refine j_dup C dX0_init_31 rfl ?_
    refine j_callI C (c_X4_init _ ω _ _ _ (a := jlo ω + jn γ8) (Nat.le_add_right _ _) rfl row_self) yc_X4_init mn_X0_17 im_X4_init rfl dX0_init_32 rfl rfl (Nat.le_of_ble_eq_true rfl) (by decide) (⟨by omega, by omega⟩) ?_
    rintro v21 γ21 M21 R21 hi21
    have H21 : jSt ω _ a 1 (dHist a) _ _ (2 + 43 * k + 43) γ21 M21 R21 := jSt_kid H8 (by omega) (by omega) hi21 (fun i hi => by show dHist a _ = dState _ i; rw [H8.2.2.1]; unfold dHist; rw [if_neg (by omega), if_neg (by omega)]; congr 1 <;> omega)
    obtain rfl := hi21.1
    rw [H8.2.2.1]
    refine j_aastN C (H21.arB (kd := 14) (len := 4) (by decide) (by omega) rfl rfl) (by decide) (H21.atD (ci := 4) (by omega) (by omega) (by omega) (by show (dHist a _).1 = _; unfold dHist; first | (rw [if_neg (by omega), if_neg (by omega)]; done) | (rw [if_neg (by omega), if_neg (by omega)]; rfl) | (rw [if_neg (by omega), if_neg (by omega), show (2 + 43 * k - 2) % 43 = 0 by omega]; rfl))) (by decide) rfl rfl (hk) (by decide) dX0_init_35 ?_
    first | refine j_iinc1 C dX0_init_36 rfl (by rw [hxn]; decide) ?_ | refine j_iinc C _ dX0_init_36 rfl rfl (by rw [hxn]; decide) ?_
    refine j_goto C 14 dX0_init_39 (by decide) ?_
    refine j_cells (by show _ = 1 + 43 * (k + 1); omega) (by show _ = 4 + 630 * (k + 1); omega) (ih _ _ _ (jSt_aast H21 (by decide)))
  · skip
    refine j_iload_n C dX0_init_14 rfl ?_
    refine j_aload_n C dX0_init_15 rfl ?_
    refine j_getR C fl_X0_11 (H9.atA rfl) dX0_init_16 (by decide) rfl (H9.pA rfl) ?_
    refine j_alen C (H9.arB (kd := 14) (len := 4) (by decide) (by omega) rfl rfl) rfl (by decide) dX0_init_19 ?_
    refine j_icmp_ge C 42 dX0_init_20 (by decide) (fun _ => ?_) (fun h => absurd (Int32.le_refl _) h)
    exact j_return C E dX0_init_42 (by decide) (by decide) (jSt_end H9 (by rfl) (by decide) (by rfl) _ _ _ rfl)

set_option maxHeartbeats 4000000 in
set_option maxRecDepth 100000 in
theorem c_X9_init (l : Launch) (ω : jW) (γ : jG) (M : jM) (R : jR) {a : Nat} (h1 : jlo ω ≤ a) (h2 : jlo ω + jn γ = a + 1) (h3 : row γ M R a = wN 9 0) : Ct l ω yX9_init cX9_init 1 none 5 220 3192 [.ref a] γ M R (jIn ω a 221 (dFace a) γ M R) := by
  refine Ct_of (by decide) (Nat.le_of_ble_eq_true rfl) rfl (jcat_of rfl) ?_
  intro X C E hnm hxl hxn
  subst hxl
  have H0 := jSt_0 (q := 220) (D := (dFace a)) h1 h2 h3 (by decide)
  refine j_aload_n C dX9_init_0 rfl ?_
  refine j_objInit C oi_X9_1 oi_im oi_c dX9_init_1 (by decide) (Nat.le_of_ble_eq_true rfl) ?_
  refine j_aload_n C dX9_init_4 rfl ?_
  refine j_new C cl4 (by decide) cw_X9_7 inst4 in4 dX9_init_5 (by decide) ?_
  refine j_dup C dX9_init_8 rfl ?_
  refine j_callI C (c_X4_init _ ω _ _ _ (a := jlo ω + jn γ) (Nat.le_add_right _ _) rfl row_self) yc_X4_init mn_X9_9 im_X4_init rfl dX9_init_9 rfl rfl (Nat.le_of_ble_eq_true rfl) (by decide) (by decide) ?_
  rintro v1 γ1 M1 R1 hi1
  have H1 : jSt ω _ a 220 (dFace a) _ _ (44) γ1 M1 R1 := jSt_kid H0 (by omega) (by omega) hi1 (fun i hi => by show dFace a _ = dState _ i; rw [H0.2.2.1]; unfold dFace; rw [if_neg (by omega), if_pos (by omega)]; congr 1 <;> omega)
  obtain rfl := hi1.1
  rw [H0.2.2.1]
  refine j_putP (ty := tyX9 0) C cl9 (by decide) rfl flw_X9_10 hnm (H1.atA rfl) dX9_init_12 (by decide) rfl rfl rfl ?_
  refine j_gen (P := jSt ω _ a 220 (dFace a) _ _ 44) (jSt_put H1) (fun γ2 M2 R2 H2 => ?_)
  refine j_aload_n C dX9_init_15 rfl ?_
  refine j_new C cl0 (by decide) cw_X9_16 inst0 in0 dX9_init_16 (by decide) ?_
  refine j_dup C dX9_init_19 rfl ?_
  refine j_callI C (c_X0_init _ ω _ _ _ (a := jlo ω + jn γ2) (Nat.le_add_right _ _) rfl row_self) yc_X0_init mn_X9_18 im_X0_init rfl dX9_init_20 rfl rfl (Nat.le_of_ble_eq_true rfl) (by decide) (by decide) ?_
  rintro v3 γ3 M3 R3 hi3
  have H3 : jSt ω _ a 220 (dFace a) _ _ (218) γ3 M3 R3 := jSt_kid H2 (by omega) (by omega) hi3 (fun i hi => by show dFace a _ = dHist _ i; rw [H2.2.2.1]; unfold dFace; rw [if_neg (by omega), if_neg (by omega), if_pos (by omega)]; congr 1 <;> omega)
  obtain rfl := hi3.1
  rw [H2.2.2.1]
  refine j_putP (ty := tyX9 1) C cl9 (by decide) rfl flw_X9_19 hnm (H3.atA rfl) dX9_init_23 (by decide) rfl rfl rfl ?_
  refine j_gen (P := jSt ω _ a 220 (dFace a) _ _ 218) (jSt_put H3) (fun γ4 M4 R4 H4 => ?_)
  refine j_aload_n C dX9_init_26 rfl ?_
  refine j_new C cl8 (by decide) cw_X9_23 inst8 in8 dX9_init_27 (by decide) ?_
  refine j_dup C dX9_init_30 rfl ?_
  refine j_callI C (c_X8_init _ ω _ _ _ (a := jlo ω + jn γ4) (Nat.le_add_right _ _) rfl row_self) yc_X8_init mn_X9_25 im_X8_init rfl dX9_init_31 rfl rfl (Nat.le_of_ble_eq_true rfl) (by decide) (by decide) ?_
  rintro v5 γ5 M5 R5 hi5
  have H5 : jSt ω _ a 220 (dFace a) _ _ (220) γ5 M5 R5 := jSt_kid H4 (by omega) (by omega) hi5 (fun i hi => by show dFace a _ = dText _ i; rw [H4.2.2.1]; unfold dFace; rw [if_neg (by omega), if_neg (by omega), if_neg (by omega), if_pos (by omega)]; congr 1 <;> omega)
  obtain rfl := hi5.1
  rw [H4.2.2.1]
  refine j_putP (ty := tyX9 2) C cl9 (by decide) rfl flw_X9_26 hnm (H5.atA rfl) dX9_init_34 (by decide) rfl rfl rfl ?_
  refine j_gen (P := jSt ω _ a 220 (dFace a) _ _ 220) (jSt_put H5) (fun γ6 M6 R6 H6 => ?_)
  refine j_aload_n C dX9_init_37 rfl ?_
  refine j_iconst C (nI 4) dX9_init_38 (by decide) ?_
  refine j_newI C ar_I (by decide) dX9_init_39 (by decide) ?_
  refine j_gen (P := jSt ω _ a 220 (dFace a) _ _ 221) (jSt_arrq H6 rfl) (fun γ7 M7 R7 H7 => ?_)
  rw [H6.2.2.1]
  refine j_putP (ty := tyX9 3) C cl9 (by decide) rfl flw_X9_30 hnm (H7.atA rfl) dX9_init_41 (by decide) rfl rfl rfl ?_
  refine j_gen (P := jSt ω _ a 220 (dFace a) _ _ 221) (jSt_put H7) (fun γ8 M8 R8 H8 => ?_)
  exact j_return C E dX9_init_44 (by decide) (by decide) (jSt_end H8 (by rfl) (by decide) (by rfl) _ _ _ rfl)
