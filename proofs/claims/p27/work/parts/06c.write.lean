set_option maxHeartbeats 4000000 in
set_option maxRecDepth 100000 in
theorem c_X2_begin (l : Launch) (ω : jW) (γ : jG) (M : jM) (R : jR) {p : Nat} (hp : jAt ω γ p 2) (n s c : Int32) : Ct l ω yX2_begin cX2_begin 4 none 1 0 0 [.ref p, .int n, .int s, .int c] γ M R (jx γ none (rPBegin M p n s c) R) := by
  refine Ct_of (by decide) (Nat.le_of_ble_eq_true rfl) rfl (jcat_of rfl) ?_
  intro X C E hnm hxl hxn
  subst hxl
  refine j_aload_n C dX2_begin_0 rfl ?_
  refine j_iload_n C dX2_begin_1 rfl ?_
  refine j_putI C fl_X2_9 (by assumption) dX2_begin_2 (by decide) rfl (rfl) (rfl) ?_
  refine j_aload_n C dX2_begin_5 rfl ?_
  refine j_iload_n C dX2_begin_6 rfl ?_
  refine j_putI C fl_X2_15 (by assumption) dX2_begin_7 (by decide) rfl (rfl) (rfl) ?_
  refine j_aload_n C dX2_begin_10 rfl ?_
  refine j_iload_n C dX2_begin_11 rfl ?_
  refine j_putI C fl_X2_18 (by assumption) dX2_begin_12 (by decide) rfl (rfl) (rfl) ?_
  refine j_aload_n C dX2_begin_15 rfl ?_
  refine j_iconst C (nI 0) dX2_begin_16 (by decide) ?_
  refine j_putI C fl_X2_21 (by assumption) dX2_begin_17 (by decide) rfl (rfl) (rfl) ?_
  refine j_aload_n C dX2_begin_20 rfl ?_
  refine j_iconst C (nI 0) dX2_begin_21 (by decide) ?_
  refine j_putI C fl_X2_24 (by assumption) dX2_begin_22 (by decide) rfl (rfl) (rfl) ?_
  refine j_aload_n C dX2_begin_25 rfl ?_
  refine j_iconst C (nI 0) dX2_begin_26 (by decide) ?_
  refine j_putI C fl_X2_27 (by assumption) dX2_begin_27 (by decide) rfl (rfl) (rfl) ?_
  exact j_return C E dX2_begin_30 (by decide) (by decide) (⟨rfl, rfl, rfl, rfl⟩)

set_option maxHeartbeats 4000000 in
set_option maxRecDepth 100000 in
theorem c_X2_takeFrom (l : Launch) (ω : jW) (γ : jG) (M : jM) (R : jR) {p q : Nat} (hp : jAt ω γ p 2) (hq : jAt ω γ q 2) (hqp : q ≠ p) (hb : isB (M q 7)) : Ct l ω yX2_takeFrom cX2_takeFrom 2 none 1 0 0 [.ref p, .ref q] γ M R (jx γ none (jcopy M q p 9) R) := by
  refine Ct_of (by decide) (Nat.le_of_ble_eq_true rfl) rfl (jcat_of rfl) ?_
  intro X C E hnm hxl hxn
  subst hxl
  rw [show J X ω γ M R = J X ω γ (jcopy M q p 0) R from by rw [jcopy_0]]
  refine j_aload_n C dX2_takeFrom_0 rfl ?_
  refine j_aload_n C dX2_takeFrom_1 rfl ?_
  refine j_getI C fl_X2_9 (by assumption) dX2_takeFrom_2 (by decide) rfl ?_
  refine j_putI C fl_X2_9 (by assumption) dX2_takeFrom_5 (by decide) rfl (rfl) (rfl) ?_
  rw [jcopy_s _ hqp]
  refine j_aload_n C dX2_takeFrom_8 rfl ?_
  refine j_aload_n C dX2_takeFrom_9 rfl ?_
  refine j_getI C fl_X2_15 (by assumption) dX2_takeFrom_10 (by decide) rfl ?_
  refine j_putI C fl_X2_15 (by assumption) dX2_takeFrom_13 (by decide) rfl (rfl) (rfl) ?_
  rw [jcopy_s _ hqp]
  refine j_aload_n C dX2_takeFrom_16 rfl ?_
  refine j_aload_n C dX2_takeFrom_17 rfl ?_
  refine j_getI C fl_X2_18 (by assumption) dX2_takeFrom_18 (by decide) rfl ?_
  refine j_putI C fl_X2_18 (by assumption) dX2_takeFrom_21 (by decide) rfl (rfl) (rfl) ?_
  rw [jcopy_s _ hqp]
  refine j_aload_n C dX2_takeFrom_24 rfl ?_
  refine j_aload_n C dX2_takeFrom_25 rfl ?_
  refine j_getI C fl_X2_34 (by assumption) dX2_takeFrom_26 (by decide) rfl ?_
  refine j_putI C fl_X2_34 (by assumption) dX2_takeFrom_29 (by decide) rfl (rfl) (rfl) ?_
  rw [jcopy_s _ hqp]
  refine j_aload_n C dX2_takeFrom_32 rfl ?_
  refine j_aload_n C dX2_takeFrom_33 rfl ?_
  refine j_getI C fl_X2_37 (by assumption) dX2_takeFrom_34 (by decide) rfl ?_
  refine j_putI C fl_X2_37 (by assumption) dX2_takeFrom_37 (by decide) rfl (rfl) (rfl) ?_
  rw [jcopy_s _ hqp]
  refine j_aload_n C dX2_takeFrom_40 rfl ?_
  refine j_aload_n C dX2_takeFrom_41 rfl ?_
  refine j_getI C fl_X2_21 (by assumption) dX2_takeFrom_42 (by decide) rfl ?_
  refine j_putI C fl_X2_21 (by assumption) dX2_takeFrom_45 (by decide) rfl (rfl) (rfl) ?_
  rw [jcopy_s _ hqp]
  refine j_aload_n C dX2_takeFrom_48 rfl ?_
  refine j_aload_n C dX2_takeFrom_49 rfl ?_
  refine j_getI C fl_X2_24 (by assumption) dX2_takeFrom_50 (by decide) rfl ?_
  refine j_putI C fl_X2_24 (by assumption) dX2_takeFrom_53 (by decide) rfl (rfl) (rfl) ?_
  rw [jcopy_s _ hqp]
  refine j_aload_n C dX2_takeFrom_56 rfl ?_
  refine j_aload_n C dX2_takeFrom_57 rfl ?_
  refine j_getI C fl_X2_27 (by assumption) dX2_takeFrom_58 (by decide) rfl ?_
  refine j_putI C fl_X2_27 (by assumption) dX2_takeFrom_61 (by decide) rfl ((by rw [jcopy_o _ hqp]; exact hb.nar)) ((by rw [jcopy_o _ hqp]; exact hb.fit)) ?_
  rw [jcopy_s _ hqp]
  refine j_aload_n C dX2_takeFrom_64 rfl ?_
  refine j_aload_n C dX2_takeFrom_65 rfl ?_
  refine j_getI C fl_X2_31 (by assumption) dX2_takeFrom_66 (by decide) rfl ?_
  refine j_putI C fl_X2_31 (by assumption) dX2_takeFrom_69 (by decide) rfl (rfl) (rfl) ?_
  rw [jcopy_s _ hqp]
  exact j_return C E dX2_takeFrom_72 (by decide) (by decide) (⟨rfl, rfl, rfl, rfl⟩)

set_option maxHeartbeats 4000000 in
set_option maxRecDepth 100000 in
theorem c_X1_begin (l : Launch) (ω : jW) (γ : jG) (M : jM) (R : jR) {b v : Nat} (g : gLast ω γ b) (hv : jArr ω γ v 12 4) (hvb : v ≠ b + 1) (s c : Int32) : Ct l ω yX1_begin cX1_begin 4 none 2 0 0 [.ref b, .int s, .ref v, .int c] γ M R (jx γ none (rLBegin M b v s c) R) := by
  refine Ct_of (by decide) (Nat.le_of_ble_eq_true rfl) rfl (jcat_of rfl) ?_
  intro X C E hnm hxl hxn
  subst hxl
  obtain ⟨g0, g1, g2⟩ := g
  refine j_aload_n C dX1_begin_0 rfl ?_
  refine j_iconst C (nI 1) dX1_begin_1 (by decide) ?_
  refine j_putI C fl_X1_15 (by assumption) dX1_begin_2 (by decide) rfl (rfl) (rfl) ?_
  refine j_aload_n C dX1_begin_5 rfl ?_
  refine j_iload_n C dX1_begin_6 rfl ?_
  refine j_putI C fl_X1_19 (by assumption) dX1_begin_7 (by decide) rfl (rfl) (rfl) ?_
  refine j_aload_n C dX1_begin_10 rfl ?_
  refine j_aload_n C dX1_begin_11 rfl ?_
  refine j_getR C fl_X1_9 (by assumption) dX1_begin_12 (by decide) rfl (by assumption) ?_
  refine j_cSv C (c_X9_copy _ ω γ _ _ hv g2 (by decide) hvb) yc_X9_copy mn_X1_23 st_X9_copy dX1_begin_15 rfl rfl (Nat.le_of_ble_eq_true rfl) (by decide) ?_
  refine j_aload_n C dX1_begin_18 rfl ?_
  refine j_iload_n C dX1_begin_19 rfl ?_
  refine j_putI C fl_X1_27 (by assumption) dX1_begin_20 (by decide) rfl (rfl) (rfl) ?_
  refine j_aload_n C dX1_begin_23 rfl ?_
  refine j_bipush C (-4) dX1_begin_24 (by decide) ?_
  refine j_putI C fl_X1_30 (by assumption) dX1_begin_26 (by decide) rfl (rfl) (rfl) ?_
  exact j_return C E dX1_begin_29 (by decide) (by decide) (⟨rfl, rfl, rfl, rfl⟩)

set_option maxHeartbeats 4000000 in
set_option maxRecDepth 100000 in
theorem c_X1_takeFrom (l : Launch) (ω : jW) (γ : jG) (M : jM) (R : jR) {b c : Nat} (g : gLast ω γ b) (k : gLast ω γ c) (hcb : c ≠ b) (hcb1 : c ≠ b + 1) (hb1 : isB (M c 1)) (hb9 : isB (M c 9)) : Ct l ω yX1_takeFrom cX1_takeFrom 2 none 2 0 0 [.ref b, .ref c] γ M R (jx γ none (kLast M c b) R) := by
  refine Ct_of (by decide) (Nat.le_of_ble_eq_true rfl) rfl (jcat_of rfl) ?_
  intro X C E hnm hxl hxn
  subst hxl
  obtain ⟨g0, g1, g2⟩ := g
  obtain ⟨k0, k1, k2⟩ := k
  refine j_aload_n C dX1_takeFrom_0 rfl ?_
  refine j_getR C fl_X1_9 (by assumption) dX1_takeFrom_1 (by decide) rfl (by assumption) ?_
  refine j_aload_n C dX1_takeFrom_4 rfl ?_
  refine j_getR C fl_X1_9 (by assumption) dX1_takeFrom_5 (by decide) rfl (by assumption) ?_
  refine j_cSv C (c_X9_copy _ ω γ _ _ k2 g2 (by decide) (by omega)) yc_X9_copy mn_X1_23 st_X9_copy dX1_takeFrom_8 rfl rfl (Nat.le_of_ble_eq_true rfl) (by decide) ?_
  rw [show jcopy M (c + 1) (b + 1) 4 = jcopyF (jcopy M (c + 1) (b + 1) 4) c b 1 1 from (jcopyF_0 _ _ _ _).symm]
  refine j_aload_n C dX1_takeFrom_11 rfl ?_
  refine j_aload_n C dX1_takeFrom_12 rfl ?_
  refine j_getI C fl_X1_15 (by assumption) dX1_takeFrom_13 (by decide) rfl ?_
  refine j_putI C fl_X1_15 (by assumption) dX1_takeFrom_16 (by decide) rfl ((by rw [jcopyF_o _ hcb, jcopy_o _ (by omega)]; exact hb1.nar)) ((by rw [jcopyF_o _ hcb, jcopy_o _ (by omega)]; exact hb1.fit)) ?_
  rw [jcopyF_s _ (by decide) hcb]
  refine j_aload_n C dX1_takeFrom_19 rfl ?_
  refine j_aload_n C dX1_takeFrom_20 rfl ?_
  refine j_getI C fl_X1_19 (by assumption) dX1_takeFrom_21 (by decide) rfl ?_
  refine j_putI C fl_X1_19 (by assumption) dX1_takeFrom_24 (by decide) rfl (rfl) (rfl) ?_
  rw [jcopyF_s _ (by decide) hcb]
  refine j_aload_n C dX1_takeFrom_27 rfl ?_
  refine j_aload_n C dX1_takeFrom_28 rfl ?_
  refine j_getI C fl_X1_27 (by assumption) dX1_takeFrom_29 (by decide) rfl ?_
  refine j_putI C fl_X1_27 (by assumption) dX1_takeFrom_32 (by decide) rfl (rfl) (rfl) ?_
  rw [jcopyF_s _ (by decide) hcb]
  refine j_aload_n C dX1_takeFrom_35 rfl ?_
  refine j_aload_n C dX1_takeFrom_36 rfl ?_
  refine j_getI C fl_X1_33 (by assumption) dX1_takeFrom_37 (by decide) rfl ?_
  refine j_putI C fl_X1_33 (by assumption) dX1_takeFrom_40 (by decide) rfl (rfl) (rfl) ?_
  rw [jcopyF_s _ (by decide) hcb]
  refine j_aload_n C dX1_takeFrom_43 rfl ?_
  refine j_aload_n C dX1_takeFrom_44 rfl ?_
  refine j_getI C fl_X1_36 (by assumption) dX1_takeFrom_45 (by decide) rfl ?_
  refine j_putI C fl_X1_36 (by assumption) dX1_takeFrom_48 (by decide) rfl (rfl) (rfl) ?_
  rw [jcopyF_s _ (by decide) hcb]
  refine j_aload_n C dX1_takeFrom_51 rfl ?_
  refine j_aload_n C dX1_takeFrom_52 rfl ?_
  refine j_getI C fl_X1_39 (by assumption) dX1_takeFrom_53 (by decide) rfl ?_
  refine j_putI C fl_X1_39 (by assumption) dX1_takeFrom_56 (by decide) rfl (rfl) (rfl) ?_
  rw [jcopyF_s _ (by decide) hcb]
  refine j_aload_n C dX1_takeFrom_59 rfl ?_
  refine j_aload_n C dX1_takeFrom_60 rfl ?_
  refine j_getI C fl_X1_42 (by assumption) dX1_takeFrom_61 (by decide) rfl ?_
  refine j_putI C fl_X1_42 (by assumption) dX1_takeFrom_64 (by decide) rfl (rfl) (rfl) ?_
  rw [jcopyF_s _ (by decide) hcb]
  refine j_aload_n C dX1_takeFrom_67 rfl ?_
  refine j_aload_n C dX1_takeFrom_68 rfl ?_
  refine j_getI C fl_X1_45 (by assumption) dX1_takeFrom_69 (by decide) rfl ?_
  refine j_putI C fl_X1_45 (by assumption) dX1_takeFrom_72 (by decide) rfl (rfl) (rfl) ?_
  rw [jcopyF_s _ (by decide) hcb]
  refine j_aload_n C dX1_takeFrom_75 rfl ?_
  refine j_aload_n C dX1_takeFrom_76 rfl ?_
  refine j_getI C fl_X1_48 (by assumption) dX1_takeFrom_77 (by decide) rfl ?_
  refine j_putI C fl_X1_48 (by assumption) dX1_takeFrom_80 (by decide) rfl ((by rw [jcopyF_o _ hcb, jcopy_o _ (by omega)]; exact hb9.nar)) ((by rw [jcopyF_o _ hcb, jcopy_o _ (by omega)]; exact hb9.fit)) ?_
  rw [jcopyF_s _ (by decide) hcb]
  refine j_aload_n C dX1_takeFrom_83 rfl ?_
  refine j_aload_n C dX1_takeFrom_84 rfl ?_
  refine j_getI C fl_X1_30 (by assumption) dX1_takeFrom_85 (by decide) rfl ?_
  refine j_putI C fl_X1_30 (by assumption) dX1_takeFrom_88 (by decide) rfl (rfl) (rfl) ?_
  rw [jcopyF_s _ (by decide) hcb]
  exact j_return C E dX1_takeFrom_91 (by decide) (by decide) (⟨rfl, rfl, rfl, rfl⟩)

set_option maxHeartbeats 4000000 in
set_option maxRecDepth 100000 in
theorem c_X5_takeFrom (l : Launch) (ω : jW) (γ : jG) (M : jM) (R : jR) {t u : Nat} (g : gStm ω γ t) (k : gStm ω γ u) (hd : u + 3 ≤ t ∨ t + 3 ≤ u) : Ct l ω yX5_takeFrom cX5_takeFrom 2 none 2 0 0 [.ref t, .ref u] γ M R (jx γ none (kStm M u t) R) := by
  refine Ct_of (by decide) (Nat.le_of_ble_eq_true rfl) rfl (jcat_of rfl) ?_
  intro X C E hnm hxl hxn
  subst hxl
  obtain ⟨g0, g1, g2, g3, g4⟩ := g
  obtain ⟨k0, k1, k2, k3, k4⟩ := k
  have hut : u ≠ t := by omega
  refine j_aload_n C dX5_takeFrom_0 rfl ?_
  refine j_getR C fl_X5_9 (by assumption) dX5_takeFrom_1 (by decide) rfl (by assumption) ?_
  refine j_aload_n C dX5_takeFrom_4 rfl ?_
  refine j_getR C fl_X5_9 (by assumption) dX5_takeFrom_5 (by decide) rfl (by assumption) ?_
  refine j_cSv C (c_X9_copy _ ω γ _ _ k2 g2 (by decide) (by omega)) yc_X9_copy mn_X5_64 st_X9_copy dX5_takeFrom_8 rfl rfl (Nat.le_of_ble_eq_true rfl) (by decide) ?_
  refine j_aload_n C dX5_takeFrom_11 rfl ?_
  refine j_getR C fl_X5_15 (by assumption) dX5_takeFrom_12 (by decide) rfl (by assumption) ?_
  refine j_aload_n C dX5_takeFrom_15 rfl ?_
  refine j_getR C fl_X5_15 (by assumption) dX5_takeFrom_16 (by decide) rfl (by assumption) ?_
  refine j_cSv C (c_X9_copy _ ω γ _ _ k4 g4 (by decide) (by omega)) yc_X9_copy mn_X5_64 st_X9_copy dX5_takeFrom_19 rfl rfl (Nat.le_of_ble_eq_true rfl) (by decide) ?_
  rw [show jcopy (jcopy M (u + 1) (t + 1) 4) (u + 2) (t + 2) 4 = jcopyF (jcopy (jcopy M (u + 1) (t + 1) 4) (u + 2) (t + 2) 4) u t 2 2 from (jcopyF_0 _ _ _ _).symm]
  refine j_aload_n C dX5_takeFrom_22 rfl ?_
  refine j_aload_n C dX5_takeFrom_23 rfl ?_
  refine j_getI C fl_X5_18 (by assumption) dX5_takeFrom_24 (by decide) rfl ?_
  refine j_putI C fl_X5_18 (by assumption) dX5_takeFrom_27 (by decide) rfl (rfl) (rfl) ?_
  rw [jcopyF_s _ (by decide) hut]
  refine j_aload_n C dX5_takeFrom_30 rfl ?_
  refine j_aload_n C dX5_takeFrom_31 rfl ?_
  refine j_getI C fl_X5_61 (by assumption) dX5_takeFrom_32 (by decide) rfl ?_
  refine j_putI C fl_X5_61 (by assumption) dX5_takeFrom_35 (by decide) rfl (rfl) (rfl) ?_
  rw [jcopyF_s _ (by decide) hut]
  exact j_return C E dX5_takeFrom_38 (by decide) (by decide) (⟨rfl, rfl, rfl, rfl⟩)

set_option maxHeartbeats 4000000 in
set_option maxRecDepth 100000 in
theorem c_X6_takeFrom (l : Launch) (ω : jW) (γ : jG) (M : jM) (R : jR) {b c : Nat} (g : gSums ω γ b) (k : gSums ω γ c) (hd : c + 2 ≤ b ∨ b + 2 ≤ c) : Ct l ω yX6_takeFrom cX6_takeFrom 2 none 2 0 0 [.ref b, .ref c] γ M R (jx γ none (kSums M c b) R) := by
  refine Ct_of (by decide) (Nat.le_of_ble_eq_true rfl) rfl (jcat_of rfl) ?_
  intro X C E hnm hxl hxn
  subst hxl
  obtain ⟨g0, g1, g2⟩ := g
  obtain ⟨k0, k1, k2⟩ := k
  have hcb : c ≠ b := by omega
  refine j_aload_n C dX6_takeFrom_0 rfl ?_
  refine j_getR C fl_X6_9 (by assumption) dX6_takeFrom_1 (by decide) rfl (by assumption) ?_
  refine j_aload_n C dX6_takeFrom_4 rfl ?_
  refine j_getR C fl_X6_9 (by assumption) dX6_takeFrom_5 (by decide) rfl (by assumption) ?_
  refine j_cSv C (c_X9_copy _ ω γ _ _ k2 g2 (by decide) (by omega)) yc_X9_copy mn_X6_27 st_X9_copy dX6_takeFrom_8 rfl rfl (Nat.le_of_ble_eq_true rfl) (by decide) ?_
  rw [show jcopy M (c + 1) (b + 1) 128 = jcopyF (jcopy M (c + 1) (b + 1) 128) c b 1 1 from (jcopyF_0 _ _ _ _).symm]
  refine j_aload_n C dX6_takeFrom_11 rfl ?_
  refine j_aload_n C dX6_takeFrom_12 rfl ?_
  refine j_getI C fl_X6_31 (by assumption) dX6_takeFrom_13 (by decide) rfl ?_
  refine j_putI C fl_X6_31 (by assumption) dX6_takeFrom_16 (by decide) rfl (rfl) (rfl) ?_
  rw [jcopyF_s _ (by decide) hcb]
  exact j_return C E dX6_takeFrom_19 (by decide) (by decide) (⟨rfl, rfl, rfl, rfl⟩)

set_option maxHeartbeats 4000000 in
set_option maxRecDepth 100000 in
theorem c_X7_takeFrom (l : Launch) (ω : jW) (γ : jG) (M : jM) (R : jR) {b c : Nat} (g : gTable ω γ b) (k : gTable ω γ c) (hd : c + 4 ≤ b ∨ b + 4 ≤ c) : Ct l ω yX7_takeFrom cX7_takeFrom 2 none 3 0 0 [.ref b, .ref c] γ M R (jx γ none (kTable M c b) R) := by
  refine Ct_of (by decide) (Nat.le_of_ble_eq_true rfl) rfl (jcat_of rfl) ?_
  intro X C E hnm hxl hxn
  subst hxl
  obtain ⟨g0, g1, g2, g3, g4⟩ := g
  obtain ⟨k0, k1, k2, k3, k4⟩ := k
  have hcb : c ≠ b := by omega
  refine j_aload_n C dX7_takeFrom_0 rfl ?_
  refine j_getR C fl_X7_11 (by assumption) dX7_takeFrom_1 (by decide) rfl (by assumption) ?_
  refine j_aload_n C dX7_takeFrom_4 rfl ?_
  refine j_getR C fl_X7_11 (by assumption) dX7_takeFrom_5 (by decide) rfl (by assumption) ?_
  refine j_cSv C (c_X9_copy _ ω γ _ _ k2 g2 (by decide) (by omega)) yc_X9_copy mn_X7_69 st_X9_copy dX7_takeFrom_8 rfl rfl (Nat.le_of_ble_eq_true rfl) (by decide) ?_
  refine j_aload_n C dX7_takeFrom_11 rfl ?_
  refine j_getR C fl_X7_18 (by assumption) dX7_takeFrom_12 (by decide) rfl (by assumption) ?_
  refine j_aload_n C dX7_takeFrom_15 rfl ?_
  refine j_getR C fl_X7_18 (by assumption) dX7_takeFrom_16 (by decide) rfl (by assumption) ?_
  refine j_cVv C (c_X6_takeFrom _ ω γ _ _ g4 k4 (by omega)) yc_X6_takeFrom mn_X7_73 im_X6_takeFrom se_X6_takeFrom rfl rfl dX7_takeFrom_19 rfl rfl (g4.1) (by decide) (Nat.le_of_ble_eq_true rfl) (by decide) ?_
  rw [show kSums (jcopy M (c + 1) (b + 1) 150) (c + 2) (b + 2) = jcopyF (kSums (jcopy M (c + 1) (b + 1) 150) (c + 2) (b + 2)) c b 2 2 from (jcopyF_0 _ _ _ _).symm]
  refine j_aload_n C dX7_takeFrom_22 rfl ?_
  refine j_aload_n C dX7_takeFrom_23 rfl ?_
  refine j_getI C fl_X7_22 (by assumption) dX7_takeFrom_24 (by decide) rfl ?_
  refine j_putI C fl_X7_22 (by assumption) dX7_takeFrom_27 (by decide) rfl (rfl) (rfl) ?_
  rw [jcopyF_s _ (by decide) hcb]
  exact j_return C E dX7_takeFrom_30 (by decide) (by decide) (⟨rfl, rfl, rfl, rfl⟩)

set_option maxHeartbeats 4000000 in
set_option maxRecDepth 100000 in
theorem c_X3_takeFrom (l : Launch) (ω : jW) (γ : jG) (M : jM) (R : jR) {b c : Nat} (g : gShelf ω γ b) (k : gShelf ω γ c) (hb : SR R b) (hc : SR R c) (hd : c + 11 ≤ b ∨ b + 11 ≤ c) (hB : ∀ i, i < 8 → isB (M (pa R c i) 7)) : Ct l ω yX3_takeFrom cX3_takeFrom 3 none 2 0 0 [.ref b, .ref c] γ M R (jx γ none (kShelf M R c b) R) := by
  refine Ct_of (by decide) (Nat.le_of_ble_eq_true rfl) rfl (jcat_of rfl) ?_
  intro X C E hnm hxl hxn
  subst hxl
  have g0 := g.1
  have g1 := g.2.1
  have g2 := g.2.2.1
  have k0 := k.1
  have hcb : c ≠ b := by omega
  refine j_iconst C (nI 0) dX3_takeFrom_0 (by decide) ?_
  refine j_istore_n C dX3_takeFrom_1 (by rw [hxn]; decide) ?_
  refine j_loop 8 (fun i => [(0, .ref b), (1, .ref c), (2, .int (nI i))]) (fun i => kPl M R c b i) (fun _ => R) (fun _ => True) trivial (fun i hi _ ih => ?_) (fun _ => ?_)
  · skip
    refine j_iload_n C dX3_takeFrom_2 rfl ?_
    refine j_aload_n C dX3_takeFrom_3 rfl ?_
    refine j_getR C fl_X3_11 (by assumption) dX3_takeFrom_4 (by decide) rfl (by assumption) ?_
    refine j_alen C (by assumption) rfl (by decide) dX3_takeFrom_7 ?_
    refine j_icmp_ge C 30 dX3_takeFrom_8 (by decide) (fun h => absurd h (nI_ge hi (by decide))) (fun _ => ?_)
    refine j_aload_n C dX3_takeFrom_11 rfl ?_
    refine j_iload_n C dX3_takeFrom_12 rfl ?_
    refine j_cVr C (c_X3_planAtN _ ω γ _ R g hb hi) yc_X3_planAt mn_X3_26 im_X3_planAt se_X3_planAt rfl rfl dX3_takeFrom_13 rfl rfl (by assumption) (by decide) (Nat.le_of_ble_eq_true rfl) (by decide) ?_
    refine j_aload_n C dX3_takeFrom_16 rfl ?_
    refine j_iload_n C dX3_takeFrom_17 rfl ?_
    refine j_cVr C (c_X3_planAtN _ ω γ _ R k hc hi) yc_X3_planAt mn_X3_26 im_X3_planAt se_X3_planAt rfl rfl dX3_takeFrom_18 rfl rfl (by assumption) (by decide) (Nat.le_of_ble_eq_true rfl) (by decide) ?_
    obtain ⟨j1, hj1, e1⟩ := hb.rg hi
    obtain ⟨j2, hj2, e2⟩ := hc.rg hi
    refine j_cVv C (c_X2_takeFrom _ ω γ _ R (hb.pl g hi) (hc.pl k hi) (by omega) (by rw [kPl_o M hb (by omega) i (by omega)]; exact hB i hi)) yc_X2_takeFrom mn_X3_75 im_X2_takeFrom se_X2_takeFrom rfl rfl dX3_takeFrom_21 rfl rfl (hb.pl g hi) (by decide) (Nat.le_of_ble_eq_true rfl) (by decide) ?_
    first | refine j_iinc1 C dX3_takeFrom_24 rfl (by rw [hxn]; decide) ?_ | refine j_iinc C _ dX3_takeFrom_24 rfl rfl (by rw [hxn]; decide) ?_
    refine j_goto C 2 dX3_takeFrom_27 (by decide) ?_
    exact ih trivial
  · skip
    refine j_iload_n C dX3_takeFrom_2 rfl ?_
    refine j_aload_n C dX3_takeFrom_3 rfl ?_
    refine j_getR C fl_X3_11 (by assumption) dX3_takeFrom_4 (by decide) rfl (by assumption) ?_
    refine j_alen C (by assumption) rfl (by decide) dX3_takeFrom_7 ?_
    refine j_icmp_ge C 30 dX3_takeFrom_8 (by decide) (fun _ => ?_) (fun h => absurd (Int32.le_refl _) h)
    rw [show kPl M R c b 8 = jcopyF (kPl M R c b 8) c b 2 2 from (jcopyF_0 _ _ _ _).symm]
    refine j_aload_n C dX3_takeFrom_30 rfl ?_
    refine j_aload_n C dX3_takeFrom_31 rfl ?_
    refine j_getI C fl_X3_22 (by assumption) dX3_takeFrom_32 (by decide) rfl ?_
    refine j_putI C fl_X3_22 (by assumption) dX3_takeFrom_35 (by decide) rfl (rfl) (rfl) ?_
    rw [jcopyF_s _ (by decide) hcb]
    refine j_aload_n C dX3_takeFrom_38 rfl ?_
    refine j_aload_n C dX3_takeFrom_39 rfl ?_
    refine j_getI C fl_X3_69 (by assumption) dX3_takeFrom_40 (by decide) rfl ?_
    refine j_putI C fl_X3_69 (by assumption) dX3_takeFrom_43 (by decide) rfl (rfl) (rfl) ?_
    rw [jcopyF_s _ (by decide) hcb]
    refine j_aload_n C dX3_takeFrom_46 rfl ?_
    refine j_aload_n C dX3_takeFrom_47 rfl ?_
    refine j_getI C fl_X3_62 (by assumption) dX3_takeFrom_48 (by decide) rfl ?_
    refine j_putI C fl_X3_62 (by assumption) dX3_takeFrom_51 (by decide) rfl (rfl) (rfl) ?_
    rw [jcopyF_s _ (by decide) hcb]
    refine j_aload_n C dX3_takeFrom_54 rfl ?_
    refine j_aload_n C dX3_takeFrom_55 rfl ?_
    refine j_getI C fl_X3_72 (by assumption) dX3_takeFrom_56 (by decide) rfl ?_
    refine j_putI C fl_X3_72 (by assumption) dX3_takeFrom_59 (by decide) rfl (rfl) (rfl) ?_
    rw [jcopyF_s _ (by decide) hcb]
    exact j_return C E dX3_takeFrom_62 (by decide) (by decide) (⟨rfl, rfl, rfl, rfl⟩)

set_option maxHeartbeats 4000000 in
set_option maxRecDepth 100000 in
theorem c_X4_takeFrom (l : Launch) (ω : jW) (γ : jG) (M : jM) (R : jR) {a e : Nat} (g : gState ω γ a) (kg : gState ω γ e) (hd : a + 43 ≤ e ∨ e + 43 ≤ a) (sa : SS R a) (se : SS R e) (ra : SR R (a + 11)) (re : SR R (e + 11)) (hB : ∀ i, i < 8 → isB (M (pa R (e + 11) i) 7)) (hb1 : isB (M (e + 22) 1)) (hb9 : isB (M (e + 22) 9)) : Ct l ω yX4_takeFrom cX4_takeFrom 3 none 4 0 0 [.ref a, .ref e] γ M R (jx γ none (kState M R e a) R) := by
  refine Ct_of (by decide) (Nat.le_of_ble_eq_true rfl) rfl (jcat_of rfl) ?_
  intro X C E hnm hxl hxn
  subst hxl
  have s0 : jAt ω γ a 4 := g.1
  have p0 : jP γ a 0 = some (a + 1) := g.2.1
  have gt : gTable ω γ (a + 1) := g.2.2.1
  have p1 : jP γ a 1 = some (a + 5) := g.2.2.2.1
  have gs : gSums ω γ (a + 5) := g.2.2.2.2.1
  have p2 : jP γ a 2 = some (a + 7) := g.2.2.2.2.2.1
  have ga : jArr ω γ (a + 7) 15 6 := g.2.2.2.2.2.2.1
  have p4 : jP γ a 4 = some (a + 11) := g.2.2.2.2.2.2.2.2.2.1
  have gh : gShelf ω γ (a + 11) := g.2.2.2.2.2.2.2.2.2.2.1
  have p5 : jP γ a 5 = some (a + 22) := g.2.2.2.2.2.2.2.2.2.2.2.1
  have gl : gLast ω γ (a + 22) := g.2.2.2.2.2.2.2.2.2.2.2.2.1
  have p6 : jP γ a 6 = some (a + 24) := g.2.2.2.2.2.2.2.2.2.2.2.2.2.1
  have gc : jArr ω γ (a + 24) 12 5 := g.2.2.2.2.2.2.2.2.2.2.2.2.2.2.1
  have gm : ∀ t, t < 6 → gStm ω γ (a + 25 + 3 * t) := g.2.2.2.2.2.2.2.2.2.2.2.2.2.2.2
  have gh0 : jAt ω γ (a + 11) 3 := gh.1
  have gl0 : jAt ω γ (a + 22) 1 := gl.1
  have gt0 : jAt ω γ (a + 1) 7 := gt.1
  have gs0 : jAt ω γ (a + 5) 6 := gs.1
  have gtp : jP γ (a + 1) 1 = some (a + 3) := gt.2.2.2.1
  have gu : gSums ω γ (a + 3) := gt.2.2.2.2
  have gu0 : jAt ω γ (a + 3) 6 := gu.1
  have ks0 : jAt ω γ e 4 := kg.1
  have kp0 : jP γ e 0 = some (e + 1) := kg.2.1
  have kgt : gTable ω γ (e + 1) := kg.2.2.1
  have kp1 : jP γ e 1 = some (e + 5) := kg.2.2.2.1
  have kgs : gSums ω γ (e + 5) := kg.2.2.2.2.1
  have kp2 : jP γ e 2 = some (e + 7) := kg.2.2.2.2.2.1
  have kga : jArr ω γ (e + 7) 15 6 := kg.2.2.2.2.2.2.1
  have kp4 : jP γ e 4 = some (e + 11) := kg.2.2.2.2.2.2.2.2.2.1
  have kgh : gShelf ω γ (e + 11) := kg.2.2.2.2.2.2.2.2.2.2.1
  have kp5 : jP γ e 5 = some (e + 22) := kg.2.2.2.2.2.2.2.2.2.2.2.1
  have kgl : gLast ω γ (e + 22) := kg.2.2.2.2.2.2.2.2.2.2.2.2.1
  have kp6 : jP γ e 6 = some (e + 24) := kg.2.2.2.2.2.2.2.2.2.2.2.2.2.1
  have kgc : jArr ω γ (e + 24) 12 5 := kg.2.2.2.2.2.2.2.2.2.2.2.2.2.2.1
  have kgm : ∀ t, t < 6 → gStm ω γ (e + 25 + 3 * t) := kg.2.2.2.2.2.2.2.2.2.2.2.2.2.2.2
  have kgh0 : jAt ω γ (e + 11) 3 := kgh.1
  have kgl0 : jAt ω γ (e + 22) 1 := kgl.1
  have kgt0 : jAt ω γ (e + 1) 7 := kgt.1
  have kgs0 : jAt ω γ (e + 5) 6 := kgs.1
  have kgtp : jP γ (e + 1) 1 = some (e + 3) := kgt.2.2.2.1
  have kgu : gSums ω γ (e + 3) := kgt.2.2.2.2
  have kgu0 : jAt ω γ (e + 3) 6 := kgu.1
  have hae : e ≠ a := by omega
  refine j_aload_n C dX4_takeFrom_0 rfl ?_
  refine j_getR C fl_X4_12 (by assumption) dX4_takeFrom_1 (by decide) rfl (by assumption) ?_
  refine j_aload_n C dX4_takeFrom_4 rfl ?_
  refine j_getR C fl_X4_12 (by assumption) dX4_takeFrom_5 (by decide) rfl (by assumption) ?_
  refine j_cVv C (c_X7_takeFrom _ ω γ _ R gt kgt (by omega)) yc_X7_takeFrom mn_X4_214 im_X7_takeFrom se_X7_takeFrom rfl rfl dX4_takeFrom_8 rfl rfl (by assumption) (by decide) (Nat.le_of_ble_eq_true rfl) (by decide) ?_
  refine j_aload_n C dX4_takeFrom_11 rfl ?_
  refine j_getR C fl_X4_21 (by assumption) dX4_takeFrom_12 (by decide) rfl (by assumption) ?_
  refine j_aload_n C dX4_takeFrom_15 rfl ?_
  refine j_getR C fl_X4_21 (by assumption) dX4_takeFrom_16 (by decide) rfl (by assumption) ?_
  refine j_cVv C (c_X6_takeFrom _ ω γ _ R gs kgs (by omega)) yc_X6_takeFrom mn_X4_218 im_X6_takeFrom se_X6_takeFrom rfl rfl dX4_takeFrom_19 rfl rfl (by assumption) (by decide) (Nat.le_of_ble_eq_true rfl) (by decide) ?_
  refine j_iconst C (nI 0) dX4_takeFrom_22 (by decide) ?_
  refine j_istore_n C dX4_takeFrom_23 (by rw [hxn]; decide) ?_
  refine j_loop 6 (fun i => [(0, .ref a), (1, .ref e), (2, .int (nI i))]) (fun i => kStms (kSums (kTable M (e + 1) (a + 1)) (e + 5) (a + 5)) e a i) (fun _ => R) (fun _ => True) trivial (fun i hi _ ih => ?_) (fun _ => ?_)
  · skip
    refine j_iload_n C dX4_takeFrom_24 rfl ?_
    refine j_aload_n C dX4_takeFrom_25 rfl ?_
    refine j_getR C fl_X4_27 (by assumption) dX4_takeFrom_26 (by decide) rfl (by assumption) ?_
    refine j_alen C (by assumption) rfl (by decide) dX4_takeFrom_29 ?_
    refine j_icmp_ge C 52 dX4_takeFrom_30 (by decide) (fun h => absurd h (nI_ge hi (by decide))) (fun _ => ?_)
    refine j_aload_n C dX4_takeFrom_33 rfl ?_
    refine j_iload_n C dX4_takeFrom_34 rfl ?_
    refine j_cVr C (c_X4_statementAtN _ ω γ _ R g sa hi) yc_X4_statementAt mn_X4_73 im_X4_statementAt se_X4_statementAt rfl rfl dX4_takeFrom_35 rfl rfl (by assumption) (by decide) (Nat.le_of_ble_eq_true rfl) (by decide) ?_
    refine j_aload_n C dX4_takeFrom_38 rfl ?_
    refine j_iload_n C dX4_takeFrom_39 rfl ?_
    refine j_cVr C (c_X4_statementAtN _ ω γ _ R kg se hi) yc_X4_statementAt mn_X4_73 im_X4_statementAt se_X4_statementAt rfl rfl dX4_takeFrom_40 rfl rfl (by assumption) (by decide) (Nat.le_of_ble_eq_true rfl) (by decide) ?_
    refine j_cVv C (c_X5_takeFrom _ ω γ _ R (gm i hi) (kgm i hi) (by omega)) yc_X5_takeFrom mn_X4_221 im_X5_takeFrom se_X5_takeFrom rfl rfl dX4_takeFrom_43 rfl rfl ((gm i hi).1) (by decide) (Nat.le_of_ble_eq_true rfl) (by decide) ?_
    first | refine j_iinc1 C dX4_takeFrom_46 rfl (by rw [hxn]; decide) ?_ | refine j_iinc C _ dX4_takeFrom_46 rfl rfl (by rw [hxn]; decide) ?_
    refine j_goto C 24 dX4_takeFrom_49 (by decide) ?_
    exact ih trivial
  · skip
    refine j_iload_n C dX4_takeFrom_24 rfl ?_
    refine j_aload_n C dX4_takeFrom_25 rfl ?_
    refine j_getR C fl_X4_27 (by assumption) dX4_takeFrom_26 (by decide) rfl (by assumption) ?_
    refine j_alen C (by assumption) rfl (by decide) dX4_takeFrom_29 ?_
    refine j_icmp_ge C 52 dX4_takeFrom_30 (by decide) (fun _ => ?_) (fun h => absurd (Int32.le_refl _) h)
    refine j_aload_n C dX4_takeFrom_52 rfl ?_
    refine j_getR C fl_X4_39 (by assumption) dX4_takeFrom_53 (by decide) rfl (by assumption) ?_
    refine j_aload_n C dX4_takeFrom_56 rfl ?_
    refine j_getR C fl_X4_39 (by assumption) dX4_takeFrom_57 (by decide) rfl (by assumption) ?_
    refine j_cVv C (c_X3_takeFrom _ ω γ _ R gh kgh ra re (by omega) (fun i hi => by obtain ⟨j, hj, q⟩ := re.rg hi; rw [q, kStms_o _ 6 (by omega), kSums_o _ (by omega), kTable_o _ (by omega), ← q]; exact hB i hi)) yc_X3_takeFrom mn_X4_224 im_X3_takeFrom se_X3_takeFrom rfl rfl dX4_takeFrom_60 rfl rfl (by assumption) (by decide) (Nat.le_of_ble_eq_true rfl) (by decide) ?_
    refine j_aload_n C dX4_takeFrom_63 rfl ?_
    refine j_getR C fl_X4_46 (by assumption) dX4_takeFrom_64 (by decide) rfl (by assumption) ?_
    refine j_aload_n C dX4_takeFrom_67 rfl ?_
    refine j_getR C fl_X4_46 (by assumption) dX4_takeFrom_68 (by decide) rfl (by assumption) ?_
    refine j_cVv C (c_X1_takeFrom _ ω γ _ R gl kgl (by omega) (by omega) (by rw [kShelf_o _ ra (by omega), kStms_o _ 6 (by omega), kSums_o _ (by omega), kTable_o _ (by omega)]; exact hb1) (by rw [kShelf_o _ ra (by omega), kStms_o _ 6 (by omega), kSums_o _ (by omega), kTable_o _ (by omega)]; exact hb9)) yc_X1_takeFrom mn_X4_227 im_X1_takeFrom se_X1_takeFrom rfl rfl dX4_takeFrom_71 rfl rfl (by assumption) (by decide) (Nat.le_of_ble_eq_true rfl) (by decide) ?_
    refine j_aload_n C dX4_takeFrom_74 rfl ?_
    refine j_getR C fl_X4_50 (by assumption) dX4_takeFrom_75 (by decide) rfl (by assumption) ?_
    refine j_aload_n C dX4_takeFrom_78 rfl ?_
    refine j_getR C fl_X4_50 (by assumption) dX4_takeFrom_79 (by decide) rfl (by assumption) ?_
    refine j_cSv C (c_X9_copy _ ω γ _ R kgc gc (by decide) (by omega)) yc_X9_copy mn_X4_230 st_X9_copy dX4_takeFrom_82 rfl rfl (Nat.le_of_ble_eq_true rfl) (by decide) ?_
    refine j_mem (jcopyF (jcopy (kSt5 M R e a) (e + 24) (a + 24) 5) e a 7 7) (jcopyF_0 _ _ _ _).symm ?_
    refine j_aload_n C dX4_takeFrom_85 rfl ?_
    refine j_aload_n C dX4_takeFrom_86 rfl ?_
    refine j_getI C fl_X4_54 (by assumption) dX4_takeFrom_87 (by decide) rfl ?_
    refine j_putI C fl_X4_54 (by assumption) dX4_takeFrom_90 (by decide) rfl (rfl) (rfl) ?_
    rw [jcopyF_s _ (by decide) hae]
    refine j_aload_n C dX4_takeFrom_93 rfl ?_
    refine j_aload_n C dX4_takeFrom_94 rfl ?_
    refine j_getI C fl_X4_93 (by assumption) dX4_takeFrom_95 (by decide) rfl ?_
    refine j_putI C fl_X4_93 (by assumption) dX4_takeFrom_98 (by decide) rfl (rfl) (rfl) ?_
    rw [jcopyF_s _ (by decide) hae]
    refine j_aload_n C dX4_takeFrom_101 rfl ?_
    refine j_aload_n C dX4_takeFrom_102 rfl ?_
    refine j_getI C fl_X4_128 (by assumption) dX4_takeFrom_103 (by decide) rfl ?_
    refine j_putI C fl_X4_128 (by assumption) dX4_takeFrom_106 (by decide) rfl (rfl) (rfl) ?_
    rw [jcopyF_s _ (by decide) hae]
    refine j_aload_n C dX4_takeFrom_109 rfl ?_
    refine j_aload_n C dX4_takeFrom_110 rfl ?_
    refine j_getI C fl_X4_158 (by assumption) dX4_takeFrom_111 (by decide) rfl ?_
    refine j_putI C fl_X4_158 (by assumption) dX4_takeFrom_114 (by decide) rfl (rfl) (rfl) ?_
    rw [jcopyF_s _ (by decide) hae]
    refine j_aload_n C dX4_takeFrom_117 rfl ?_
    refine j_aload_n C dX4_takeFrom_118 rfl ?_
    refine j_getI C fl_X4_207 (by assumption) dX4_takeFrom_119 (by decide) rfl ?_
    refine j_putI C fl_X4_207 (by assumption) dX4_takeFrom_122 (by decide) rfl (rfl) (rfl) ?_
    rw [jcopyF_s _ (by decide) hae]
    exact j_return C E dX4_takeFrom_125 (by decide) (by decide) (⟨rfl, rfl, rfl, rfl⟩)

set_option maxHeartbeats 4000000 in
set_option maxRecDepth 100000 in
theorem c_X4_flipIndex (l : Launch) (ω : jW) (γ : jG) (M : jM) (R : jR) {a : Nat} (g : jAt ω γ a 4) (c : Int32) : Ct l ω yX4_flipIndex cX4_flipIndex 2 none 1 0 0 [.ref a, .int c] γ M R (jx γ none (jup M a 7 (M a 7 ^^^ (nI 1 <<< (c &&& 31)))) R) := by
  refine Ct_of (by decide) (Nat.le_of_ble_eq_true rfl) rfl (jcat_of rfl) ?_
  intro X C E hnm hxl hxn
  subst hxl
  refine j_aload_n C dX4_flipIndex_0 rfl ?_
  refine j_dup C dX4_flipIndex_1 rfl ?_
  refine j_getI C fl_X4_54 (by assumption) dX4_flipIndex_2 (by decide) rfl ?_
  refine j_iconst C (nI 1) dX4_flipIndex_5 (by decide) ?_
  refine j_iload_n C dX4_flipIndex_6 rfl ?_
  refine j_ishl C dX4_flipIndex_7 ?_
  refine j_ixor C dX4_flipIndex_8 ?_
  refine j_putI C fl_X4_54 (by assumption) dX4_flipIndex_9 (by decide) rfl (rfl) (rfl) ?_
  exact j_return C E dX4_flipIndex_12 (by decide) (by decide) (⟨rfl, rfl, rfl, rfl⟩)

set_option maxHeartbeats 4000000 in
set_option maxRecDepth 100000 in
theorem c_X4_changeSetting (l : Launch) (ω : jW) (γ : jG) (M : jM) (R : jR) {a w : Nat} (g : gState ω γ a) (hw : w < 5) (x : Int32) : Ct l ω yX4_changeSetting cX4_changeSetting 4 (some .int) 2 0 0 [.ref a, .int (nI w), .int x] γ M R (jx γ (some (.int (M (a + 24) w))) (jup M (a + 24) w x) R) := by
  refine Ct_of (by decide) (Nat.le_of_ble_eq_true rfl) rfl (jcat_of rfl) ?_
  intro X C E hnm hxl hxn
  subst hxl
  have s0 := g.1
  have p6 : jP γ a 6 = some (a + 24) := g.2.2.2.2.2.2.2.2.2.2.2.2.2.1
  have gc : jArr ω γ (a + 24) 12 5 := g.2.2.2.2.2.2.2.2.2.2.2.2.2.2.1
  refine j_aload_n C dX4_changeSetting_0 rfl ?_
  refine j_getR C fl_X4_50 (by assumption) dX4_changeSetting_1 (by decide) rfl (by assumption) ?_
  refine j_iload_n C dX4_changeSetting_4 rfl ?_
  refine j_cSi C (c_X9_at _ _ _ _ _ (by assumption) (by decide) _) yc_X9_at mn_X4_85 st_X9_at dX4_changeSetting_5 rfl rfl (Nat.le_of_ble_eq_true rfl) (by decide) ?_
  refine j_top (M (a + 24) w) (rAt_N _ hw (by decide)) ?_
  refine j_istore_n C dX4_changeSetting_8 (by rw [hxn]; decide) ?_
  refine j_aload_n C dX4_changeSetting_9 rfl ?_
  refine j_getR C fl_X4_50 (by assumption) dX4_changeSetting_10 (by decide) rfl (by assumption) ?_
  refine j_iload_n C dX4_changeSetting_13 rfl ?_
  refine j_iload_n C dX4_changeSetting_14 rfl ?_
  refine j_cSv C (c_X9_putN _ ω γ M R gc (by decide) hw x) yc_X9_put mn_X4_89 st_X9_put dX4_changeSetting_15 rfl rfl (Nat.le_of_ble_eq_true rfl) (by decide) ?_
  refine j_iload_n C dX4_changeSetting_18 rfl ?_
  exact j_ireturn C E dX4_changeSetting_19 (rfl) (by decide) (by decide) (⟨rfl, rfl, rfl, rfl⟩)

set_option maxHeartbeats 4000000 in
set_option maxRecDepth 100000 in
theorem c_X3_remove (l : Launch) (ω : jW) (γ : jG) (M : jM) (R : jR) {b n : Nat} (g : gShelf ω γ b) (hs : SR R b) (hkp : M b 2 = nI n) (hn : n ≤ 8) {p : Nat} (hp : p < n) : Ct l ω yX3_remove cX3_remove 4 none 1 0 0 [.ref b, .int (nI p)] γ M R (jx γ none (rRem M b n) (jswap R b p (n - 1))) := by
  refine Ct_of (by decide) (Nat.le_of_ble_eq_true rfl) rfl (jcat_of rfl) ?_
  intro X C E hnm hxl hxn
  subst hxl
  have g0 := g.1
  have g1 := g.2.1
  have g2 := g.2.2.1
  have g3 := g.2.2.2.1
  have g4 : jAt ω γ (b + 2) 2 := g.2.2.2.2.1
  refine j_aload_n C dX3_remove_0 rfl ?_
  refine j_getI C fl_X3_22 (by assumption) dX3_remove_1 (by decide) rfl ?_
  refine j_top (nI n) (hkp) ?_
  refine j_iconst C (nI 1) dX3_remove_4 (by decide) ?_
  refine j_isubN C dX3_remove_5 (by omega) ?_
  refine j_istore_n C dX3_remove_6 (by rw [hxn]; decide) ?_
  refine j_iload_n C dX3_remove_7 rfl ?_
  refine j_if_lt C 61 dX3_remove_8 (by decide) (fun h => absurd h (nI_pos (by omega))) (fun _ => ?_)
  refine j_iload_n C dX3_remove_11 rfl ?_
  refine j_iload_n C dX3_remove_12 rfl ?_
  refine j_icmp_gt C 61 dX3_remove_13 (by decide) (fun h => absurd h (nI_nlt (by omega) (by omega))) (fun _ => ?_)
  refine j_iload_n C dX3_remove_16 rfl ?_
  refine j_aload_n C dX3_remove_17 rfl ?_
  refine j_getR C fl_X3_11 (by assumption) dX3_remove_18 (by decide) rfl (by assumption) ?_
  refine j_alen C (by assumption) rfl (by decide) dX3_remove_21 ?_
  refine j_icmp_ge C 61 dX3_remove_22 (by decide) (fun h => absurd h (nI_ge (by omega) (by decide))) (fun _ => ?_)
  refine j_aload_n C dX3_remove_25 rfl ?_
  refine j_getR C fl_X3_11 (by assumption) dX3_remove_26 (by decide) rfl (by assumption) ?_
  refine j_iload_n C dX3_remove_29 rfl ?_
  refine j_aaldN C (by assumption) (by decide) rfl (by omega) (by decide) (hs.at (by omega)) dX3_remove_30 ?_
  refine j_astore_n C dX3_remove_31 (by rw [hxn]; decide) ?_
  refine j_aload_n C dX3_remove_32 rfl ?_
  refine j_getR C fl_X3_11 (by assumption) dX3_remove_33 (by decide) rfl (by assumption) ?_
  refine j_iload_n C dX3_remove_36 rfl ?_
  refine j_aload_n C dX3_remove_37 rfl ?_
  refine j_getR C fl_X3_11 (by assumption) dX3_remove_38 (by decide) rfl (by assumption) ?_
  refine j_iload_n C dX3_remove_41 rfl ?_
  refine j_aaldN C (by assumption) (by decide) rfl (by omega) (by decide) (hs.at (by omega)) dX3_remove_42 ?_
  refine j_aastN C (by assumption) (by decide) (hs.pl g (by omega)) (by decide) rfl rfl (by omega) (by decide) dX3_remove_43 ?_
  refine j_aload_n C dX3_remove_44 rfl ?_
  refine j_getR C fl_X3_11 (by assumption) dX3_remove_45 (by decide) rfl (by assumption) ?_
  refine j_iload_n C dX3_remove_48 rfl ?_
  refine j_aload_n C dX3_remove_49 rfl ?_
  refine j_aastN C (by assumption) (by decide) (hs.pl g (by omega)) (by decide) rfl rfl (by omega) (by decide) dX3_remove_50 ?_
  refine j_aload_n C dX3_remove_51 rfl ?_
  refine j_dup C dX3_remove_52 rfl ?_
  refine j_getI C fl_X3_22 (by assumption) dX3_remove_53 (by decide) rfl ?_
  refine j_top (nI n) (hkp) ?_
  refine j_iconst C (nI 1) dX3_remove_56 (by decide) ?_
  refine j_isubN C dX3_remove_57 (by omega) ?_
  refine j_putI C fl_X3_22 (by assumption) dX3_remove_58 (by decide) rfl (rfl) (rfl) ?_
  exact j_return C E dX3_remove_61 (by decide) (by decide) (⟨rfl, rfl, rfl, rfl⟩)

set_option maxHeartbeats 4000000 in
set_option maxRecDepth 100000 in
theorem c_X3_throwAway (l : Launch) (ω : jW) (γ : jG) (M : jM) (R : jR) {b n : Nat} (g : gShelf ω γ b) (hs : SR R b) (hkp : M b 2 = nI n) (hn : n ≤ 8) (p : Int32) : Ct l ω yX3_throwAway cX3_throwAway 2 none 2 0 0 [.ref b, .int p] γ M R (jx γ none (rThrM M b n p) (rThrR R b n p)) := by
  refine Ct_of (by decide) (Nat.le_of_ble_eq_true rfl) rfl (jcat_of rfl) ?_
  intro X C E hnm hxl hxn
  subst hxl
  have g0 := g.1
  refine j_iload_n C dX3_throwAway_0 rfl ?_
  refine j_if_lt C 27 dX3_throwAway_1 (by decide) (fun h1 => ?_) (fun h1 => ?_)
  · skip
    exact j_return C E dX3_throwAway_27 (by decide) (by decide) (⟨rfl, rfl, by simp only [rThrM, if_pos h1, rThr], by first | (simp only [rThrR, if_pos h1]; done) | simp only [rThrR, if_pos h1, nI_clamp (show q < 2 ^ 31 by omega)]⟩)
  · skip
    refine j_iload_n C dX3_throwAway_4 rfl ?_
    refine j_aload_n C dX3_throwAway_5 rfl ?_
    refine j_getI C fl_X3_22 (by assumption) dX3_throwAway_6 (by decide) rfl ?_
    refine j_top (nI n) (hkp) ?_
    refine j_icmp_ge C 27 dX3_throwAway_9 (by decide) (fun h9 => ?_) (fun h9 => ?_)
    · skip
      exact j_return C E dX3_throwAway_27 (by decide) (by decide) (⟨rfl, rfl, by simp only [rThrM, if_neg h1, if_pos h9, rThr], by first | (simp only [rThrR, if_neg h1, if_pos h9]; done) | simp only [rThrR, if_neg h1, if_pos h9, nI_clamp (show q < 2 ^ 31 by omega)]⟩)
    · skip
      refine j_aload_n C dX3_throwAway_12 rfl ?_
      refine j_iload_n C dX3_throwAway_13 rfl ?_
      obtain ⟨q, hq, rfl⟩ := vp_in_of (in_of h1 h9 (by omega)) (by omega)
      refine j_cVv C (c_X3_remove _ ω γ M R g hs hkp hn hq) yc_X3_remove mn_X3_58 im_X3_remove se_X3_remove rfl rfl dX3_throwAway_14 rfl rfl (by assumption) (by decide) (Nat.le_of_ble_eq_true rfl) (by decide) ?_
      refine j_aload_n C dX3_throwAway_17 rfl ?_
      refine j_dup C dX3_throwAway_18 rfl ?_
      refine j_getI C fl_X3_72 (by assumption) dX3_throwAway_19 (by decide) rfl ?_
      refine j_top (M b 5) (by simp [rRem, jup]) ?_
      refine j_iconst C (nI 1) dX3_throwAway_22 (by decide) ?_
      first | with_reducible refine j_iaddN C dX3_throwAway_23 ?_ | refine j_iadd C dX3_throwAway_23 ?_
      refine j_putI C fl_X3_72 (by assumption) dX3_throwAway_24 (by decide) rfl (rfl) (rfl) ?_
      exact j_return C E dX3_throwAway_27 (by decide) (by decide) (⟨rfl, rfl, by simp only [rThrM, if_neg h1, if_neg h9, rThr], by first | (simp only [rThrR, if_neg h1, if_neg h9]; done) | simp only [rThrR, if_neg h1, if_neg h9, nI_clamp (show q < 2 ^ 31 by omega)]⟩)

set_option maxHeartbeats 4000000 in
set_option maxRecDepth 100000 in
theorem c_X3_newPlan (l : Launch) (ω : jW) (γ : jG) (M : jM) (R : jR) {b n : Nat} (g : gShelf ω γ b) (hs : SR R b) (hkp : M b 2 = nI n) (hn : n ≤ 8) (s c cap : Int32) : Ct l ω yX3_newPlan cX3_newPlan 5 (some (.object "PlanShelves$Plan")) 2 0 0 [.ref b, .int s, .int c, .int cap] γ M R (jx γ (some (.ref (rNewP M R b cap n))) (rNewM M R b s c cap n) R) := by
  refine Ct_of (by decide) (Nat.le_of_ble_eq_true rfl) rfl (jcat_of rfl) ?_
  intro X C E hnm hxl hxn
  subst hxl
  have g0 := g.1
  have g1 := g.2.1
  have g2 := g.2.2.1
  have g3 := g.2.2.2.1
  have g4 : jAt ω γ (b + 2) 2 := g.2.2.2.2.1
  refine j_aload_n C dX3_newPlan_0 rfl ?_
  refine j_getI C fl_X3_22 (by assumption) dX3_newPlan_1 (by decide) rfl ?_
  refine j_iload_n C dX3_newPlan_4 rfl ?_
  refine j_icmp_ge C 20 dX3_newPlan_5 (by decide) (fun h5 => ?_) (fun h5 => ?_)
  · skip
    refine j_aload_n C dX3_newPlan_20 rfl ?_
    refine j_getR C fl_X3_18 (by assumption) dX3_newPlan_21 (by decide) rfl (by assumption) ?_
    refine j_bipush C (-4) dX3_newPlan_24 (by decide) ?_
    refine j_iload_n C dX3_newPlan_26 rfl ?_
    refine j_iload_n C dX3_newPlan_27 rfl ?_
    refine j_cVv C (c_X2_begin _ ω γ M R g4 _ _ _) yc_X2_begin mn_X3_65 im_X2_begin se_X2_begin rfl rfl dX3_newPlan_28 rfl rfl (g4) (by decide) (Nat.le_of_ble_eq_true rfl) (by decide) ?_
    refine j_aload_n C dX3_newPlan_31 rfl ?_
    refine j_getR C fl_X3_18 (by assumption) dX3_newPlan_32 (by decide) rfl (by assumption) ?_
    exact j_areturn C E dX3_newPlan_35 (by first | exact Or.inl ⟨_, rfl⟩ | exact Or.inr ⟨_, rfl⟩) (by decide) (by decide) (⟨by simp only [rNewP, if_pos h5], rfl, by simp only [rNewM, if_pos h5], rfl⟩)
  · skip
    refine j_aload_n C dX3_newPlan_8 rfl ?_
    refine j_getI C fl_X3_22 (by assumption) dX3_newPlan_9 (by decide) rfl ?_
    refine j_aload_n C dX3_newPlan_12 rfl ?_
    refine j_getR C fl_X3_11 (by assumption) dX3_newPlan_13 (by decide) rfl (by assumption) ?_
    refine j_alen C (by assumption) rfl (by decide) dX3_newPlan_16 ?_
    refine j_icmp_lt C 36 dX3_newPlan_17 (by decide) (fun h17 => ?_) (fun h17 => ?_)
    · skip
      refine j_aload_n C dX3_newPlan_36 rfl ?_
      refine j_aload_n C dX3_newPlan_37 rfl ?_
      refine j_getI C fl_X3_22 (by assumption) dX3_newPlan_38 (by decide) rfl ?_
      have h17b : n < 8 := (nI_ltI (by omega) (by decide)).mp (by rw [← hkp]; exact h17)
      refine j_top (nI n) hkp ?_
      refine j_cVr C (c_X3_planAtN _ ω γ M R g hs h17b) yc_X3_planAt mn_X3_26 im_X3_planAt se_X3_planAt rfl rfl dX3_newPlan_41 rfl rfl (by assumption) (by decide) (Nat.le_of_ble_eq_true rfl) (by decide) ?_
      refine j_astore C dX3_newPlan_44 (by rw [hxn]; decide) ?_
      refine j_aload C dX3_newPlan_46 rfl ?_
      refine j_aload_n C dX3_newPlan_48 rfl ?_
      refine j_getI C fl_X3_69 (by assumption) dX3_newPlan_49 (by decide) rfl ?_
      refine j_iload_n C dX3_newPlan_52 rfl ?_
      refine j_iload_n C dX3_newPlan_53 rfl ?_
      refine j_cVv C (c_X2_begin _ ω γ M R (hs.pl g h17b) _ _ _) yc_X2_begin mn_X3_65 im_X2_begin se_X2_begin rfl rfl dX3_newPlan_54 rfl rfl (hs.pl g h17b) (by decide) (Nat.le_of_ble_eq_true rfl) (by decide) ?_
      refine j_aload_n C dX3_newPlan_57 rfl ?_
      refine j_dup C dX3_newPlan_58 rfl ?_
      refine j_getI C fl_X3_22 (by assumption) dX3_newPlan_59 (by decide) rfl ?_
      refine j_iconst C (nI 1) dX3_newPlan_62 (by decide) ?_
      first | with_reducible refine j_iaddN C dX3_newPlan_63 ?_ | refine j_iadd C dX3_newPlan_63 ?_
      refine j_putI C fl_X3_22 (by assumption) dX3_newPlan_64 (by decide) rfl (rfl) (rfl) ?_
      refine j_aload_n C dX3_newPlan_67 rfl ?_
      refine j_dup C dX3_newPlan_68 rfl ?_
      refine j_getI C fl_X3_69 (by assumption) dX3_newPlan_69 (by decide) rfl ?_
      refine j_iconst C (nI 1) dX3_newPlan_72 (by decide) ?_
      first | with_reducible refine j_iaddN C dX3_newPlan_73 ?_ | refine j_iadd C dX3_newPlan_73 ?_
      refine j_putI C fl_X3_69 (by assumption) dX3_newPlan_74 (by decide) rfl (rfl) (rfl) ?_
      refine j_aload C dX3_newPlan_77 rfl ?_
      exact j_areturn C E dX3_newPlan_79 (by first | exact Or.inl ⟨_, rfl⟩ | exact Or.inr ⟨_, rfl⟩) (by decide) (by decide) (⟨by simp only [rNewP, if_neg h5, if_pos h17], rfl, by simp only [rNewM, if_neg h5, if_pos h17], rfl⟩)
    · skip
      refine j_aload_n C dX3_newPlan_20 rfl ?_
      refine j_getR C fl_X3_18 (by assumption) dX3_newPlan_21 (by decide) rfl (by assumption) ?_
      refine j_bipush C (-4) dX3_newPlan_24 (by decide) ?_
      refine j_iload_n C dX3_newPlan_26 rfl ?_
      refine j_iload_n C dX3_newPlan_27 rfl ?_
      refine j_cVv C (c_X2_begin _ ω γ M R g4 _ _ _) yc_X2_begin mn_X3_65 im_X2_begin se_X2_begin rfl rfl dX3_newPlan_28 rfl rfl (g4) (by decide) (Nat.le_of_ble_eq_true rfl) (by decide) ?_
      refine j_aload_n C dX3_newPlan_31 rfl ?_
      refine j_getR C fl_X3_18 (by assumption) dX3_newPlan_32 (by decide) rfl (by assumption) ?_
      exact j_areturn C E dX3_newPlan_35 (by first | exact Or.inl ⟨_, rfl⟩ | exact Or.inr ⟨_, rfl⟩) (by decide) (by decide) (⟨by simp only [rNewP, if_neg h5, if_neg h17], rfl, by simp only [rNewM, if_neg h5, if_neg h17], rfl⟩)

set_option maxHeartbeats 4000000 in
set_option maxRecDepth 100000 in
theorem c_X7_addToSums (l : Launch) (ω : jW) (γ : jG) (M : jM) (R : jR) {b : Nat} (g : gTable ω γ b) (r w : Int32) : Ct l ω yX7_addToSums cX7_addToSums 4 none 3 0 0 [.ref b, .int r, .int w] γ M R (jx γ none (rAddTo M b r w) R) := by
  refine Ct_of (by decide) (Nat.le_of_ble_eq_true rfl) rfl (jcat_of rfl) ?_
  intro X C E hnm hxl hxn
  subst hxl
  have g0 := g.1
  have g1 := g.2.2.2.1
  have g2 := g.2.2.2.2
  have g3 := g2.1
  refine j_iconst C (nI 0) dX7_addToSums_0 (by decide) ?_
  refine j_istore_n C dX7_addToSums_1 (by rw [hxn]; decide) ?_
  refine j_loop 4 (fun k => [(0, .ref b), (1, .int r), (2, .int w), (3, .int (nI k))]) (fun k => rATS M b r w k) (fun _ => R) (fun _ => True) trivial (fun k hk _ ih => ?_) (fun _ => ?_)
  · skip
    refine j_iload_n C dX7_addToSums_2 rfl ?_
    refine j_iconst C (nI 4) dX7_addToSums_3 (by decide) ?_
    refine j_icmp_ge C 28 dX7_addToSums_4 (by decide) (fun h => absurd h (nI_ge hk (by decide))) (fun _ => ?_)
    refine j_aload_n C dX7_addToSums_7 rfl ?_
    refine j_getR C fl_X7_18 (by assumption) dX7_addToSums_8 (by decide) rfl (by assumption) ?_
    refine j_iload_n C dX7_addToSums_11 rfl ?_
    refine j_aload_n C dX7_addToSums_12 rfl ?_
    refine j_iload_n C dX7_addToSums_13 rfl ?_
    refine j_iload_n C dX7_addToSums_14 rfl ?_
    refine j_cVi C (c_X7_cellAt _ ω γ _ R g _ _) yc_X7_cellAt mn_X7_38 im_X7_cellAt se_X7_cellAt rfl rfl dX7_addToSums_15 rfl rfl (by assumption) (by decide) (Nat.le_of_ble_eq_true rfl) (by decide) ?_
    refine j_iload_n C dX7_addToSums_18 rfl ?_
    refine j_cVv C (c_X6_add _ ω γ _ R g2 _ _ _) yc_X6_add mn_X7_62 im_X6_add se_X6_add rfl rfl dX7_addToSums_19 rfl rfl (g3) (by decide) (Nat.le_of_ble_eq_true rfl) (by decide) ?_
    first | refine j_iinc1 C dX7_addToSums_22 rfl (by rw [hxn]; decide) ?_ | refine j_iinc C _ dX7_addToSums_22 rfl rfl (by rw [hxn]; decide) ?_
    refine j_goto C 2 dX7_addToSums_25 (by decide) ?_
    exact ih trivial
  · skip
    refine j_iload_n C dX7_addToSums_2 rfl ?_
    refine j_iconst C (nI 4) dX7_addToSums_3 (by decide) ?_
    refine j_icmp_ge C 28 dX7_addToSums_4 (by decide) (fun _ => ?_) (fun h => absurd (Int32.le_refl _) h)
    refine j_aload_n C dX7_addToSums_28 rfl ?_
    refine j_getR C fl_X7_18 (by assumption) dX7_addToSums_29 (by decide) rfl (by assumption) ?_
    refine j_dup C dX7_addToSums_32 rfl ?_
    refine j_getI C fl_X7_66 (by assumption) dX7_addToSums_33 (by decide) rfl ?_
    refine j_iload_n C dX7_addToSums_36 rfl ?_
    first | with_reducible refine j_iaddN C dX7_addToSums_37 ?_ | refine j_iadd C dX7_addToSums_37 ?_
    refine j_putI C fl_X7_66 (by assumption) dX7_addToSums_38 (by decide) rfl (rfl) (rfl) ?_
    exact j_return C E dX7_addToSums_41 (by decide) (by decide) (⟨rfl, rfl, rfl, rfl⟩)

set_option maxHeartbeats 4000000 in
set_option maxRecDepth 100000 in
theorem c_X7_append (l : Launch) (ω : jW) (γ : jG) (M : jM) (R : jR) {b v : Nat} (g : gTable ω γ b) (hv : jArr ω γ v 12 4) (w : Int32) : Ct l ω yX7_append cX7_append 4 (some .int) 4 0 0 [.ref b, .ref v, .int w] γ M R (jx γ (some (.int (rApp M b v w b 2 - nI 1))) (rApp M b v w) R) := by
  refine Ct_of (by decide) (Nat.le_of_ble_eq_true rfl) rfl (jcat_of rfl) ?_
  intro X C E hnm hxl hxn
  subst hxl
  have g0 := g.1
  have g1 := g.2.1
  have g2 := g.2.2.1
  refine j_iconst C (nI 0) dX7_append_0 (by decide) ?_
  refine j_istore_n C dX7_append_1 (by rw [hxn]; decide) ?_
  refine j_loop 4 (fun k => [(0, .ref b), (1, .ref v), (2, .int w), (3, .int (nI k))]) (fun k => rPutV M b v (M b 2) k) (fun _ => R) (fun _ => True) trivial (fun k hk _ ih => ?_) (fun _ => ?_)
  · skip
    refine j_iload_n C dX7_append_2 rfl ?_
    refine j_iconst C (nI 4) dX7_append_3 (by decide) ?_
    refine j_icmp_ge C 33 dX7_append_4 (by decide) (fun h => absurd h (nI_ge hk (by decide))) (fun _ => ?_)
    refine j_aload_n C dX7_append_7 rfl ?_
    refine j_getR C fl_X7_11 (by assumption) dX7_append_8 (by decide) rfl (by assumption) ?_
    refine j_aload_n C dX7_append_11 rfl ?_
    refine j_getI C fl_X7_22 (by assumption) dX7_append_12 (by decide) rfl ?_
    refine j_top (M b 2) (by rw [rPutV_o _ (by omega)]) ?_
    refine j_iconst C (nI 5) dX7_append_15 (by decide) ?_
    first | with_reducible refine j_imulN C dX7_append_16 ?_ | refine j_imul C dX7_append_16 ?_
    refine j_iload_n C dX7_append_17 rfl ?_
    first | with_reducible refine j_iaddN C dX7_append_18 ?_ | refine j_iadd C dX7_append_18 ?_
    refine j_aload_n C dX7_append_19 rfl ?_
    refine j_iload_n C dX7_append_20 rfl ?_
    refine j_cSi C (c_X9_at _ ω γ _ R hv (by decide) _) yc_X9_at mn_X7_26 st_X9_at dX7_append_21 rfl rfl (Nat.le_of_ble_eq_true rfl) (by decide) ?_
    refine j_cSv C (c_X9_put _ ω γ _ R g2 (by decide) _ _) yc_X9_put mn_X7_30 st_X9_put dX7_append_24 rfl rfl (Nat.le_of_ble_eq_true rfl) (by decide) ?_
    refine j_mem (rPutV M b v (M b 2) (k + 1)) rfl ?_
    first | refine j_iinc1 C dX7_append_27 rfl (by rw [hxn]; decide) ?_ | refine j_iinc C _ dX7_append_27 rfl rfl (by rw [hxn]; decide) ?_
    refine j_goto C 2 dX7_append_30 (by decide) ?_
    exact ih trivial
  · skip
    refine j_iload_n C dX7_append_2 rfl ?_
    refine j_iconst C (nI 4) dX7_append_3 (by decide) ?_
    refine j_icmp_ge C 33 dX7_append_4 (by decide) (fun _ => ?_) (fun h => absurd (Int32.le_refl _) h)
    refine j_aload_n C dX7_append_33 rfl ?_
    refine j_getR C fl_X7_11 (by assumption) dX7_append_34 (by decide) rfl (by assumption) ?_
    refine j_aload_n C dX7_append_37 rfl ?_
    refine j_getI C fl_X7_22 (by assumption) dX7_append_38 (by decide) rfl ?_
    refine j_iconst C (nI 5) dX7_append_41 (by decide) ?_
    first | with_reducible refine j_imulN C dX7_append_42 ?_ | refine j_imul C dX7_append_42 ?_
    refine j_iconst C (nI 4) dX7_append_43 (by decide) ?_
    first | with_reducible refine j_iaddN C dX7_append_44 ?_ | refine j_iadd C dX7_append_44 ?_
    refine j_iload_n C dX7_append_45 rfl ?_
    refine j_cSv C (c_X9_put _ ω γ _ R g2 (by decide) _ _) yc_X9_put mn_X7_30 st_X9_put dX7_append_46 rfl rfl (Nat.le_of_ble_eq_true rfl) (by decide) ?_
    refine j_mem (rPut (rPutV M b v (M b 2) 4) b (rPutV M b v (M b 2) 4 b 2) (nI 4) w) rfl ?_
    refine j_aload_n C dX7_append_49 rfl ?_
    refine j_aload_n C dX7_append_50 rfl ?_
    refine j_getI C fl_X7_22 (by assumption) dX7_append_51 (by decide) rfl ?_
    refine j_iload_n C dX7_append_54 rfl ?_
    refine j_cVv C (c_X7_addToSums _ ω γ _ R g _ _) yc_X7_addToSums mn_X7_34 im_X7_addToSums se_X7_addToSums rfl rfl dX7_append_55 rfl rfl (by assumption) (by decide) (Nat.le_of_ble_eq_true rfl) (by decide) ?_
    refine j_aload_n C dX7_append_58 rfl ?_
    refine j_dup C dX7_append_59 rfl ?_
    refine j_getI C fl_X7_22 (by assumption) dX7_append_60 (by decide) rfl ?_
    refine j_iconst C (nI 1) dX7_append_63 (by decide) ?_
    first | with_reducible refine j_iaddN C dX7_append_64 ?_ | refine j_iadd C dX7_append_64 ?_
    refine j_putI C fl_X7_22 (by assumption) dX7_append_65 (by decide) rfl (rfl) (rfl) ?_
    refine j_aload_n C dX7_append_68 rfl ?_
    refine j_getI C fl_X7_22 (by assumption) dX7_append_69 (by decide) rfl ?_
    refine j_iconst C (nI 1) dX7_append_72 (by decide) ?_
    refine j_isub C dX7_append_73 ?_
    exact j_ireturn C E dX7_append_74 (rfl) (by decide) (by decide) (⟨rfl, rfl, rfl, rfl⟩)

set_option maxHeartbeats 4000000 in
set_option maxRecDepth 100000 in
theorem c_X7_remove (l : Launch) (ω : jW) (γ : jG) (M : jM) (R : jR) {b r n : Nat} (g : gTable ω γ b) (hn : M b 2 = nI n) (hr : r < n) (h30 : n ≤ 30) : Ct l ω yX7_remove cX7_remove 4 (some .int) 4 0 0 [.ref b, .int (nI r)] γ M R (jx γ (some (.int (rCell M b (nI r) (nI 4)))) (rDel M b r n) R) := by
  refine Ct_of (by decide) (Nat.le_of_ble_eq_true rfl) rfl (jcat_of rfl) ?_
  intro X C E hnm hxl hxn
  subst hxl
  have g0 := g.1
  have g1 := g.2.1
  have g2 := g.2.2.1
  refine j_aload_n C dX7_remove_0 rfl ?_
  refine j_iload_n C dX7_remove_1 rfl ?_
  refine j_iconst C (nI 4) dX7_remove_2 (by decide) ?_
  refine j_cVi C (c_X7_cellAt _ ω γ _ R g _ _) yc_X7_cellAt mn_X7_38 im_X7_cellAt se_X7_cellAt rfl rfl dX7_remove_3 rfl rfl (by assumption) (by decide) (Nat.le_of_ble_eq_true rfl) (by decide) ?_
  refine j_istore_n C dX7_remove_6 (by rw [hxn]; decide) ?_
  refine j_aload_n C dX7_remove_7 rfl ?_
  refine j_iload_n C dX7_remove_8 rfl ?_
  refine j_iload_n C dX7_remove_9 rfl ?_
  refine j_ineg C dX7_remove_10 ?_
  refine j_cVv C (c_X7_addToSums _ ω γ _ R g _ _) yc_X7_addToSums mn_X7_34 im_X7_addToSums se_X7_addToSums rfl rfl dX7_remove_11 rfl rfl (by assumption) (by decide) (Nat.le_of_ble_eq_true rfl) (by decide) ?_
  refine j_aload_n C dX7_remove_14 rfl ?_
  refine j_dup C dX7_remove_15 rfl ?_
  refine j_getI C fl_X7_22 (by assumption) dX7_remove_16 (by decide) rfl ?_
  refine j_top (nI n) (by rw [rAddTo_o _ (by omega) (by omega)]; exact hn) ?_
  refine j_iconst C (nI 1) dX7_remove_19 (by decide) ?_
  refine j_isubN C dX7_remove_20 (by omega) ?_
  refine j_putI C fl_X7_22 (by assumption) dX7_remove_21 (by decide) rfl (rfl) (rfl) ?_
  refine j_iload_n C dX7_remove_24 rfl ?_
  refine j_iconst C (nI 5) dX7_remove_25 (by decide) ?_
  first | with_reducible refine j_imulN C dX7_remove_26 ?_ | refine j_imul C dX7_remove_26 ?_
  refine j_istore_n C dX7_remove_27 (by rw [hxn]; decide) ?_
  refine j_mem (rShift (jup (rAddTo M b (nI r) (-rCell M b (nI r) (nI 4))) b 2 (nI (n - 1))) b r (r * 5)) (rShift_0 _ _ _).symm ?_
  refine j_loop ((n - 1 - r) * 5) (fun k => [(0, .ref b), (1, .int (nI r)), (2, .int (rCell M b (nI r) (nI 4))), (3, .int (nI (r * 5 + k)))]) (fun k => rShift (jup (rAddTo M b (nI r) (-rCell M b (nI r) (nI 4))) b 2 (nI (n - 1))) b r (r * 5 + k)) (fun _ => R) (fun _ => True) trivial (fun k hk _ ih => ?_) (fun _ => ?_)
  · skip
    refine j_iload_n C dX7_remove_28 rfl ?_
    refine j_aload_n C dX7_remove_29 rfl ?_
    refine j_getI C fl_X7_22 (by assumption) dX7_remove_30 (by decide) rfl ?_
    refine j_top (nI (n - 1)) (by rw [rShift_o _ (by omega), jup_eq]) ?_
    refine j_iconst C (nI 5) dX7_remove_33 (by decide) ?_
    first | with_reducible refine j_imulN C dX7_remove_34 ?_ | refine j_imul C dX7_remove_34 ?_
    refine j_icmp_ge C 62 dX7_remove_35 (by decide) (fun h => absurd h (nI_ge (by omega) (by omega))) (fun _ => ?_)
    refine j_aload_n C dX7_remove_38 rfl ?_
    refine j_getR C fl_X7_11 (by assumption) dX7_remove_39 (by decide) rfl (by assumption) ?_
    refine j_iload_n C dX7_remove_42 rfl ?_
    refine j_aload_n C dX7_remove_43 rfl ?_
    refine j_getR C fl_X7_11 (by assumption) dX7_remove_44 (by decide) rfl (by assumption) ?_
    refine j_iload_n C dX7_remove_47 rfl ?_
    refine j_iconst C (nI 5) dX7_remove_48 (by decide) ?_
    first | with_reducible refine j_iaddN C dX7_remove_49 ?_ | refine j_iadd C dX7_remove_49 ?_
    refine j_cSi C (c_X9_at _ ω γ _ R g2 (by decide) _) yc_X9_at mn_X7_26 st_X9_at dX7_remove_50 rfl rfl (Nat.le_of_ble_eq_true rfl) (by decide) ?_
    refine j_top (_) (rAt_N _ (by omega) (by decide)) ?_
    refine j_cSv C (c_X9_putN _ ω γ _ R g2 (by decide) (show r * 5 + k < 150 by omega) _) yc_X9_put mn_X7_30 st_X9_put dX7_remove_53 rfl rfl (Nat.le_of_ble_eq_true rfl) (by decide) ?_
    refine j_mem _ (rShift_s _ (by omega)) ?_
    first | refine j_iinc1 C dX7_remove_56 rfl (by rw [hxn]; decide) ?_ | refine j_iinc C _ dX7_remove_56 rfl rfl (by rw [hxn]; decide) ?_
    refine j_goto C 28 dX7_remove_59 (by decide) ?_
    exact ih trivial
  · skip
    refine j_mem (rDel M b r n) (by simp only [rDel]; rw [show r * 5 + (n - 1 - r) * 5 = 5 * (n - 1) by omega]) ?_
    refine j_iload_n C dX7_remove_28 rfl ?_
    refine j_aload_n C dX7_remove_29 rfl ?_
    refine j_getI C fl_X7_22 (by assumption) dX7_remove_30 (by decide) rfl ?_
    refine j_top (nI (n - 1)) (by simp only [rDel]; rw [rShift_o _ (by omega), jup_eq]) ?_
    refine j_iconst C (nI 5) dX7_remove_33 (by decide) ?_
    first | with_reducible refine j_imulN C dX7_remove_34 ?_ | refine j_imul C dX7_remove_34 ?_
    refine j_icmp_ge C 62 dX7_remove_35 (by decide) (fun _ => ?_) (fun h => absurd (nI_le (by omega) (by omega)) h)
    refine j_iload_n C dX7_remove_62 rfl ?_
    exact j_ireturn C E dX7_remove_63 (rfl) (by decide) (by decide) (⟨rfl, rfl, rfl, rfl⟩)
