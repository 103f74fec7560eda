set_option maxHeartbeats 4000000 in
set_option maxRecDepth 100000 in
theorem c_L_cell (l : Launch) (ω : jW) (γ : jG) (M : jM) (R : jR) {k : Nat} (hk : k < 2 ^ 31) (hL : jsL ω ≤ 260) : Ct l ω yL_cell cL_cell 2 (some .int) 1 0 0 [.ref (jsb ω), .int (nI k)] γ M R (fun v γ9 M9 R9 => (∃ z : Int32, v = some (.int z)) ∧ γ9 = γ ∧ M9 = M ∧ R9 = R) := by
  refine Ct_of (by decide) (Nat.le_of_ble_eq_true rfl) rfl (jcat_of rfl) ?_
  intro X C E hnm hxl hxn
  subst hxl
  refine j_iload_n C dL_cell_0 rfl ?_
  refine j_aload_n C dL_cell_1 rfl ?_
  refine j_tlen C C.xi.2.2.2.2.2.2.2.2.2.2 dL_cell_2 ?_
  refine j_icmp_ge C 12 dL_cell_3 (by decide) (fun h3 => ?_) (fun h3 => ?_)
  · skip
    refine j_ldc C ck_L_7 dL_cell_12 ?_
    refine j_top (nI 40503) (by decide) ?_
    refine j_iload_n C dL_cell_14 rfl ?_
    refine j_iconst C (nI 3) dL_cell_15 (by decide) ?_
    first | with_reducible refine j_iaddN C dL_cell_16 ?_ | refine j_iadd C dL_cell_16 ?_
    first | with_reducible refine j_imulN C dL_cell_17 ?_ | refine j_imul C dL_cell_17 ?_
    exact j_ireturn C E dL_cell_18 (rfl) (by decide) (by decide) (⟨⟨_, rfl⟩, rfl, rfl, rfl⟩)
  · skip
    refine j_aload_n C dL_cell_6 rfl ?_
    refine j_iload_n C dL_cell_7 rfl ?_
    refine j_tald C C.xi.2.2.2.2.2.2.2.2.2.2 (vp_in_nI (nI_of_nlt (Int32.not_le.mp h3 |> fun q => Int32.not_lt.mpr (Int32.le_of_lt q)) (by omega) hk |> fun q => by exact Nat.lt_of_not_le fun q2 => h3 (nI_le q2 hk)) (by omega)) dL_cell_8 ?_
    refine j_goto C 18 dL_cell_9 (by decide) ?_
    exact j_ireturn C E dL_cell_18 (rfl) (by decide) (by decide) (⟨⟨_, rfl⟩, rfl, rfl, rfl⟩)

set_option maxHeartbeats 4000000 in
set_option maxRecDepth 100000 in
theorem c_L_low (l : Launch) (ω : jW) (γ : jG) (M : jM) (R : jR) {x : Int32} {n : Nat} (h0 : 0 < n) (hn : n < 2 ^ 31) : Ct l ω yL_low cL_low 2 (some .int) 1 0 0 [.int x, .int (nI n)] γ M R (fun v γ9 M9 R9 => (∃ j, j < n ∧ v = some (.int (nI j))) ∧ γ9 = γ ∧ M9 = M ∧ R9 = R) := by
  refine Ct_of (by decide) (Nat.le_of_ble_eq_true rfl) rfl (jcat_of rfl) ?_
  intro X C E hnm hxl hxn
  subst hxl
  obtain ⟨a, ha, ea⟩ := lx_m31 x
  refine j_iload_n C dL_low_0 rfl ?_
  refine j_ldc C ck_L_8 dL_low_1 ?_
  refine j_iand C dL_low_3 ?_
  refine j_top (nI a) ea ?_
  refine j_iload_n C dL_low_4 rfl ?_
  refine j_iremN C dL_low_5 (by omega) (h0) (hn) ?_
  exact j_ireturn C E dL_low_6 (rfl) (by decide) (by decide) (⟨⟨_, Nat.mod_lt _ h0, rfl⟩, rfl, rfl, rfl⟩)

set_option maxHeartbeats 4000000 in
set_option maxRecDepth 100000 in
theorem c_L_of (l : Launch) (ω : jW) (γ : jG) (M : jM) (R : jR) {d r c : Nat} {S : Nat → Int32} (g : gD ω γ d) (H : lRd M d S r c) (Z : zRd S r c) {k j : Nat} (hk : k < r) (hj : j < 4) : Ct l ω yL_of cL_of 3 (some .int) 1 0 0 [.ref (d + 1), .int (nI k), .int (nI j)] γ M R (jx γ (some (.int (S (29 + 5 * k + j)))) M R) := by
  refine Ct_of (by decide) (Nat.le_of_ble_eq_true rfl) rfl (jcat_of rfl) ?_
  intro X C E hnm hxl hxn
  subst hxl
  obtain ⟨g0, g1, g2, g3, g4, g5⟩ := g
  obtain ⟨H0, H1, H2, H3⟩ := H
  have hr0 : M d 0 = nI r := (H0 0 (by decide)).trans Z.1
  have hr30 := Z.2.1
  have hc6 := Z.2.2.2.2.1
  have hp := lPk_lt Z hk
  refine j_aload_n C dL_of_0 rfl ?_
  refine j_iload_n C dL_of_1 rfl ?_
  refine j_ialdN C (by assumption) dL_of_2 (by omega) (by decide) ?_
  refine j_top (nI (lPk S k)) (H1 k hk) ?_
  refine j_iconst C (nI 5) dL_of_3 (by decide) ?_
  refine j_iload_n C dL_of_4 rfl ?_
  first | with_reducible refine j_imulN C dL_of_5 ?_ | refine j_imul C dL_of_5 ?_
  refine j_ishrN C dL_of_6 (by omega) (by omega) ?_
  refine j_bipush C (nI 31) dL_of_7 (by decide) ?_
  refine j_iand C dL_of_9 ?_
  refine j_top _ (lx_m5 _) ?_
  exact j_ireturn C E dL_of_10 (rfl) (by decide) (by decide) (⟨by rw [lPk_of Z hk hj], rfl, rfl, rfl⟩)

set_option maxHeartbeats 4000000 in
set_option maxRecDepth 100000 in
theorem c_L_weight (l : Launch) (ω : jW) (γ : jG) (M : jM) (R : jR) {d r c : Nat} {S : Nat → Int32} (g : gD ω γ d) (H : lRd M d S r c) (Z : zRd S r c) {k : Nat} (hk : k < r) : Ct l ω yL_weight cL_weight 2 (some .int) 1 0 0 [.ref (d + 1), .int (nI k)] γ M R (jx γ (some (.int (S (29 + 5 * k + 4)))) M R) := by
  refine Ct_of (by decide) (Nat.le_of_ble_eq_true rfl) rfl (jcat_of rfl) ?_
  intro X C E hnm hxl hxn
  subst hxl
  obtain ⟨g0, g1, g2, g3, g4, g5⟩ := g
  obtain ⟨H0, H1, H2, H3⟩ := H
  have hr0 : M d 0 = nI r := (H0 0 (by decide)).trans Z.1
  have hr30 := Z.2.1
  have hc6 := Z.2.2.2.2.1
  have hp := lPk_lt Z hk
  refine j_aload_n C dL_weight_0 rfl ?_
  refine j_iload_n C dL_weight_1 rfl ?_
  refine j_ialdN C (by assumption) dL_weight_2 (by omega) (by decide) ?_
  refine j_top (nI (lPk S k)) (H1 k hk) ?_
  refine j_bipush C (nI 20) dL_weight_3 (by decide) ?_
  refine j_ishrN C dL_weight_5 (by omega) (by omega) ?_
  exact j_ireturn C E dL_weight_6 (rfl) (by decide) (by decide) (⟨by rw [lPk_w Z hk], rfl, rfl, rfl⟩)

set_option maxHeartbeats 4000000 in
set_option maxRecDepth 100000 in
theorem c_L_known (l : Launch) (ω : jW) (γ : jG) (M : jM) (R : jR) {d r c : Nat} {S : Nat → Int32} (g : gD ω γ d) (H : lRd M d S r c) (Z : zRd S r c) {j v : Nat} (hj : j < 4) (hv : v < 32) : Ct l ω yL_known cL_known 3 (some .int) 1 0 0 [.ref (d + 2), .int (nI j), .int (nI v)] γ M R (jx γ (some (.int (S (179 + 32 * j + v)))) M R) := by
  refine Ct_of (by decide) (Nat.le_of_ble_eq_true rfl) rfl (jcat_of rfl) ?_
  intro X C E hnm hxl hxn
  subst hxl
  obtain ⟨g0, g1, g2, g3, g4, g5⟩ := g
  obtain ⟨H0, H1, H2, H3⟩ := H
  have hr0 : M d 0 = nI r := (H0 0 (by decide)).trans Z.1
  have hr30 := Z.2.1
  have hc6 := Z.2.2.2.2.1
  have e1 : 2 * (16 * j + v / 2) = 32 * j + v - v % 2 := by omega
  obtain ⟨x, hx, ex⟩ := Z.2.2.2.2.2.2 (32 * j + v - v % 2) (by omega)
  obtain ⟨y, hy, ey⟩ := Z.2.2.2.2.2.2 (32 * j + v - v % 2 + 1) (by omega)
  have f1 : M (d + 2) (2 * (16 * j + v / 2)) = nI x := by rw [e1, H2 _ (by omega)]; exact ex
  have f2 : M (d + 2) (2 * (16 * j + v / 2) + 1) = nI y := by rw [e1, H2 _ (by omega)]; exact ey
  refine j_aload_n C dL_known_0 rfl ?_
  refine j_bipush C (nI 16) dL_known_1 (by decide) ?_
  refine j_iload_n C dL_known_3 rfl ?_
  first | with_reducible refine j_imulN C dL_known_4 ?_ | refine j_imul C dL_known_4 ?_
  refine j_iload_n C dL_known_5 rfl ?_
  refine j_iconst C (nI 2) dL_known_6 (by decide) ?_
  refine j_idivN C dL_known_7 (by omega) (by decide) (by decide) ?_
  first | with_reducible refine j_iaddN C dL_known_8 ?_ | refine j_iadd C dL_known_8 ?_
  refine j_lald C (by assumption) (by omega) (by decide) dL_known_9 ?_
  refine j_topl (lN (x + 2 ^ 32 * y)) (by rw [f1, f2, jlg_N (by omega), Nat.mod_eq_of_lt (by omega)]) ?_
  refine j_bipush C (nI 32) dL_known_10 (by decide) ?_
  refine j_iload_n C dL_known_12 rfl ?_
  refine j_iconst C (nI 2) dL_known_13 (by decide) ?_
  refine j_iremN C dL_known_14 (by omega) (by decide) (by decide) ?_
  first | with_reducible refine j_imulN C dL_known_15 ?_ | refine j_imul C dL_known_15 ?_
  refine j_lshr C _ (lx_lsh (by omega) (by omega)) dL_known_16 ?_
  refine j_ldc2 C ck_L_9 dL_known_17 ?_
  refine j_land C dL_known_20 ?_
  refine j_topl (lN ((x + 2 ^ 32 * y) / 2 ^ (32 * (v % 2)) % 2 ^ 31)) (wb_mask (k := 31) (kn_lt hx hy) (by decide)) ?_
  refine j_l2i C _ (lN_i _) dL_known_21 ?_
  exact j_ireturn C E dL_known_22 (rfl) (by decide) (by decide) (⟨by rw [kn_val hx hy hv ex ey, show 179 + 32 * j + v = 179 + (32 * j + v) by omega], rfl, rfl, rfl⟩)

set_option maxHeartbeats 4000000 in
set_option maxRecDepth 100000 in
theorem c_L_many (l : Launch) (ω : jW) (γ : jG) (M : jM) (R : jR) {d r c : Nat} {S : Nat → Int32} (g : gD ω γ d) (H : lRd M d S r c) (Z : zRd S r c) {t : Nat} (ht : t < c) : Ct l ω yL_many cL_many 2 (some .int) 1 0 0 [.ref (d + 3), .int (nI t)] γ M R (jx γ (some (.int (nI (zN S t)))) M R) := by
  refine Ct_of (by decide) (Nat.le_of_ble_eq_true rfl) rfl (jcat_of rfl) ?_
  intro X C E hnm hxl hxn
  subst hxl
  obtain ⟨g0, g1, g2, g3, g4, g5⟩ := g
  obtain ⟨H0, H1, H2, H3⟩ := H
  have hr0 : M d 0 = nI r := (H0 0 (by decide)).trans Z.1
  have hr30 := Z.2.1
  have hc6 := Z.2.2.2.2.1
  have hm := lCode_m Z ht
  refine j_aload_n C dL_many_0 rfl ?_
  refine j_iconst C (nI 2) dL_many_1 (by decide) ?_
  refine j_iload_n C dL_many_2 rfl ?_
  first | with_reducible refine j_imulN C dL_many_3 ?_ | refine j_imul C dL_many_3 ?_
  refine j_ialdN C (by assumption) dL_many_4 (by omega) (by decide) ?_
  refine j_top (nI (lCode S t)) (H3 t ht) ?_
  refine j_bipush C (nI 10) dL_many_5 (by decide) ?_
  refine j_iremN C dL_many_7 (by omega) (by decide) (by decide) ?_
  exact j_ireturn C E dL_many_8 (rfl) (by decide) (by decide) (⟨by rw [hm.1], rfl, rfl, rfl⟩)

set_option maxHeartbeats 4000000 in
set_option maxRecDepth 100000 in
theorem c_L_condition (l : Launch) (ω : jW) (γ : jG) (M : jM) (R : jR) {d r c : Nat} {S : Nat → Int32} (g : gD ω γ d) (H : lRd M d S r c) (Z : zRd S r c) {t j : Nat} (ht : t < c) (hj : j ≤ 4) : Ct l ω yL_condition cL_condition 5 (some .int) 1 0 0 [.ref (d + 3), .int (nI t), .int (nI j)] γ M R (jx γ (some (.int (nI (lCs S t (zN S t) / 12 ^ j % 12)))) M R) := by
  refine Ct_of (by decide) (Nat.le_of_ble_eq_true rfl) rfl (jcat_of rfl) ?_
  intro X C E hnm hxl hxn
  subst hxl
  obtain ⟨g0, g1, g2, g3, g4, g5⟩ := g
  obtain ⟨H0, H1, H2, H3⟩ := H
  have hr0 : M d 0 = nI r := (H0 0 (by decide)).trans Z.1
  have hr30 := Z.2.1
  have hc6 := Z.2.2.2.2.1
  have hm := lCode_m Z ht
  refine j_aload_n C dL_condition_0 rfl ?_
  refine j_iconst C (nI 2) dL_condition_1 (by decide) ?_
  refine j_iload_n C dL_condition_2 rfl ?_
  first | with_reducible refine j_imulN C dL_condition_3 ?_ | refine j_imul C dL_condition_3 ?_
  refine j_ialdN C (by assumption) dL_condition_4 (by omega) (by decide) ?_
  refine j_top (nI (lCode S t)) (H3 t ht) ?_
  refine j_bipush C (nI 10) dL_condition_5 (by decide) ?_
  refine j_idivN C dL_condition_7 (by omega) (by decide) (by decide) ?_
  refine j_top (nI (lCs S t (zN S t) / 12 ^ 0)) (by rw [hm.2.1, Nat.pow_zero, Nat.div_one]) ?_
  refine j_istore_n C dL_condition_8 (by rw [hxn]; decide) ?_
  refine j_iconst C (nI 0) dL_condition_9 (by decide) ?_
  refine j_istore C dL_condition_10 (by rw [hxn]; decide) ?_
  refine j_loop j (fun q => [(0, .ref (d + 3)), (1, .int (nI t)), (2, .int (nI j)), (3, .int (nI (lCs S t (zN S t) / 12 ^ q))), (4, .int (nI q))]) (fun _ => M) (fun _ => R) (fun _ => True) trivial (fun q hq _ ih => ?_) (fun _ => ?_)
  · skip
    refine j_iload C dL_condition_12 rfl ?_
    refine j_iload_n C dL_condition_14 rfl ?_
    refine j_icmp_ge C 29 dL_condition_15 (by decide) (fun h => absurd h (nI_ge hq (by omega))) (fun _ => ?_)
    refine j_iload_n C dL_condition_18 rfl ?_
    refine j_bipush C (nI 12) dL_condition_19 (by decide) ?_
    refine j_idivN C dL_condition_21 (Nat.lt_of_le_of_lt (Nat.div_le_self _ _) (by omega)) (by decide) (by decide) ?_
    refine j_top (nI (lCs S t (zN S t) / 12 ^ (q + 1))) (by rw [Nat.div_div_eq_div_mul, ← Nat.pow_succ]) ?_
    refine j_istore_n C dL_condition_22 (by rw [hxn]; decide) ?_
    first | refine j_iinc1 C dL_condition_23 rfl (by rw [hxn]; decide) ?_ | refine j_iinc C _ dL_condition_23 rfl rfl (by rw [hxn]; decide) ?_
    refine j_goto C 12 dL_condition_26 (by decide) ?_
    exact ih trivial
  · skip
    refine j_iload C dL_condition_12 rfl ?_
    refine j_iload_n C dL_condition_14 rfl ?_
    refine j_icmp_ge C 29 dL_condition_15 (by decide) (fun _ => ?_) (fun h => absurd (Int32.le_refl _) h)
    refine j_iload_n C dL_condition_29 rfl ?_
    refine j_bipush C (nI 12) dL_condition_30 (by decide) ?_
    refine j_iremN C dL_condition_32 (Nat.lt_of_le_of_lt (Nat.div_le_self _ _) (by omega)) (by decide) (by decide) ?_
    exact j_ireturn C E dL_condition_33 (rfl) (by decide) (by decide) (⟨rfl, rfl, rfl, rfl⟩)

set_option maxHeartbeats 4000000 in
set_option maxRecDepth 100000 in
theorem c_L_holds (l : Launch) (ω : jW) (γ : jG) (M : jM) (R : jR) {j o : Nat} {x v : Int32} (hj : j < 4) (ho : o < 3) : Ct l ω yL_holds cL_holds 3 (some .boolean) 1 0 0 [.int (nI (3 * j + o)), .int x, .int v] γ M R (jx γ (some (.int (rHolds x (nI o) v))) M R) := by
  refine Ct_of (by decide) (Nat.le_of_ble_eq_true rfl) rfl (jcat_of rfl) ?_
  intro X C E hnm hxl hxn
  subst hxl
  rcases (show o = 0 ∨ o = 1 ∨ o = 2 by omega) with rfl | rfl | rfl
  · skip
    refine j_iload_n C dL_holds_0 rfl ?_
    refine j_iconst C (nI 3) dL_holds_1 (by decide) ?_
    refine j_iremN C dL_holds_2 (by omega) (by decide) (by decide) ?_
    refine j_top (nI 0) (by congr 1; omega) ?_
    refine j_if_ne C 19 dL_holds_3 (by decide) (fun h => absurd (rfl) h) (fun _ => ?_)
    refine j_iload_n C dL_holds_6 rfl ?_
    refine j_iload_n C dL_holds_7 rfl ?_
    refine j_icmp_ne C 15 dL_holds_8 (by decide) (fun h8 => ?_) (fun h8 => ?_)
    · skip
      refine j_iconst C (nI 0) dL_holds_15 (by decide) ?_
      refine j_goto C 49 dL_holds_16 (by decide) ?_
      exact j_ireturn C E dL_holds_49 (by decide) (by decide) (by decide) (⟨by rw [lh0, if_neg h8], rfl, rfl, rfl⟩)
    · skip
      refine j_iconst C (nI 1) dL_holds_11 (by decide) ?_
      refine j_goto C 49 dL_holds_12 (by decide) ?_
      exact j_ireturn C E dL_holds_49 (by decide) (by decide) (by decide) (⟨by rw [lh0, if_pos h8], rfl, rfl, rfl⟩)
  · skip
    refine j_iload_n C dL_holds_0 rfl ?_
    refine j_iconst C (nI 3) dL_holds_1 (by decide) ?_
    refine j_iremN C dL_holds_2 (by omega) (by decide) (by decide) ?_
    refine j_top (nI 1) (by congr 1; omega) ?_
    refine j_if_ne C 19 dL_holds_3 (by decide) (fun _ => ?_) (fun h => absurd h (by decide))
    refine j_iload_n C dL_holds_19 rfl ?_
    refine j_iconst C (nI 3) dL_holds_20 (by decide) ?_
    refine j_iremN C dL_holds_21 (by omega) (by decide) (by decide) ?_
    refine j_top (nI 1) (by congr 1; omega) ?_
    refine j_iconst C (nI 1) dL_holds_22 (by decide) ?_
    refine j_icmp_ne C 39 dL_holds_23 (by decide) (fun h => absurd (rfl) h) (fun _ => ?_)
    refine j_iload_n C dL_holds_26 rfl ?_
    refine j_iload_n C dL_holds_27 rfl ?_
    refine j_icmp_ge C 35 dL_holds_28 (by decide) (fun h28 => ?_) (fun h28 => ?_)
    · skip
      refine j_iconst C (nI 0) dL_holds_35 (by decide) ?_
      refine j_goto C 49 dL_holds_36 (by decide) ?_
      exact j_ireturn C E dL_holds_49 (by decide) (by decide) (by decide) (⟨by rw [lh1, if_pos h28], rfl, rfl, rfl⟩)
    · skip
      refine j_iconst C (nI 1) dL_holds_31 (by decide) ?_
      refine j_goto C 49 dL_holds_32 (by decide) ?_
      exact j_ireturn C E dL_holds_49 (by decide) (by decide) (by decide) (⟨by rw [lh1, if_neg h28], rfl, rfl, rfl⟩)
  · skip
    refine j_iload_n C dL_holds_0 rfl ?_
    refine j_iconst C (nI 3) dL_holds_1 (by decide) ?_
    refine j_iremN C dL_holds_2 (by omega) (by decide) (by decide) ?_
    refine j_top (nI 2) (by congr 1; omega) ?_
    refine j_if_ne C 19 dL_holds_3 (by decide) (fun _ => ?_) (fun h => absurd h (by decide))
    refine j_iload_n C dL_holds_19 rfl ?_
    refine j_iconst C (nI 3) dL_holds_20 (by decide) ?_
    refine j_iremN C dL_holds_21 (by omega) (by decide) (by decide) ?_
    refine j_top (nI 2) (by congr 1; omega) ?_
    refine j_iconst C (nI 1) dL_holds_22 (by decide) ?_
    refine j_icmp_ne C 39 dL_holds_23 (by decide) (fun _ => ?_) (fun h => absurd h (by decide))
    refine j_iload_n C dL_holds_39 rfl ?_
    refine j_iload_n C dL_holds_40 rfl ?_
    refine j_icmp_le C 48 dL_holds_41 (by decide) (fun h41 => ?_) (fun h41 => ?_)
    · skip
      refine j_iconst C (nI 0) dL_holds_48 (by decide) ?_
      exact j_ireturn C E dL_holds_49 (by decide) (by decide) (by decide) (⟨by rw [lh2, if_pos h41], rfl, rfl, rfl⟩)
    · skip
      refine j_iconst C (nI 1) dL_holds_44 (by decide) ?_
      refine j_goto C 49 dL_holds_45 (by decide) ?_
      exact j_ireturn C E dL_holds_49 (by decide) (by decide) (by decide) (⟨by rw [lh2, if_neg h41], rfl, rfl, rfl⟩)

set_option maxHeartbeats 4000000 in
set_option maxRecDepth 100000 in
theorem c_L_size (l : Launch) (ω : jW) (γ : jG) (M : jM) (R : jR) {d r c : Nat} {S : Nat → Int32} (g : gD ω γ d) (H : lRd M d S r c) (Z : zRd S r c)  : Ct l ω yL_size cL_size 4 (some .int) 2 0 0 [.ref d, .ref (d + 1)] γ M R (jx γ (some (.int (sI (zRowW S) r))) M R) := by
  refine Ct_of (by decide) (Nat.le_of_ble_eq_true rfl) rfl (jcat_of rfl) ?_
  intro X C E hnm hxl hxn
  subst hxl
  obtain ⟨g0, g1, g2, g3, g4, g5⟩ := g
  obtain ⟨H0, H1, H2, H3⟩ := H
  have hr0 : M d 0 = nI r := (H0 0 (by decide)).trans Z.1
  have hr30 := Z.2.1
  have hc6 := Z.2.2.2.2.1
  refine j_iconst C (nI 0) dL_size_0 (by decide) ?_
  refine j_istore_n C dL_size_1 (by rw [hxn]; decide) ?_
  refine j_iconst C (nI 0) dL_size_2 (by decide) ?_
  refine j_istore_n C dL_size_3 (by rw [hxn]; decide) ?_
  refine j_loop r (fun q => [(0, .ref d), (1, .ref (d + 1)), (2, .int (sI (zRowW S) q)), (3, .int (nI q))]) (fun _ => M) (fun _ => R) (fun _ => True) trivial (fun q hq _ ih => ?_) (fun _ => ?_)
  · skip
    refine j_iload_n C dL_size_4 rfl ?_
    refine j_aload_n C dL_size_5 rfl ?_
    refine j_iconst C (nI 0) dL_size_6 (by decide) ?_
    refine j_ialdN C (by assumption) dL_size_7 (by omega) (by decide) ?_
    refine j_top (nI r) (hr0) ?_
    refine j_icmp_ge C 25 dL_size_8 (by decide) (fun h => absurd h (nI_ge hq (by omega))) (fun _ => ?_)
    refine j_iload_n C dL_size_11 rfl ?_
    refine j_aload_n C dL_size_12 rfl ?_
    refine j_iload_n C dL_size_13 rfl ?_
    refine j_cSi C (c_L_weight _ ω γ M R ⟨g0, g1, g2, g3, g4, g5⟩ ⟨H0, H1, H2, H3⟩ Z hq) yc_L_weight mn_L_11 st_L_weight dL_size_14 rfl rfl (Nat.le_of_ble_eq_true rfl) (by decide) ?_
    first | with_reducible refine j_iaddN C dL_size_17 ?_ | refine j_iadd C dL_size_17 ?_
    refine j_top (sI (zRowW S) (q + 1)) rfl ?_
    refine j_istore_n C dL_size_18 (by rw [hxn]; decide) ?_
    first | refine j_iinc1 C dL_size_19 rfl (by rw [hxn]; decide) ?_ | refine j_iinc C _ dL_size_19 rfl rfl (by rw [hxn]; decide) ?_
    refine j_goto C 4 dL_size_22 (by decide) ?_
    exact ih trivial
  · skip
    refine j_iload_n C dL_size_4 rfl ?_
    refine j_aload_n C dL_size_5 rfl ?_
    refine j_iconst C (nI 0) dL_size_6 (by decide) ?_
    refine j_ialdN C (by assumption) dL_size_7 (by omega) (by decide) ?_
    refine j_top (nI r) (hr0) ?_
    refine j_icmp_ge C 25 dL_size_8 (by decide) (fun _ => ?_) (fun h => absurd (Int32.le_refl _) h)
    refine j_iload_n C dL_size_25 rfl ?_
    exact j_ireturn C E dL_size_26 (rfl) (by decide) (by decide) (⟨rfl, rfl, rfl, rfl⟩)

set_option maxHeartbeats 4000000 in
set_option maxRecDepth 100000 in
theorem c_L_weights0 (l : Launch) (ω : jW) (γ : jG) (M : jM) (R : jR) {d r c : Nat} {S : Nat → Int32} (g : gD ω γ d) (H : lRd M d S r c) (Z : zRd S r c) {t k : Nat} {V : Nat → Int32} (ht : t < c) (hk : k < zN S t) : Ct l ω yL_weights cL_weights 8 (some .int) 2 0 0 [.ref d, .ref (d + 1), .ref (d + 2), .int (nI (lCd S t k)), .int (V k), .int (nI 0)] γ M R (jx γ (some (.int (sI (zW0 S V t k) 32))) M R) := by
  refine Ct_of (by decide) (Nat.le_of_ble_eq_true rfl) rfl (jcat_of rfl) ?_
  intro X C E hnm hxl hxn
  subst hxl
  obtain ⟨g0, g1, g2, g3, g4, g5⟩ := g
  obtain ⟨H0, H1, H2, H3⟩ := H
  have hr0 : M d 0 = nI r := (H0 0 (by decide)).trans Z.1
  have hr30 := Z.2.1
  have hc6 := Z.2.2.2.2.1
  have hop := (Z.2.2.2.2.2.1 t ht).2 k hk
  have hcl := ((Z.2.2.2.2.2.1 t ht).1.2.2.2.2 k hk).2
  have hl12 := lCd_lt Z ht hk
  refine j_iconst C (nI 0) dL_weights_0 (by decide) ?_
  refine j_istore C dL_weights_1 (by rw [hxn]; decide) ?_
  refine j_iconst C (nI 0) dL_weights_3 (by decide) ?_
  refine j_istore C dL_weights_4 (by rw [hxn]; decide) ?_
  refine j_loop 32 (fun q => [(0, .ref d), (1, .ref (d + 1)), (2, .ref (d + 2)), (3, .int (nI (lCd S t k))), (4, .int (V k)), (5, .int (nI 0)), (6, .int (sI (zW0 S V t k) q)), (7, .int (nI q))]) (fun _ => M) (fun _ => R) (fun _ => True) trivial (fun q hq _ ih => ?_) (fun _ => ?_)
  · skip
    refine j_iload C dL_weights_6 rfl ?_
    refine j_bipush C (nI 32) dL_weights_8 (by decide) ?_
    refine j_icmp_ge C 53 dL_weights_10 (by decide) (fun h => absurd h (nI_ge hq (by decide))) (fun _ => ?_)
    refine j_iload C dL_weights_13 rfl ?_
    refine j_if_ne C 53 dL_weights_15 (by decide) (fun h => absurd (rfl) h) (fun _ => ?_)
    refine j_iload C dL_weights_18 rfl ?_
    refine j_iload_n C dL_weights_20 rfl ?_
    refine j_iload C dL_weights_21 rfl ?_
    refine j_iload C dL_weights_23 rfl ?_
    refine j_cSi C (c_L_holds _ ω γ M R (j := zCol S t k) (o := zOp S t k) (x := nI q) (v := V k) hcl hop.2) yc_L_holds mn_L_17 st_L_holds dL_weights_25 rfl rfl (Nat.le_of_ble_eq_true rfl) (by decide) ?_
    refine j_top (zHold S V t k (nI q)) (zHold_l Z ht hk V _) ?_
    refine j_if_eq C 43 dL_weights_28 (by decide) (fun h28 => ?_) (fun h28 => ?_)
    · skip
      refine j_iconst C (nI 0) dL_weights_43 (by decide) ?_
      first | with_reducible refine j_iaddN C dL_weights_44 ?_ | refine j_iadd C dL_weights_44 ?_
      refine j_top (sI (zW0 S V t k) (q + 1)) (by simp only [sI, zW0]; first | rw [if_pos h28] | rw [if_neg h28]) ?_
      refine j_istore C dL_weights_45 (by rw [hxn]; decide) ?_
      first | refine j_iinc1 C dL_weights_47 rfl (by rw [hxn]; decide) ?_ | refine j_iinc C _ dL_weights_47 rfl rfl (by rw [hxn]; decide) ?_
      refine j_goto C 6 dL_weights_50 (by decide) ?_
      exact ih trivial
    · skip
      refine j_aload_n C dL_weights_31 rfl ?_
      refine j_iload_n C dL_weights_32 rfl ?_
      refine j_iconst C (nI 3) dL_weights_33 (by decide) ?_
      refine j_idivN C dL_weights_34 (by omega) (by decide) (by decide) ?_
      refine j_top (nI (zCol S t k)) (by congr 1; unfold lCd; omega) ?_
      refine j_iload C dL_weights_35 rfl ?_
      refine j_cSi C (c_L_known _ ω γ M R ⟨g0, g1, g2, g3, g4, g5⟩ ⟨H0, H1, H2, H3⟩ Z (j := zCol S t k) (v := q) hcl hq) yc_L_known mn_L_21 st_L_known dL_weights_37 rfl rfl (Nat.le_of_ble_eq_true rfl) (by decide) ?_
      refine j_goto C 44 dL_weights_40 (by decide) ?_
      first | with_reducible refine j_iaddN C dL_weights_44 ?_ | refine j_iadd C dL_weights_44 ?_
      refine j_top (sI (zW0 S V t k) (q + 1)) (by simp only [sI, zW0]; first | rw [if_pos h28] | rw [if_neg h28]) ?_
      refine j_istore C dL_weights_45 (by rw [hxn]; decide) ?_
      first | refine j_iinc1 C dL_weights_47 rfl (by rw [hxn]; decide) ?_ | refine j_iinc C _ dL_weights_47 rfl rfl (by rw [hxn]; decide) ?_
      refine j_goto C 6 dL_weights_50 (by decide) ?_
      exact ih trivial
  · skip
    refine j_iload C dL_weights_6 rfl ?_
    refine j_bipush C (nI 32) dL_weights_8 (by decide) ?_
    refine j_icmp_ge C 53 dL_weights_10 (by decide) (fun _ => ?_) (fun h => absurd (Int32.le_refl _) h)
    refine j_iconst C (nI 0) dL_weights_53 (by decide) ?_
    refine j_istore C dL_weights_54 (by rw [hxn]; decide) ?_
    refine j_iload C dL_weights_56 rfl ?_
    refine j_aload_n C dL_weights_58 rfl ?_
    refine j_iconst C (nI 0) dL_weights_59 (by decide) ?_
    refine j_ialdN C (by assumption) dL_weights_60 (by omega) (by decide) ?_
    refine j_top (nI r) (hr0) ?_
    refine j_icmp_ge C 108 dL_weights_61 (by decide) (fun h61 => ?_) (fun h61 => ?_)
    · skip
      refine j_iload C dL_weights_108 rfl ?_
      exact j_ireturn C E dL_weights_110 (rfl) (by decide) (by decide) (⟨rfl, rfl, rfl, rfl⟩)
    · skip
      refine j_iload C dL_weights_64 rfl ?_
      refine j_if_eq C 108 dL_weights_66 (by decide) (fun _ => ?_) (fun h => absurd (rfl) h)
      refine j_iload C dL_weights_108 rfl ?_
      exact j_ireturn C E dL_weights_110 (rfl) (by decide) (by decide) (⟨rfl, rfl, rfl, rfl⟩)

set_option maxHeartbeats 4000000 in
set_option maxRecDepth 100000 in
theorem c_L_weights1 (l : Launch) (ω : jW) (γ : jG) (M : jM) (R : jR) {d r c : Nat} {S : Nat → Int32} (g : gD ω γ d) (H : lRd M d S r c) (Z : zRd S r c) {t k : Nat} {V : Nat → Int32} (ht : t < c) (hk : k < zN S t) : Ct l ω yL_weights cL_weights 8 (some .int) 2 0 0 [.ref d, .ref (d + 1), .ref (d + 2), .int (nI (lCd S t k)), .int (V k), .int (nI 1)] γ M R (jx γ (some (.int (sI (zW1 S V t k) r))) M R) := by
  refine Ct_of (by decide) (Nat.le_of_ble_eq_true rfl) rfl (jcat_of rfl) ?_
  intro X C E hnm hxl hxn
  subst hxl
  obtain ⟨g0, g1, g2, g3, g4, g5⟩ := g
  obtain ⟨H0, H1, H2, H3⟩ := H
  have hr0 : M d 0 = nI r := (H0 0 (by decide)).trans Z.1
  have hr30 := Z.2.1
  have hc6 := Z.2.2.2.2.1
  have hop := (Z.2.2.2.2.2.1 t ht).2 k hk
  have hcl := ((Z.2.2.2.2.2.1 t ht).1.2.2.2.2 k hk).2
  have hl12 := lCd_lt Z ht hk
  refine j_iconst C (nI 0) dL_weights_0 (by decide) ?_
  refine j_istore C dL_weights_1 (by rw [hxn]; decide) ?_
  refine j_iconst C (nI 0) dL_weights_3 (by decide) ?_
  refine j_istore C dL_weights_4 (by rw [hxn]; decide) ?_
  refine j_iload C dL_weights_6 rfl ?_
  refine j_bipush C (nI 32) dL_weights_8 (by decide) ?_
  refine j_icmp_ge C 53 dL_weights_10 (by decide) (fun h => absurd h (by decide)) (fun _ => ?_)
  refine j_iload C dL_weights_13 rfl ?_
  refine j_if_ne C 53 dL_weights_15 (by decide) (fun _ => ?_) (fun h => absurd h (by decide))
  refine j_iconst C (nI 0) dL_weights_53 (by decide) ?_
  refine j_istore C dL_weights_54 (by rw [hxn]; decide) ?_
  refine j_loop r (fun q => [(0, .ref d), (1, .ref (d + 1)), (2, .ref (d + 2)), (3, .int (nI (lCd S t k))), (4, .int (V k)), (5, .int (nI 1)), (6, .int (sI (zW1 S V t k) q)), (7, .int (nI q))]) (fun _ => M) (fun _ => R) (fun _ => True) trivial (fun q hq _ ih => ?_) (fun _ => ?_)
  · skip
    refine j_iload C dL_weights_56 rfl ?_
    refine j_aload_n C dL_weights_58 rfl ?_
    refine j_iconst C (nI 0) dL_weights_59 (by decide) ?_
    refine j_ialdN C (by assumption) dL_weights_60 (by omega) (by decide) ?_
    refine j_top (nI r) (hr0) ?_
    refine j_icmp_ge C 108 dL_weights_61 (by decide) (fun h => absurd h (nI_ge hq (by omega))) (fun _ => ?_)
    refine j_iload C dL_weights_64 rfl ?_
    refine j_if_eq C 108 dL_weights_66 (by decide) (fun h => absurd h (by decide)) (fun _ => ?_)
    refine j_iload C dL_weights_69 rfl ?_
    refine j_iload_n C dL_weights_71 rfl ?_
    refine j_aload_n C dL_weights_72 rfl ?_
    refine j_iload C dL_weights_73 rfl ?_
    refine j_iload_n C dL_weights_75 rfl ?_
    refine j_iconst C (nI 3) dL_weights_76 (by decide) ?_
    refine j_idivN C dL_weights_77 (by omega) (by decide) (by decide) ?_
    refine j_top (nI (zCol S t k)) (by congr 1; unfold lCd; omega) ?_
    refine j_cSi C (c_L_of _ ω γ M R ⟨g0, g1, g2, g3, g4, g5⟩ ⟨H0, H1, H2, H3⟩ Z hq hcl) yc_L_of mn_L_25 st_L_of dL_weights_78 rfl rfl (Nat.le_of_ble_eq_true rfl) (by decide) ?_
    refine j_iload C dL_weights_81 rfl ?_
    refine j_cSi C (c_L_holds _ ω γ M R (j := zCol S t k) (o := zOp S t k) (x := S (29 + 5 * q + zCol S t k)) (v := V k) hcl hop.2) yc_L_holds mn_L_17 st_L_holds dL_weights_83 rfl rfl (Nat.le_of_ble_eq_true rfl) (by decide) ?_
    refine j_top (zHold S V t k (S (29 + 5 * q + zCol S t k))) (zHold_l Z ht hk V _) ?_
    refine j_if_eq C 98 dL_weights_86 (by decide) (fun h86 => ?_) (fun h86 => ?_)
    · skip
      refine j_iconst C (nI 0) dL_weights_98 (by decide) ?_
      first | with_reducible refine j_iaddN C dL_weights_99 ?_ | refine j_iadd C dL_weights_99 ?_
      refine j_top (sI (zW1 S V t k) (q + 1)) (by simp only [sI, zW1]; first | rw [if_pos h86] | rw [if_neg h86]) ?_
      refine j_istore C dL_weights_100 (by rw [hxn]; decide) ?_
      first | refine j_iinc1 C dL_weights_102 rfl (by rw [hxn]; decide) ?_ | refine j_iinc C _ dL_weights_102 rfl rfl (by rw [hxn]; decide) ?_
      refine j_goto C 56 dL_weights_105 (by decide) ?_
      exact ih trivial
    · skip
      refine j_aload_n C dL_weights_89 rfl ?_
      refine j_iload C dL_weights_90 rfl ?_
      refine j_cSi C (c_L_weight _ ω γ M R ⟨g0, g1, g2, g3, g4, g5⟩ ⟨H0, H1, H2, H3⟩ Z hq) yc_L_weight mn_L_11 st_L_weight dL_weights_92 rfl rfl (Nat.le_of_ble_eq_true rfl) (by decide) ?_
      refine j_goto C 99 dL_weights_95 (by decide) ?_
      first | with_reducible refine j_iaddN C dL_weights_99 ?_ | refine j_iadd C dL_weights_99 ?_
      refine j_top (sI (zW1 S V t k) (q + 1)) (by simp only [sI, zW1]; first | rw [if_pos h86] | rw [if_neg h86]) ?_
      refine j_istore C dL_weights_100 (by rw [hxn]; decide) ?_
      first | refine j_iinc1 C dL_weights_102 rfl (by rw [hxn]; decide) ?_ | refine j_iinc C _ dL_weights_102 rfl rfl (by rw [hxn]; decide) ?_
      refine j_goto C 56 dL_weights_105 (by decide) ?_
      exact ih trivial
  · skip
    refine j_iload C dL_weights_56 rfl ?_
    refine j_aload_n C dL_weights_58 rfl ?_
    refine j_iconst C (nI 0) dL_weights_59 (by decide) ?_
    refine j_ialdN C (by assumption) dL_weights_60 (by omega) (by decide) ?_
    refine j_top (nI r) (hr0) ?_
    refine j_icmp_ge C 108 dL_weights_61 (by decide) (fun _ => ?_) (fun h => absurd (Int32.le_refl _) h)
    refine j_iload C dL_weights_108 rfl ?_
    exact j_ireturn C E dL_weights_110 (rfl) (by decide) (by decide) (⟨rfl, rfl, rfl, rfl⟩)

set_option maxHeartbeats 4000000 in
set_option maxRecDepth 100000 in
theorem c_L_cost0 (l : Launch) (ω : jW) (γ : jG) (M : jM) (R : jR) {d r c : Nat} {S : Nat → Int32} (g : gD ω γ d) (H : lRd M d S r c) (Z : zRd S r c) {w : Nat} {V : Nat → Int32} (hw : jArr ω γ w 12 4) (hV : ∀ k, k < 4 → M w k = V k) {t y : Nat} (ht : t < c) (hy : y = 9 ∨ y < zN S t) : Ct l ω yL_cost cL_cost 8 (some .int) 3 0 0 [.ref d, .ref (d + 1), .ref (d + 2), .ref (d + 3), .int (nI t), .ref w, .int (nI y), .int (nI 0)] γ M R (jx γ (some (.int (zC0 S V t y))) M R) := by
  refine Ct_of (by decide) (Nat.le_of_ble_eq_true rfl) rfl (jcat_of rfl) ?_
  intro X C E hnm hxl hxn
  subst hxl
  obtain ⟨g0, g1, g2, g3, g4, g5⟩ := g
  obtain ⟨H0, H1, H2, H3⟩ := H
  have hr0 : M d 0 = nI r := (H0 0 (by decide)).trans Z.1
  have hr30 := Z.2.1
  have hc6 := Z.2.2.2.2.1
  have hn4 := (lN4 Z ht).2.1
  rcases hy with rfl | hy
  · skip
    refine j_iload C dL_cost_0 rfl ?_
    refine j_bipush C (nI 9) dL_cost_2 (by decide) ?_
    refine j_icmp_ne C 26 dL_cost_4 (by decide) (fun h => absurd (rfl) h) (fun _ => ?_)
    refine j_iload C dL_cost_7 rfl ?_
    refine j_if_eq C 20 dL_cost_9 (by decide) (fun _ => ?_) (fun h => absurd (rfl) h)
    refine j_aload_n C dL_cost_20 rfl ?_
    refine j_iconst C (nI 2) dL_cost_21 (by decide) ?_
    refine j_ialdN C (by assumption) dL_cost_22 (by omega) (by decide) ?_
    refine j_top (S 2) (H0 2 (by decide)) ?_
    refine j_goto C 50 dL_cost_23 (by decide) ?_
    exact j_ireturn C E dL_cost_50 (rfl) (by decide) (by decide) (⟨by rw [zC0, if_pos rfl], rfl, rfl, rfl⟩)
  · skip
    have hy9 : ¬ nI y = nI 9 := fun q => by have := nI9 q (Or.inr (by omega)); omega
    refine j_iload C dL_cost_0 rfl ?_
    refine j_bipush C (nI 9) dL_cost_2 (by decide) ?_
    refine j_icmp_ne C 26 dL_cost_4 (by decide) (fun _ => ?_) (fun h => absurd h (hy9))
    refine j_bipush C (nI 10) dL_cost_26 (by decide) ?_
    refine j_aload_n C dL_cost_28 rfl ?_
    refine j_aload_n C dL_cost_29 rfl ?_
    refine j_aload_n C dL_cost_30 rfl ?_
    refine j_aload_n C dL_cost_31 rfl ?_
    refine j_iload C dL_cost_32 rfl ?_
    refine j_iload C dL_cost_34 rfl ?_
    refine j_cSi C (c_L_condition _ ω γ M R ⟨g0, g1, g2, g3, g4, g5⟩ ⟨H0, H1, H2, H3⟩ Z ht (show y ≤ 4 by omega)) yc_L_condition mn_L_33 st_L_condition dL_cost_36 rfl rfl (Nat.le_of_ble_eq_true rfl) (by decide) ?_
    refine j_top (nI (lCd S t y)) (by rw [lCd_of Z ht hy]) ?_
    refine j_aload C dL_cost_39 rfl ?_
    refine j_iload C dL_cost_41 rfl ?_
    refine j_ialdN C (by assumption) dL_cost_43 (by omega) (by decide) ?_
    refine j_top (V y) (hV y (by omega)) ?_
    refine j_iload C dL_cost_44 rfl ?_
    refine j_cSi C (c_L_weights0 _ ω γ M R ⟨g0, g1, g2, g3, g4, g5⟩ ⟨H0, H1, H2, H3⟩ Z ht hy) yc_L_weights mn_L_36 st_L_weights dL_cost_46 rfl rfl (Nat.le_of_ble_eq_true rfl) (by decide) ?_
    first | with_reducible refine j_iaddN C dL_cost_49 ?_ | refine j_iadd C dL_cost_49 ?_
    exact j_ireturn C E dL_cost_50 (rfl) (by decide) (by decide) (⟨by rw [zC0, if_neg hy9], rfl, rfl, rfl⟩)

set_option maxHeartbeats 4000000 in
set_option maxRecDepth 100000 in
theorem c_L_cost1 (l : Launch) (ω : jW) (γ : jG) (M : jM) (R : jR) {d r c : Nat} {S : Nat → Int32} (g : gD ω γ d) (H : lRd M d S r c) (Z : zRd S r c) {w : Nat} {V : Nat → Int32} (hw : jArr ω γ w 12 4) (hV : ∀ k, k < 4 → M w k = V k) {t y : Nat} (ht : t < c) (hy : y = 9 ∨ y < zN S t) : Ct l ω yL_cost cL_cost 8 (some .int) 3 0 0 [.ref d, .ref (d + 1), .ref (d + 2), .ref (d + 3), .int (nI t), .ref w, .int (nI y), .int (nI 1)] γ M R (jx γ (some (.int (zC1 S V t r y))) M R) := by
  refine Ct_of (by decide) (Nat.le_of_ble_eq_true rfl) rfl (jcat_of rfl) ?_
  intro X C E hnm hxl hxn
  subst hxl
  obtain ⟨g0, g1, g2, g3, g4, g5⟩ := g
  obtain ⟨H0, H1, H2, H3⟩ := H
  have hr0 : M d 0 = nI r := (H0 0 (by decide)).trans Z.1
  have hr30 := Z.2.1
  have hc6 := Z.2.2.2.2.1
  have hn4 := (lN4 Z ht).2.1
  rcases hy with rfl | hy
  · skip
    refine j_iload C dL_cost_0 rfl ?_
    refine j_bipush C (nI 9) dL_cost_2 (by decide) ?_
    refine j_icmp_ne C 26 dL_cost_4 (by decide) (fun h => absurd (rfl) h) (fun _ => ?_)
    refine j_iload C dL_cost_7 rfl ?_
    refine j_if_eq C 20 dL_cost_9 (by decide) (fun h => absurd h (by decide)) (fun _ => ?_)
    refine j_aload_n C dL_cost_12 rfl ?_
    refine j_aload_n C dL_cost_13 rfl ?_
    refine j_cSi C (c_L_size _ ω γ M R ⟨g0, g1, g2, g3, g4, g5⟩ ⟨H0, H1, H2, H3⟩ Z) yc_L_size mn_L_29 st_L_size dL_cost_14 rfl rfl (Nat.le_of_ble_eq_true rfl) (by decide) ?_
    refine j_goto C 50 dL_cost_17 (by decide) ?_
    exact j_ireturn C E dL_cost_50 (rfl) (by decide) (by decide) (⟨by rw [zC1, if_pos rfl], rfl, rfl, rfl⟩)
  · skip
    have hy9 : ¬ nI y = nI 9 := fun q => by have := nI9 q (Or.inr (by omega)); omega
    refine j_iload C dL_cost_0 rfl ?_
    refine j_bipush C (nI 9) dL_cost_2 (by decide) ?_
    refine j_icmp_ne C 26 dL_cost_4 (by decide) (fun _ => ?_) (fun h => absurd h (hy9))
    refine j_bipush C (nI 10) dL_cost_26 (by decide) ?_
    refine j_aload_n C dL_cost_28 rfl ?_
    refine j_aload_n C dL_cost_29 rfl ?_
    refine j_aload_n C dL_cost_30 rfl ?_
    refine j_aload_n C dL_cost_31 rfl ?_
    refine j_iload C dL_cost_32 rfl ?_
    refine j_iload C dL_cost_34 rfl ?_
    refine j_cSi C (c_L_condition _ ω γ M R ⟨g0, g1, g2, g3, g4, g5⟩ ⟨H0, H1, H2, H3⟩ Z ht (show y ≤ 4 by omega)) yc_L_condition mn_L_33 st_L_condition dL_cost_36 rfl rfl (Nat.le_of_ble_eq_true rfl) (by decide) ?_
    refine j_top (nI (lCd S t y)) (by rw [lCd_of Z ht hy]) ?_
    refine j_aload C dL_cost_39 rfl ?_
    refine j_iload C dL_cost_41 rfl ?_
    refine j_ialdN C (by assumption) dL_cost_43 (by omega) (by decide) ?_
    refine j_top (V y) (hV y (by omega)) ?_
    refine j_iload C dL_cost_44 rfl ?_
    refine j_cSi C (c_L_weights1 _ ω γ M R ⟨g0, g1, g2, g3, g4, g5⟩ ⟨H0, H1, H2, H3⟩ Z ht hy) yc_L_weights mn_L_36 st_L_weights dL_cost_46 rfl rfl (Nat.le_of_ble_eq_true rfl) (by decide) ?_
    first | with_reducible refine j_iaddN C dL_cost_49 ?_ | refine j_iadd C dL_cost_49 ?_
    exact j_ireturn C E dL_cost_50 (rfl) (by decide) (by decide) (⟨by rw [zC1, if_neg hy9], rfl, rfl, rfl⟩)

set_option maxHeartbeats 4000000 in
set_option maxRecDepth 100000 in
theorem c_L_way (l : Launch) (ω : jW) (γ : jG) (M : jM) (R : jR) {d r c : Nat} {S : Nat → Int32} (g : gD ω γ d) (H : lRd M d S r c) (Z : zRd S r c) {w : Nat} {V : Nat → Int32} (hw : jArr ω γ w 12 4) (hV : ∀ k, k < 4 → M w k = V k) {t : Nat} (ht : t < c) : Ct l ω yL_way cL_way 9 (some .int) 4 0 0 [.ref d, .ref (d + 1), .ref (d + 2), .ref (d + 3), .int (nI t), .ref w, .int (nI 0)] γ M R (jx γ (some (.int (nI (zBest S (zC0 S V t) t (zN S t) (zN S t))))) M R) := by
  refine Ct_of (by decide) (Nat.le_of_ble_eq_true rfl) rfl (jcat_of rfl) ?_
  intro X C E hnm hxl hxn
  subst hxl
  obtain ⟨g0, g1, g2, g3, g4, g5⟩ := g
  obtain ⟨H0, H1, H2, H3⟩ := H
  have hr0 : M d 0 = nI r := (H0 0 (by decide)).trans Z.1
  have hr30 := Z.2.1
  have hc6 := Z.2.2.2.2.1
  have hn4 := (lN4 Z ht).2.1
  have hst := (Z.2.2.2.2.2.1 t ht).1
  refine j_bipush C (nI 9) dL_way_0 (by decide) ?_
  refine j_istore C dL_way_2 (by rw [hxn]; decide) ?_
  refine j_iconst C (nI 3) dL_way_4 (by decide) ?_
  refine j_istore C dL_way_5 (by rw [hxn]; decide) ?_
  refine j_locs [0, 1, 2, 3, 4, 5, 6, 7, 8] (l' := [(0, .ref d), (1, .ref (d + 1)), (2, .ref (d + 2)), (3, .ref (d + 3)), (4, .int (nI t)), (5, .ref w), (6, .int (nI 0)), (7, .int (nI (zBest S (zC0 S V t) t (zN S t) (0 - (4 - zN S t))))), (8, .int (nI (4 - 0) - nI 1))]) (by rw [Nat.zero_sub]; rfl) ?_
  refine j_loop 4 (fun q => [(0, .ref d), (1, .ref (d + 1)), (2, .ref (d + 2)), (3, .ref (d + 3)), (4, .int (nI t)), (5, .ref w), (6, .int (nI 0)), (7, .int (nI (zBest S (zC0 S V t) t (zN S t) (q - (4 - zN S t))))), (8, .int (nI (4 - q) - nI 1))]) (fun _ => M) (fun _ => R) (fun _ => True) trivial (fun q hq _ ih => ?_) (fun _ => ?_)
  · skip
    have e8 := zd_1 hq
    simp only [e8]
    have hrg := zBest_rg S (zC0 S V t) t (zN S t) (q - (4 - zN S t)) (by omega)
    refine j_iload C dL_way_7 rfl ?_
    refine j_if_lt C 91 dL_way_9 (by decide) (fun h => absurd h (nI_pos (by omega))) (fun _ => ?_)
    refine j_iload C dL_way_12 rfl ?_
    refine j_aload_n C dL_way_14 rfl ?_
    refine j_iload C dL_way_15 rfl ?_
    refine j_cSi C (c_L_many _ ω γ M R ⟨g0, g1, g2, g3, g4, g5⟩ ⟨H0, H1, H2, H3⟩ Z ht) yc_L_many mn_L_40 st_L_many dL_way_17 rfl rfl (Nat.le_of_ble_eq_true rfl) (by decide) ?_
    refine j_icmp_ge C 85 dL_way_20 (by decide) (fun h20 => ?_) (fun h20 => ?_)
    · skip
      have hqn : zN S t ≤ 4 - 1 - q := (nI_leI (by omega) (by omega)).mp h20
      have hqs : q + 1 - (4 - zN S t) = q - (4 - zN S t) := by omega
      first | refine j_iincD C dL_way_85 rfl (by rw [hxn]; decide) ?_ | refine j_iinc C _ dL_way_85 rfl rfl (by rw [hxn]; decide) ?_
      refine j_goto C 7 dL_way_88 (by decide) ?_
      refine j_locs [0, 1, 2, 3, 4, 5, 6, 7, 8] (l' := [(0, .ref d), (1, .ref (d + 1)), (2, .ref (d + 2)), (3, .ref (d + 3)), (4, .int (nI t)), (5, .ref w), (6, .int (nI 0)), (7, .int (nI (zBest S (zC0 S V t) t (zN S t) (q + 1 - (4 - zN S t))))), (8, .int (nI (4 - (q + 1)) - nI 1))]) (by rw [← zd_2 hq, hqs]; first | rfl | (simp only [zBest]; rw [if_pos hix]; rfl) | (simp only [zBest]; rw [if_neg hix, hqi, if_neg (Int32.not_lt.mpr h73)]; rfl) | (simp only [zBest]; rw [if_neg hix, hqi, if_pos (Int32.not_le.mp h73)]; rfl)) ?_
      exact ih trivial
    · skip
      have hqn : 4 - 1 - q < zN S t := Nat.lt_of_not_le fun z => h20 (nI_le z (by omega))
      have hqs : q + 1 - (4 - zN S t) = (q - (4 - zN S t)) + 1 := by omega
      have hqi : zN S t - 1 - (q - (4 - zN S t)) = 4 - 1 - q := by omega
      refine j_aload_n C dL_way_23 rfl ?_
      refine j_iconst C (nI 1) dL_way_24 (by decide) ?_
      refine j_ialdN C (by assumption) dL_way_25 (by omega) (by decide) ?_
      refine j_top (S 1) (H0 1 (by decide)) ?_
      refine j_aload_n C dL_way_26 rfl ?_
      refine j_iload C dL_way_27 rfl ?_
      refine j_iload C dL_way_29 rfl ?_
      refine j_cSi C (c_L_condition _ ω γ M R ⟨g0, g1, g2, g3, g4, g5⟩ ⟨H0, H1, H2, H3⟩ Z ht (show 4 - 1 - q ≤ 4 by omega)) yc_L_condition mn_L_33 st_L_condition dL_way_31 rfl rfl (Nat.le_of_ble_eq_true rfl) (by decide) ?_
      refine j_top (nI (lCd S t (4 - 1 - q))) (by rw [lCd_of Z ht hqn]) ?_
      have hl12 := lCd_lt Z ht hqn
      have hcl := hst.2.2.2.2 _ hqn
      have hop := (Z.2.2.2.2.2.1 t ht).2 _ hqn
      refine j_iconst C (nI 3) dL_way_34 (by decide) ?_
      refine j_idivN C dL_way_35 (by omega) (by decide) (by decide) ?_
      refine j_top (S (307 + 10 * t + 1 + (4 - 1 - q))) (by rw [hcl.1]; congr 1; unfold lCd; have := hop.2; omega) ?_
      refine j_ishr C dL_way_36 ?_
      refine j_iconst C (nI 1) dL_way_37 (by decide) ?_
      refine j_iand C dL_way_38 ?_
      refine j_iconst C (nI 1) dL_way_39 (by decide) ?_
      refine j_icmp_ne C 85 dL_way_40 (by decide) (fun h40 => ?_) (fun h40 => ?_)
      · skip
        have hix : zIdx S (S (307 + 10 * t + 1 + (zN S t - 1 - (q - (4 - zN S t))))) = 0 := by rw [hqi, zIdx, if_neg h40]; rfl
        first | refine j_iincD C dL_way_85 rfl (by rw [hxn]; decide) ?_ | refine j_iinc C _ dL_way_85 rfl rfl (by rw [hxn]; decide) ?_
        refine j_goto C 7 dL_way_88 (by decide) ?_
        refine j_locs [0, 1, 2, 3, 4, 5, 6, 7, 8] (l' := [(0, .ref d), (1, .ref (d + 1)), (2, .ref (d + 2)), (3, .ref (d + 3)), (4, .int (nI t)), (5, .ref w), (6, .int (nI 0)), (7, .int (nI (zBest S (zC0 S V t) t (zN S t) (q + 1 - (4 - zN S t))))), (8, .int (nI (4 - (q + 1)) - nI 1))]) (by rw [← zd_2 hq, hqs]; first | rfl | (simp only [zBest]; rw [if_pos hix]; rfl) | (simp only [zBest]; rw [if_neg hix, hqi, if_neg (Int32.not_lt.mpr h73)]; rfl) | (simp only [zBest]; rw [if_neg hix, hqi, if_pos (Int32.not_le.mp h73)]; rfl)) ?_
        exact ih trivial
      · skip
        have hix : ¬ zIdx S (S (307 + 10 * t + 1 + (zN S t - 1 - (q - (4 - zN S t))))) = 0 := by rw [hqi, zIdx, if_pos h40]; decide
        refine j_aload_n C dL_way_43 rfl ?_
        refine j_aload_n C dL_way_44 rfl ?_
        refine j_aload_n C dL_way_45 rfl ?_
        refine j_aload_n C dL_way_46 rfl ?_
        refine j_iload C dL_way_47 rfl ?_
        refine j_aload C dL_way_49 rfl ?_
        refine j_iload C dL_way_51 rfl ?_
        refine j_iload C dL_way_53 rfl ?_
        refine j_cSi C (c_L_cost0 _ ω γ M R ⟨g0, g1, g2, g3, g4, g5⟩ ⟨H0, H1, H2, H3⟩ Z hw hV ht (Or.inr hqn)) yc_L_cost mn_L_43 st_L_cost dL_way_55 rfl rfl (Nat.le_of_ble_eq_true rfl) (by decide) ?_
        refine j_aload_n C dL_way_58 rfl ?_
        refine j_aload_n C dL_way_59 rfl ?_
        refine j_aload_n C dL_way_60 rfl ?_
        refine j_aload_n C dL_way_61 rfl ?_
        refine j_iload C dL_way_62 rfl ?_
        refine j_aload C dL_way_64 rfl ?_
        refine j_iload C dL_way_66 rfl ?_
        refine j_iload C dL_way_68 rfl ?_
        refine j_cSi C (c_L_cost0 _ ω γ M R ⟨g0, g1, g2, g3, g4, g5⟩ ⟨H0, H1, H2, H3⟩ Z hw hV ht hrg) yc_L_cost mn_L_43 st_L_cost dL_way_70 rfl rfl (Nat.le_of_ble_eq_true rfl) (by decide) ?_
        refine j_icmp_le C 81 dL_way_73 (by decide) (fun h73 => ?_) (fun h73 => ?_)
        · skip
          refine j_iload C dL_way_81 rfl ?_
          refine j_istore C dL_way_83 (by rw [hxn]; decide) ?_
          first | refine j_iincD C dL_way_85 rfl (by rw [hxn]; decide) ?_ | refine j_iinc C _ dL_way_85 rfl rfl (by rw [hxn]; decide) ?_
          refine j_goto C 7 dL_way_88 (by decide) ?_
          refine j_locs [0, 1, 2, 3, 4, 5, 6, 7, 8] (l' := [(0, .ref d), (1, .ref (d + 1)), (2, .ref (d + 2)), (3, .ref (d + 3)), (4, .int (nI t)), (5, .ref w), (6, .int (nI 0)), (7, .int (nI (zBest S (zC0 S V t) t (zN S t) (q + 1 - (4 - zN S t))))), (8, .int (nI (4 - (q + 1)) - nI 1))]) (by rw [← zd_2 hq, hqs]; first | rfl | (simp only [zBest]; rw [if_pos hix]; rfl) | (simp only [zBest]; rw [if_neg hix, hqi, if_neg (Int32.not_lt.mpr h73)]; rfl) | (simp only [zBest]; rw [if_neg hix, hqi, if_pos (Int32.not_le.mp h73)]; rfl)) ?_
          exact ih trivial
        · skip
          refine j_iload C dL_way_76 rfl ?_
          refine j_goto C 83 dL_way_78 (by decide) ?_
          refine j_istore C dL_way_83 (by rw [hxn]; decide) ?_
          first | refine j_iincD C dL_way_85 rfl (by rw [hxn]; decide) ?_ | refine j_iinc C _ dL_way_85 rfl rfl (by rw [hxn]; decide) ?_
          refine j_goto C 7 dL_way_88 (by decide) ?_
          refine j_locs [0, 1, 2, 3, 4, 5, 6, 7, 8] (l' := [(0, .ref d), (1, .ref (d + 1)), (2, .ref (d + 2)), (3, .ref (d + 3)), (4, .int (nI t)), (5, .ref w), (6, .int (nI 0)), (7, .int (nI (zBest S (zC0 S V t) t (zN S t) (q + 1 - (4 - zN S t))))), (8, .int (nI (4 - (q + 1)) - nI 1))]) (by rw [← zd_2 hq, hqs]; first | rfl | (simp only [zBest]; rw [if_pos hix]; rfl) | (simp only [zBest]; rw [if_neg hix, hqi, if_neg (Int32.not_lt.mpr h73)]; rfl) | (simp only [zBest]; rw [if_neg hix, hqi, if_pos (Int32.not_le.mp h73)]; rfl)) ?_
          exact ih trivial
  · skip
    refine j_iload C dL_way_7 rfl ?_
    refine j_if_lt C 91 dL_way_9 (by decide) (fun _ => ?_) (fun h => absurd (by decide) h)
    refine j_iload C dL_way_91 rfl ?_
    exact j_ireturn C E dL_way_93 (rfl) (by decide) (by decide) (⟨by rw [show 4 - (4 - zN S t) = zN S t by omega], rfl, rfl, rfl⟩)

set_option maxHeartbeats 4000000 in
set_option maxRecDepth 100000 in
theorem c_L_sort (l : Launch) (ω : jW) (γ : jG) (M : jM) (R : jR) {d r c : Nat} {S : Nat → Int32} (g : gD ω γ d) (H : lRd M d S r c) (Z : zRd S r c) {w : Nat} {V : Nat → Int32} (hw : jArr ω γ w 12 4) (hV : ∀ k, k < 4 → M w k = V k) {t : Nat} (ht : t < c) : Ct l ω yL_sort cL_sort 10 (some .int) 4 0 0 [.ref d, .ref (d + 1), .ref (d + 2), .ref (d + 3), .int (nI t), .ref w] γ M R (jx γ (some (.int (zCls S V t (zN S t) (zN S t)))) M R) := by
  refine Ct_of (by decide) (Nat.le_of_ble_eq_true rfl) rfl (jcat_of rfl) ?_
  intro X C E hnm hxl hxn
  subst hxl
  obtain ⟨g0, g1, g2, g3, g4, g5⟩ := g
  obtain ⟨H0, H1, H2, H3⟩ := H
  have hr0 : M d 0 = nI r := (H0 0 (by decide)).trans Z.1
  have hr30 := Z.2.1
  have hc6 := Z.2.2.2.2.1
  have hn4 := (lN4 Z ht).2.1
  refine j_iconst C (nI 0) dL_sort_0 (by decide) ?_
  refine j_istore C dL_sort_1 (by rw [hxn]; decide) ?_
  refine j_iconst C (nI 1) dL_sort_3 (by decide) ?_
  refine j_istore C dL_sort_4 (by rw [hxn]; decide) ?_
  refine j_iconst C (nI 0) dL_sort_6 (by decide) ?_
  refine j_istore C dL_sort_7 (by rw [hxn]; decide) ?_
  refine j_locs [0, 1, 2, 3, 4, 5, 6, 7, 8] (l' := [(0, .ref d), (1, .ref (d + 1)), (2, .ref (d + 2)), (3, .ref (d + 3)), (4, .int (nI t)), (5, .ref w), (6, .int (q3 (fun i => zShare S (zShr S V t (zN S t - zN S t + i))) 0)), (7, .int (rWorth 0)), (8, .int (nI 0))]) rfl ?_
  refine j_loop (zN S t) (fun q => [(0, .ref d), (1, .ref (d + 1)), (2, .ref (d + 2)), (3, .ref (d + 3)), (4, .int (nI t)), (5, .ref w), (6, .int (q3 (fun i => zShare S (zShr S V t (zN S t - zN S t + i))) q)), (7, .int (rWorth q)), (8, .int (nI q))]) (fun _ => M) (fun _ => R) (fun _ => True) trivial (fun q hq _ ih => ?_) (fun _ => ?_)
  · skip
    have e0 : zN S t - zN S t + q = q := by omega
    refine j_iload C dL_sort_9 rfl ?_
    refine j_aload_n C dL_sort_11 rfl ?_
    refine j_iload C dL_sort_12 rfl ?_
    refine j_cSi C (c_L_many _ ω γ M R ⟨g0, g1, g2, g3, g4, g5⟩ ⟨H0, H1, H2, H3⟩ Z ht) yc_L_many mn_L_40 st_L_many dL_sort_14 rfl rfl (Nat.le_of_ble_eq_true rfl) (by decide) ?_
    refine j_icmp_ge C 107 dL_sort_17 (by decide) (fun h => absurd h (nI_ge hq (by omega))) (fun _ => ?_)
    refine j_aload_n C dL_sort_20 rfl ?_
    refine j_iconst C (nI 2) dL_sort_21 (by decide) ?_
    refine j_ialdN C (by assumption) dL_sort_22 (by omega) (by decide) ?_
    refine j_top (S 2) (H0 2 (by decide)) ?_
    refine j_if_ne C 30 dL_sort_23 (by decide) (fun h23 => ?_) (fun h23 => ?_)
    · skip
      refine j_sipush C (nI 1000) dL_sort_30 (by decide) ?_
      refine j_aload_n C dL_sort_33 rfl ?_
      refine j_aload_n C dL_sort_34 rfl ?_
      refine j_aload_n C dL_sort_35 rfl ?_
      refine j_aload_n C dL_sort_36 rfl ?_
      refine j_iload C dL_sort_37 rfl ?_
      refine j_iload C dL_sort_39 rfl ?_
      refine j_cSi C (c_L_condition _ ω γ M R ⟨g0, g1, g2, g3, g4, g5⟩ ⟨H0, H1, H2, H3⟩ Z ht (show q ≤ 4 by omega)) yc_L_condition mn_L_33 st_L_condition dL_sort_41 rfl rfl (Nat.le_of_ble_eq_true rfl) (by decide) ?_
      refine j_top (nI (lCd S t q)) (by rw [lCd_of Z ht hq]) ?_
      refine j_aload C dL_sort_44 rfl ?_
      refine j_iload C dL_sort_46 rfl ?_
      refine j_ialdN C (by assumption) dL_sort_48 (by omega) (by decide) ?_
      refine j_top (V q) (hV q (by omega)) ?_
      refine j_iconst C (nI 0) dL_sort_49 (by decide) ?_
      refine j_cSi C (c_L_weights0 _ ω γ M R ⟨g0, g1, g2, g3, g4, g5⟩ ⟨H0, H1, H2, H3⟩ Z ht hq) yc_L_weights mn_L_36 st_L_weights dL_sort_50 rfl rfl (Nat.le_of_ble_eq_true rfl) (by decide) ?_
      refine j_imul C dL_sort_53 ?_
      refine j_aload_n C dL_sort_54 rfl ?_
      refine j_iconst C (nI 2) dL_sort_55 (by decide) ?_
      refine j_ialdN C (by assumption) dL_sort_56 (by omega) (by decide) ?_
      refine j_top (S 2) (H0 2 (by decide)) ?_
      refine j_idiv C dL_sort_57 (h23) ?_
      refine j_istore C dL_sort_58 (by rw [hxn]; decide) ?_
      refine j_iload C dL_sort_60 rfl ?_
      refine j_iload C dL_sort_62 rfl ?_
      refine j_iload C dL_sort_64 rfl ?_
      refine j_aload_n C dL_sort_66 rfl ?_
      refine j_bipush C (nI 11) dL_sort_67 (by decide) ?_
      refine j_ialdN C (by assumption) dL_sort_69 (by omega) (by decide) ?_
      refine j_top (S 11) (H0 11 (by decide)) ?_
      refine j_icmp_ge C 77 dL_sort_70 (by decide) (fun h70 => ?_) (fun h70 => ?_)
      · skip
        refine j_iload C dL_sort_77 rfl ?_
        refine j_aload_n C dL_sort_79 rfl ?_
        refine j_bipush C (nI 12) dL_sort_80 (by decide) ?_
        refine j_ialdN C (by assumption) dL_sort_82 (by omega) (by decide) ?_
        refine j_top (S 12) (H0 12 (by decide)) ?_
        refine j_icmp_ge C 90 dL_sort_83 (by decide) (fun h83 => ?_) (fun h83 => ?_)
        · skip
          refine j_iconst C (nI 2) dL_sort_90 (by decide) ?_
          refine j_imul C dL_sort_91 ?_
          refine j_iadd C dL_sort_92 ?_
          refine j_top (q3 (fun i => zShare S (zShr S V t (zN S t - zN S t + i))) (q + 1)) (by rw [q3_s]; simp only [e0, zShr, zShare]; (first | simp only [if_pos h23] | simp only [if_neg h23]); first | rw [if_neg h70] | rw [if_pos h70, if_neg h83] | rw [if_pos h70, if_pos h83]) ?_
          refine j_istore C dL_sort_93 (by rw [hxn]; decide) ?_
          refine j_iload C dL_sort_95 rfl ?_
          refine j_iconst C (nI 3) dL_sort_97 (by decide) ?_
          refine j_imul C dL_sort_98 ?_
          refine j_istore C dL_sort_99 (by rw [hxn]; decide) ?_
          first | refine j_iinc1 C dL_sort_101 rfl (by rw [hxn]; decide) ?_ | refine j_iinc C _ dL_sort_101 rfl rfl (by rw [hxn]; decide) ?_
          refine j_goto C 9 dL_sort_104 (by decide) ?_
          refine j_locs [0, 1, 2, 3, 4, 5, 6, 7, 8] rfl ?_
          exact ih trivial
        · skip
          refine j_iconst C (nI 1) dL_sort_86 (by decide) ?_
          refine j_goto C 91 dL_sort_87 (by decide) ?_
          refine j_imul C dL_sort_91 ?_
          refine j_iadd C dL_sort_92 ?_
          refine j_top (q3 (fun i => zShare S (zShr S V t (zN S t - zN S t + i))) (q + 1)) (by rw [q3_s]; simp only [e0, zShr, zShare]; (first | simp only [if_pos h23] | simp only [if_neg h23]); first | rw [if_neg h70] | rw [if_pos h70, if_neg h83] | rw [if_pos h70, if_pos h83]) ?_
          refine j_istore C dL_sort_93 (by rw [hxn]; decide) ?_
          refine j_iload C dL_sort_95 rfl ?_
          refine j_iconst C (nI 3) dL_sort_97 (by decide) ?_
          refine j_imul C dL_sort_98 ?_
          refine j_istore C dL_sort_99 (by rw [hxn]; decide) ?_
          first | refine j_iinc1 C dL_sort_101 rfl (by rw [hxn]; decide) ?_ | refine j_iinc C _ dL_sort_101 rfl rfl (by rw [hxn]; decide) ?_
          refine j_goto C 9 dL_sort_104 (by decide) ?_
          refine j_locs [0, 1, 2, 3, 4, 5, 6, 7, 8] rfl ?_
          exact ih trivial
      · skip
        refine j_iconst C (nI 0) dL_sort_73 (by decide) ?_
        refine j_goto C 91 dL_sort_74 (by decide) ?_
        refine j_imul C dL_sort_91 ?_
        refine j_iadd C dL_sort_92 ?_
        refine j_top (q3 (fun i => zShare S (zShr S V t (zN S t - zN S t + i))) (q + 1)) (by rw [q3_s]; simp only [e0, zShr, zShare]; (first | simp only [if_pos h23] | simp only [if_neg h23]); first | rw [if_neg h70] | rw [if_pos h70, if_neg h83] | rw [if_pos h70, if_pos h83]) ?_
        refine j_istore C dL_sort_93 (by rw [hxn]; decide) ?_
        refine j_iload C dL_sort_95 rfl ?_
        refine j_iconst C (nI 3) dL_sort_97 (by decide) ?_
        refine j_imul C dL_sort_98 ?_
        refine j_istore C dL_sort_99 (by rw [hxn]; decide) ?_
        first | refine j_iinc1 C dL_sort_101 rfl (by rw [hxn]; decide) ?_ | refine j_iinc C _ dL_sort_101 rfl rfl (by rw [hxn]; decide) ?_
        refine j_goto C 9 dL_sort_104 (by decide) ?_
        refine j_locs [0, 1, 2, 3, 4, 5, 6, 7, 8] rfl ?_
        exact ih trivial
    · skip
      refine j_iconst C (nI 0) dL_sort_26 (by decide) ?_
      refine j_goto C 58 dL_sort_27 (by decide) ?_
      refine j_istore C dL_sort_58 (by rw [hxn]; decide) ?_
      refine j_iload C dL_sort_60 rfl ?_
      refine j_iload C dL_sort_62 rfl ?_
      refine j_iload C dL_sort_64 rfl ?_
      refine j_aload_n C dL_sort_66 rfl ?_
      refine j_bipush C (nI 11) dL_sort_67 (by decide) ?_
      refine j_ialdN C (by assumption) dL_sort_69 (by omega) (by decide) ?_
      refine j_top (S 11) (H0 11 (by decide)) ?_
      refine j_icmp_ge C 77 dL_sort_70 (by decide) (fun h70 => ?_) (fun h70 => ?_)
      · skip
        refine j_iload C dL_sort_77 rfl ?_
        refine j_aload_n C dL_sort_79 rfl ?_
        refine j_bipush C (nI 12) dL_sort_80 (by decide) ?_
        refine j_ialdN C (by assumption) dL_sort_82 (by omega) (by decide) ?_
        refine j_top (S 12) (H0 12 (by decide)) ?_
        refine j_icmp_ge C 90 dL_sort_83 (by decide) (fun h83 => ?_) (fun h83 => ?_)
        · skip
          refine j_iconst C (nI 2) dL_sort_90 (by decide) ?_
          refine j_imul C dL_sort_91 ?_
          refine j_iadd C dL_sort_92 ?_
          refine j_top (q3 (fun i => zShare S (zShr S V t (zN S t - zN S t + i))) (q + 1)) (by rw [q3_s]; simp only [e0, zShr, zShare]; (first | simp only [if_pos h23] | simp only [if_neg h23]); first | rw [if_neg h70] | rw [if_pos h70, if_neg h83] | rw [if_pos h70, if_pos h83]) ?_
          refine j_istore C dL_sort_93 (by rw [hxn]; decide) ?_
          refine j_iload C dL_sort_95 rfl ?_
          refine j_iconst C (nI 3) dL_sort_97 (by decide) ?_
          refine j_imul C dL_sort_98 ?_
          refine j_istore C dL_sort_99 (by rw [hxn]; decide) ?_
          first | refine j_iinc1 C dL_sort_101 rfl (by rw [hxn]; decide) ?_ | refine j_iinc C _ dL_sort_101 rfl rfl (by rw [hxn]; decide) ?_
          refine j_goto C 9 dL_sort_104 (by decide) ?_
          refine j_locs [0, 1, 2, 3, 4, 5, 6, 7, 8] rfl ?_
          exact ih trivial
        · skip
          refine j_iconst C (nI 1) dL_sort_86 (by decide) ?_
          refine j_goto C 91 dL_sort_87 (by decide) ?_
          refine j_imul C dL_sort_91 ?_
          refine j_iadd C dL_sort_92 ?_
          refine j_top (q3 (fun i => zShare S (zShr S V t (zN S t - zN S t + i))) (q + 1)) (by rw [q3_s]; simp only [e0, zShr, zShare]; (first | simp only [if_pos h23] | simp only [if_neg h23]); first | rw [if_neg h70] | rw [if_pos h70, if_neg h83] | rw [if_pos h70, if_pos h83]) ?_
          refine j_istore C dL_sort_93 (by rw [hxn]; decide) ?_
          refine j_iload C dL_sort_95 rfl ?_
          refine j_iconst C (nI 3) dL_sort_97 (by decide) ?_
          refine j_imul C dL_sort_98 ?_
          refine j_istore C dL_sort_99 (by rw [hxn]; decide) ?_
          first | refine j_iinc1 C dL_sort_101 rfl (by rw [hxn]; decide) ?_ | refine j_iinc C _ dL_sort_101 rfl rfl (by rw [hxn]; decide) ?_
          refine j_goto C 9 dL_sort_104 (by decide) ?_
          refine j_locs [0, 1, 2, 3, 4, 5, 6, 7, 8] rfl ?_
          exact ih trivial
      · skip
        refine j_iconst C (nI 0) dL_sort_73 (by decide) ?_
        refine j_goto C 91 dL_sort_74 (by decide) ?_
        refine j_imul C dL_sort_91 ?_
        refine j_iadd C dL_sort_92 ?_
        refine j_top (q3 (fun i => zShare S (zShr S V t (zN S t - zN S t + i))) (q + 1)) (by rw [q3_s]; simp only [e0, zShr, zShare]; (first | simp only [if_pos h23] | simp only [if_neg h23]); first | rw [if_neg h70] | rw [if_pos h70, if_neg h83] | rw [if_pos h70, if_pos h83]) ?_
        refine j_istore C dL_sort_93 (by rw [hxn]; decide) ?_
        refine j_iload C dL_sort_95 rfl ?_
        refine j_iconst C (nI 3) dL_sort_97 (by decide) ?_
        refine j_imul C dL_sort_98 ?_
        refine j_istore C dL_sort_99 (by rw [hxn]; decide) ?_
        first | refine j_iinc1 C dL_sort_101 rfl (by rw [hxn]; decide) ?_ | refine j_iinc C _ dL_sort_101 rfl rfl (by rw [hxn]; decide) ?_
        refine j_goto C 9 dL_sort_104 (by decide) ?_
        refine j_locs [0, 1, 2, 3, 4, 5, 6, 7, 8] rfl ?_
        exact ih trivial
  · skip
    refine j_iload C dL_sort_9 rfl ?_
    refine j_aload_n C dL_sort_11 rfl ?_
    refine j_iload C dL_sort_12 rfl ?_
    refine j_cSi C (c_L_many _ ω γ M R ⟨g0, g1, g2, g3, g4, g5⟩ ⟨H0, H1, H2, H3⟩ Z ht) yc_L_many mn_L_40 st_L_many dL_sort_14 rfl rfl (Nat.le_of_ble_eq_true rfl) (by decide) ?_
    refine j_icmp_ge C 107 dL_sort_17 (by decide) (fun _ => ?_) (fun h => absurd (Int32.le_refl _) h)
    refine j_iload C dL_sort_107 rfl ?_
    exact j_ireturn C E dL_sort_109 (rfl) (by decide) (by decide) (⟨by rw [zCls_q3 S V t (zN S t) (zN S t) (Nat.le_refl _)], rfl, rfl, rfl⟩)

set_option maxHeartbeats 4000000 in
set_option maxRecDepth 100000 in
theorem c_L_plan (l : Launch) (ω : jW) (γ : jG) (M : jM) (R : jR) {d n : Nat} {S : Nat → Int32} (g : gD ω γ d) (hn : M d 4 = nI n) (hn8 : n ≤ 8) (P : lPl M d S n) (x : Int32) : Ct l ω yL_plan cL_plan 5 (some .int) 1 0 0 [.ref d, .ref (d + 4), .int x] γ M R (jx γ (some (.int (lLast (zPlc S x) n))) M R) := by
  refine Ct_of (by decide) (Nat.le_of_ble_eq_true rfl) rfl (jcat_of rfl) ?_
  intro X C E hnm hxl hxn
  subst hxl
  obtain ⟨g0, g1, g2, g3, g4, g5⟩ := g
  refine j_iconst C (-1) dL_plan_0 (by decide) ?_
  refine j_istore_n C dL_plan_1 (by rw [hxn]; decide) ?_
  refine j_iconst C (nI 0) dL_plan_2 (by decide) ?_
  refine j_istore C dL_plan_3 (by rw [hxn]; decide) ?_
  refine j_loop n (fun q => [(0, .ref d), (1, .ref (d + 4)), (2, .int x), (3, .int (lLast (zPlc S x) q)), (4, .int (nI q))]) (fun _ => M) (fun _ => R) (fun _ => True) trivial (fun q hq _ ih => ?_) (fun _ => ?_)
  · skip
    refine j_iload C dL_plan_5 rfl ?_
    refine j_aload_n C dL_plan_7 rfl ?_
    refine j_iconst C (nI 4) dL_plan_8 (by decide) ?_
    refine j_ialdN C (by assumption) dL_plan_9 (by omega) (by decide) ?_
    refine j_top (nI n) (hn) ?_
    refine j_icmp_ge C 37 dL_plan_10 (by decide) (fun h => absurd h (nI_ge hq (by omega))) (fun _ => ?_)
    refine j_aload_n C dL_plan_13 rfl ?_
    refine j_bipush C (nI 8) dL_plan_14 (by decide) ?_
    refine j_iload C dL_plan_16 rfl ?_
    first | with_reducible refine j_imulN C dL_plan_18 ?_ | refine j_imul C dL_plan_18 ?_
    refine j_ialdN C (by assumption) dL_plan_19 (by omega) (by decide) ?_
    refine j_top (S (367 + 9 * q + 0)) ((P q hq).1 0 (by decide)) ?_
    refine j_iload_n C dL_plan_20 rfl ?_
    refine j_icmp_ne C 29 dL_plan_21 (by decide) (fun h21 => ?_) (fun h21 => ?_)
    · skip
      refine j_iload_n C dL_plan_29 rfl ?_
      refine j_top (lLast (zPlc S x) (q + 1)) (by simp only [lLast]; first | rw [if_pos (by simpa [zPlc] using h21)] | rw [if_neg (by simpa [zPlc] using h21)]) ?_
      refine j_istore_n C dL_plan_30 (by rw [hxn]; decide) ?_
      first | refine j_iinc1 C dL_plan_31 rfl (by rw [hxn]; decide) ?_ | refine j_iinc C _ dL_plan_31 rfl rfl (by rw [hxn]; decide) ?_
      refine j_goto C 5 dL_plan_34 (by decide) ?_
      exact ih trivial
    · skip
      refine j_iload C dL_plan_24 rfl ?_
      refine j_goto C 30 dL_plan_26 (by decide) ?_
      refine j_top (lLast (zPlc S x) (q + 1)) (by simp only [lLast]; first | rw [if_pos (by simpa [zPlc] using h21)] | rw [if_neg (by simpa [zPlc] using h21)]) ?_
      refine j_istore_n C dL_plan_30 (by rw [hxn]; decide) ?_
      first | refine j_iinc1 C dL_plan_31 rfl (by rw [hxn]; decide) ?_ | refine j_iinc C _ dL_plan_31 rfl rfl (by rw [hxn]; decide) ?_
      refine j_goto C 5 dL_plan_34 (by decide) ?_
      exact ih trivial
  · skip
    refine j_iload C dL_plan_5 rfl ?_
    refine j_aload_n C dL_plan_7 rfl ?_
    refine j_iconst C (nI 4) dL_plan_8 (by decide) ?_
    refine j_ialdN C (by assumption) dL_plan_9 (by omega) (by decide) ?_
    refine j_top (nI n) (hn) ?_
    refine j_icmp_ge C 37 dL_plan_10 (by decide) (fun _ => ?_) (fun h => absurd (Int32.le_refl _) h)
    refine j_iload_n C dL_plan_37 rfl ?_
    exact j_ireturn C E dL_plan_38 (rfl) (by decide) (by decide) (⟨rfl, rfl, rfl, rfl⟩)

set_option maxHeartbeats 4000000 in
set_option maxRecDepth 100000 in
theorem c_L_takeOut (l : Launch) (ω : jW) (γ : jG) (M : jM) (R : jR) {d n : Nat} {S : Nat → Int32} (g : gD ω γ d) (hn : M d 4 = nI n) (hn8 : n ≤ 8) {p : Nat} (hp : p < n) : Ct l ω yL_takeOut cL_takeOut 4 none 1 0 0 [.ref d, .ref (d + 4), .int (nI p)] γ M R (jx γ none (lOut M d n p) R) := by
  refine Ct_of (by decide) (Nat.le_of_ble_eq_true rfl) rfl (jcat_of rfl) ?_
  intro X C E hnm hxl hxn
  subst hxl
  obtain ⟨g0, g1, g2, g3, g4, g5⟩ := g
  refine j_aload_n C dL_takeOut_0 rfl ?_
  refine j_iconst C (nI 4) dL_takeOut_1 (by decide) ?_
  refine j_dup2 C dL_takeOut_2 rfl rfl ?_
  refine j_ialdN C (by assumption) dL_takeOut_3 (by omega) (by decide) ?_
  refine j_top (nI n) hn ?_
  refine j_iconst C (nI 1) dL_takeOut_4 (by decide) ?_
  refine j_isubN C dL_takeOut_5 (by omega) ?_
  refine j_iastN C (by assumption) dL_takeOut_6 (by omega) (by decide) ?_
  refine j_mem (lOutK M d n p 0) (lOutK_0 _ _ _ _) ?_
  refine j_bipush C (nI 8) dL_takeOut_7 (by decide) ?_
  refine j_iload_n C dL_takeOut_9 rfl ?_
  first | with_reducible refine j_imulN C dL_takeOut_10 ?_ | refine j_imul C dL_takeOut_10 ?_
  refine j_istore_n C dL_takeOut_11 (by rw [hxn]; decide) ?_
  refine j_loop (8 * (n - 1 - p)) (fun q => [(0, .ref d), (1, .ref (d + 4)), (2, .int (nI p)), (3, .int (nI (8 * p + q)))]) (fun q => lOutK M d n p q) (fun _ => R) (fun _ => True) trivial (fun q hq _ ih => ?_) (fun _ => ?_)
  · skip
    refine j_iload_n C dL_takeOut_12 rfl ?_
    refine j_bipush C (nI 8) dL_takeOut_13 (by decide) ?_
    refine j_aload_n C dL_takeOut_15 rfl ?_
    refine j_iconst C (nI 4) dL_takeOut_16 (by decide) ?_
    refine j_ialdN C (by assumption) dL_takeOut_17 (by omega) (by decide) ?_
    refine j_top (nI (n - 1)) (lOutK_4 _ _ _ _ _) ?_
    first | with_reducible refine j_imulN C dL_takeOut_18 ?_ | refine j_imul C dL_takeOut_18 ?_
    refine j_icmp_ge C 37 dL_takeOut_19 (by decide) (fun h => absurd h (nI_ge (by omega) (by omega))) (fun _ => ?_)
    refine j_aload_n C dL_takeOut_22 rfl ?_
    refine j_iload_n C dL_takeOut_23 rfl ?_
    refine j_aload_n C dL_takeOut_24 rfl ?_
    refine j_iload_n C dL_takeOut_25 rfl ?_
    refine j_bipush C (nI 8) dL_takeOut_26 (by decide) ?_
    first | with_reducible refine j_iaddN C dL_takeOut_28 ?_ | refine j_iadd C dL_takeOut_28 ?_
    refine j_ialdN C (by assumption) dL_takeOut_29 (by omega) (by decide) ?_
    refine j_iastN C (by assumption) dL_takeOut_30 (by omega) (by decide) ?_
    refine j_mem (lOutK M d n p (q + 1)) (lOutK_s _ _ _ _ _) ?_
    first | refine j_iinc1 C dL_takeOut_31 rfl (by rw [hxn]; decide) ?_ | refine j_iinc C _ dL_takeOut_31 rfl rfl (by rw [hxn]; decide) ?_
    refine j_goto C 12 dL_takeOut_34 (by decide) ?_
    exact ih trivial
  · skip
    refine j_iload_n C dL_takeOut_12 rfl ?_
    refine j_bipush C (nI 8) dL_takeOut_13 (by decide) ?_
    refine j_aload_n C dL_takeOut_15 rfl ?_
    refine j_iconst C (nI 4) dL_takeOut_16 (by decide) ?_
    refine j_ialdN C (by assumption) dL_takeOut_17 (by omega) (by decide) ?_
    refine j_top (nI (n - 1)) (lOutK_4 _ _ _ _ _) ?_
    first | with_reducible refine j_imulN C dL_takeOut_18 ?_ | refine j_imul C dL_takeOut_18 ?_
    refine j_icmp_ge C 37 dL_takeOut_19 (by decide) (fun _ => ?_) (fun h => absurd (by rw [show 8 * p + 8 * (n - 1 - p) = 8 * (n - 1) by omega]; exact Int32.le_refl _) h)
    exact j_return C E dL_takeOut_37 (by decide) (by decide) (⟨rfl, rfl, lOutK_e _ hp, rfl⟩)

set_option maxHeartbeats 4000000 in
set_option maxRecDepth 100000 in
theorem c_L_drops (l : Launch) (ω : jW) (γ : jG) (M : jM) (R : jR) {d n : Nat} {S : Nat → Int32} (g : gD ω γ d) (hn : M d 4 = nI n) (hn8 : n ≤ 8) (P : lPl M d S n) (Q : zPn S n) : Ct l ω yL_drops cL_drops 5 (some .int) 1 0 0 [.ref d, .ref (d + 4)] γ M R (jx γ (some (.int (zMI (zMin S n)))) M R) := by
  refine Ct_of (by decide) (Nat.le_of_ble_eq_true rfl) rfl (jcat_of rfl) ?_
  intro X C E hnm hxl hxn
  subst hxl
  obtain ⟨g0, g1, g2, g3, g4, g5⟩ := g
  refine j_iconst C (-1) dL_drops_0 (by decide) ?_
  refine j_istore_n C dL_drops_1 (by rw [hxn]; decide) ?_
  refine j_iconst C (nI 0) dL_drops_2 (by decide) ?_
  refine j_istore_n C dL_drops_3 (by rw [hxn]; decide) ?_
  refine j_loop n (fun q => [(0, .ref d), (1, .ref (d + 4)), (2, .int (zMI (zMin S q))), (3, .int (nI q))]) (fun _ => M) (fun _ => R) (fun _ => True) trivial (fun q hq _ ih => ?_) (fun _ => ?_)
  · skip
    obtain ⟨u, s, hu, hs, eu, es, e6⟩ := lPl_6 P Q hq
    refine j_iload_n C dL_drops_4 rfl ?_
    refine j_aload_n C dL_drops_5 rfl ?_
    refine j_iconst C (nI 4) dL_drops_6 (by decide) ?_
    refine j_ialdN C (by assumption) dL_drops_7 (by omega) (by decide) ?_
    refine j_top (nI n) (hn) ?_
    refine j_icmp_ge C 112 dL_drops_8 (by decide) (fun h => absurd h (nI_ge hq (by omega))) (fun _ => ?_)
    rcases hz : zMin S q with _ | f
    · skip
      dsimp only [zMI]
      refine j_iload_n C dL_drops_11 rfl ?_
      refine j_if_lt C 74 dL_drops_12 (by decide) (fun _ => ?_) (fun h => absurd ((show (-1 : Int32) < 0 by decide)) h)
      refine j_iconst C (nI 1) dL_drops_74 (by decide) ?_
      refine j_goto C 79 dL_drops_75 (by decide) ?_
      refine j_istore C dL_drops_79 (by rw [hxn]; decide) ?_
      refine j_aload_n C dL_drops_81 rfl ?_
      refine j_bipush C (nI 8) dL_drops_82 (by decide) ?_
      refine j_iload_n C dL_drops_84 rfl ?_
      first | with_reducible refine j_imulN C dL_drops_85 ?_ | refine j_imul C dL_drops_85 ?_
      refine j_bipush C (nI 6) dL_drops_86 (by decide) ?_
      first | with_reducible refine j_iaddN C dL_drops_88 ?_ | refine j_iadd C dL_drops_88 ?_
      refine j_ialdN C (by assumption) dL_drops_89 (by omega) (by decide) ?_
      refine j_top (nI (u + 2 * s)) e6 ?_
      refine j_iconst C (nI 2) dL_drops_90 (by decide) ?_
      refine j_iremN C dL_drops_91 (by omega) (by decide) (by decide) ?_
      refine j_top (nI u) (by congr 1; omega) ?_
      refine j_if_ne C 104 dL_drops_92 (by decide) (fun h92 => ?_) (fun h92 => ?_)
      · skip
        refine j_iload_n C dL_drops_104 rfl ?_
        refine j_top (zMI (zMin S (q + 1))) (by first | exact absurd h97 (by decide) | exact absurd rfl h97 | (rw [zMin_none hz, if_pos (eu.trans h92)] <;> rfl) | (rw [zMin_none hz, if_neg (fun z => h92 (eu.symm.trans z))] <;> rfl) | (rw [zMin_some hz, if_neg (fun z => h92 (eu.symm.trans z.1))] <;> rfl) | (rw [zMin_some hz, if_pos ⟨eu.trans h92, Or.inl h31⟩] <;> rfl) | (rw [zMin_some hz, if_pos ⟨eu.trans h92, Or.inr ⟨h50, Int32.not_le.mp h71⟩⟩] <;> rfl) | (rw [zMin_some hz, if_neg (fun z => z.2.elim h31 (fun w => h50 w.1))] <;> rfl) | (rw [zMin_some hz, if_neg (fun z => z.2.elim h31 (fun w => absurd w.2 (Int32.not_lt.mpr h71)))] <;> rfl)) ?_
        refine j_istore_n C dL_drops_105 (by rw [hxn]; decide) ?_
        first | refine j_iinc1 C dL_drops_106 rfl (by rw [hxn]; decide) ?_ | refine j_iinc C _ dL_drops_106 rfl rfl (by rw [hxn]; decide) ?_
        refine j_goto C 4 dL_drops_109 (by decide) ?_
        refine j_locs [0, 1, 2, 3] rfl ?_
        exact ih trivial
      · skip
        refine j_iload C dL_drops_95 rfl ?_
        refine j_if_eq C 104 dL_drops_97 (by decide) (fun h97 => ?_) (fun h97 => ?_)
        · skip
          refine j_iload_n C dL_drops_104 rfl ?_
          refine j_top (zMI (zMin S (q + 1))) (by first | exact absurd h97 (by decide) | exact absurd rfl h97 | (rw [zMin_none hz, if_pos (eu.trans h92)] <;> rfl) | (rw [zMin_none hz, if_neg (fun z => h92 (eu.symm.trans z))] <;> rfl) | (rw [zMin_some hz, if_neg (fun z => h92 (eu.symm.trans z.1))] <;> rfl) | (rw [zMin_some hz, if_pos ⟨eu.trans h92, Or.inl h31⟩] <;> rfl) | (rw [zMin_some hz, if_pos ⟨eu.trans h92, Or.inr ⟨h50, Int32.not_le.mp h71⟩⟩] <;> rfl) | (rw [zMin_some hz, if_neg (fun z => z.2.elim h31 (fun w => h50 w.1))] <;> rfl) | (rw [zMin_some hz, if_neg (fun z => z.2.elim h31 (fun w => absurd w.2 (Int32.not_lt.mpr h71)))] <;> rfl)) ?_
          refine j_istore_n C dL_drops_105 (by rw [hxn]; decide) ?_
          first | refine j_iinc1 C dL_drops_106 rfl (by rw [hxn]; decide) ?_ | refine j_iinc C _ dL_drops_106 rfl rfl (by rw [hxn]; decide) ?_
          refine j_goto C 4 dL_drops_109 (by decide) ?_
          refine j_locs [0, 1, 2, 3] rfl ?_
          exact ih trivial
        · skip
          refine j_iload_n C dL_drops_100 rfl ?_
          refine j_goto C 105 dL_drops_101 (by decide) ?_
          refine j_top (zMI (zMin S (q + 1))) (by first | exact absurd h97 (by decide) | exact absurd rfl h97 | (rw [zMin_none hz, if_pos (eu.trans h92)] <;> rfl) | (rw [zMin_none hz, if_neg (fun z => h92 (eu.symm.trans z))] <;> rfl) | (rw [zMin_some hz, if_neg (fun z => h92 (eu.symm.trans z.1))] <;> rfl) | (rw [zMin_some hz, if_pos ⟨eu.trans h92, Or.inl h31⟩] <;> rfl) | (rw [zMin_some hz, if_pos ⟨eu.trans h92, Or.inr ⟨h50, Int32.not_le.mp h71⟩⟩] <;> rfl) | (rw [zMin_some hz, if_neg (fun z => z.2.elim h31 (fun w => h50 w.1))] <;> rfl) | (rw [zMin_some hz, if_neg (fun z => z.2.elim h31 (fun w => absurd w.2 (Int32.not_lt.mpr h71)))] <;> rfl)) ?_
          refine j_istore_n C dL_drops_105 (by rw [hxn]; decide) ?_
          first | refine j_iinc1 C dL_drops_106 rfl (by rw [hxn]; decide) ?_ | refine j_iinc C _ dL_drops_106 rfl rfl (by rw [hxn]; decide) ?_
          refine j_goto C 4 dL_drops_109 (by decide) ?_
          refine j_locs [0, 1, 2, 3] rfl ?_
          exact ih trivial
    · skip
      have hf := zMin_lt hz
      dsimp only [zMI]
      refine j_iload_n C dL_drops_11 rfl ?_
      refine j_if_lt C 74 dL_drops_12 (by decide) (fun h => absurd h (nI_pos (by omega))) (fun _ => ?_)
      refine j_aload_n C dL_drops_15 rfl ?_
      refine j_bipush C (nI 8) dL_drops_16 (by decide) ?_
      refine j_iload_n C dL_drops_18 rfl ?_
      first | with_reducible refine j_imulN C dL_drops_19 ?_ | refine j_imul C dL_drops_19 ?_
      refine j_iconst C (nI 5) dL_drops_20 (by decide) ?_
      first | with_reducible refine j_iaddN C dL_drops_21 ?_ | refine j_iadd C dL_drops_21 ?_
      refine j_ialdN C (by assumption) dL_drops_22 (by omega) (by decide) ?_
      refine j_top (S (367 + 9 * q + 5)) ((P q hq).1 5 (by decide)) ?_
      refine j_aload_n C dL_drops_23 rfl ?_
      refine j_bipush C (nI 8) dL_drops_24 (by decide) ?_
      refine j_iload_n C dL_drops_26 rfl ?_
      first | with_reducible refine j_imulN C dL_drops_27 ?_ | refine j_imul C dL_drops_27 ?_
      refine j_iconst C (nI 5) dL_drops_28 (by decide) ?_
      first | with_reducible refine j_iaddN C dL_drops_29 ?_ | refine j_iadd C dL_drops_29 ?_
      refine j_ialdN C (by assumption) dL_drops_30 (by omega) (by decide) ?_
      refine j_top (S (367 + 9 * f + 5)) ((P f (by omega)).1 5 (by decide)) ?_
      refine j_icmp_lt C 74 dL_drops_31 (by decide) (fun h31 => ?_) (fun h31 => ?_)
      · skip
        refine j_iconst C (nI 1) dL_drops_74 (by decide) ?_
        refine j_goto C 79 dL_drops_75 (by decide) ?_
        refine j_istore C dL_drops_79 (by rw [hxn]; decide) ?_
        refine j_aload_n C dL_drops_81 rfl ?_
        refine j_bipush C (nI 8) dL_drops_82 (by decide) ?_
        refine j_iload_n C dL_drops_84 rfl ?_
        first | with_reducible refine j_imulN C dL_drops_85 ?_ | refine j_imul C dL_drops_85 ?_
        refine j_bipush C (nI 6) dL_drops_86 (by decide) ?_
        first | with_reducible refine j_iaddN C dL_drops_88 ?_ | refine j_iadd C dL_drops_88 ?_
        refine j_ialdN C (by assumption) dL_drops_89 (by omega) (by decide) ?_
        refine j_top (nI (u + 2 * s)) e6 ?_
        refine j_iconst C (nI 2) dL_drops_90 (by decide) ?_
        refine j_iremN C dL_drops_91 (by omega) (by decide) (by decide) ?_
        refine j_top (nI u) (by congr 1; omega) ?_
        refine j_if_ne C 104 dL_drops_92 (by decide) (fun h92 => ?_) (fun h92 => ?_)
        · skip
          refine j_iload_n C dL_drops_104 rfl ?_
          refine j_top (zMI (zMin S (q + 1))) (by first | exact absurd h97 (by decide) | exact absurd rfl h97 | (rw [zMin_none hz, if_pos (eu.trans h92)] <;> rfl) | (rw [zMin_none hz, if_neg (fun z => h92 (eu.symm.trans z))] <;> rfl) | (rw [zMin_some hz, if_neg (fun z => h92 (eu.symm.trans z.1))] <;> rfl) | (rw [zMin_some hz, if_pos ⟨eu.trans h92, Or.inl h31⟩] <;> rfl) | (rw [zMin_some hz, if_pos ⟨eu.trans h92, Or.inr ⟨h50, Int32.not_le.mp h71⟩⟩] <;> rfl) | (rw [zMin_some hz, if_neg (fun z => z.2.elim h31 (fun w => h50 w.1))] <;> rfl) | (rw [zMin_some hz, if_neg (fun z => z.2.elim h31 (fun w => absurd w.2 (Int32.not_lt.mpr h71)))] <;> rfl)) ?_
          refine j_istore_n C dL_drops_105 (by rw [hxn]; decide) ?_
          first | refine j_iinc1 C dL_drops_106 rfl (by rw [hxn]; decide) ?_ | refine j_iinc C _ dL_drops_106 rfl rfl (by rw [hxn]; decide) ?_
          refine j_goto C 4 dL_drops_109 (by decide) ?_
          refine j_locs [0, 1, 2, 3] rfl ?_
          exact ih trivial
        · skip
          refine j_iload C dL_drops_95 rfl ?_
          refine j_if_eq C 104 dL_drops_97 (by decide) (fun h97 => ?_) (fun h97 => ?_)
          · skip
            refine j_iload_n C dL_drops_104 rfl ?_
            refine j_top (zMI (zMin S (q + 1))) (by first | exact absurd h97 (by decide) | exact absurd rfl h97 | (rw [zMin_none hz, if_pos (eu.trans h92)] <;> rfl) | (rw [zMin_none hz, if_neg (fun z => h92 (eu.symm.trans z))] <;> rfl) | (rw [zMin_some hz, if_neg (fun z => h92 (eu.symm.trans z.1))] <;> rfl) | (rw [zMin_some hz, if_pos ⟨eu.trans h92, Or.inl h31⟩] <;> rfl) | (rw [zMin_some hz, if_pos ⟨eu.trans h92, Or.inr ⟨h50, Int32.not_le.mp h71⟩⟩] <;> rfl) | (rw [zMin_some hz, if_neg (fun z => z.2.elim h31 (fun w => h50 w.1))] <;> rfl) | (rw [zMin_some hz, if_neg (fun z => z.2.elim h31 (fun w => absurd w.2 (Int32.not_lt.mpr h71)))] <;> rfl)) ?_
            refine j_istore_n C dL_drops_105 (by rw [hxn]; decide) ?_
            first | refine j_iinc1 C dL_drops_106 rfl (by rw [hxn]; decide) ?_ | refine j_iinc C _ dL_drops_106 rfl rfl (by rw [hxn]; decide) ?_
            refine j_goto C 4 dL_drops_109 (by decide) ?_
            refine j_locs [0, 1, 2, 3] rfl ?_
            exact ih trivial
          · skip
            refine j_iload_n C dL_drops_100 rfl ?_
            refine j_goto C 105 dL_drops_101 (by decide) ?_
            refine j_top (zMI (zMin S (q + 1))) (by first | exact absurd h97 (by decide) | exact absurd rfl h97 | (rw [zMin_none hz, if_pos (eu.trans h92)] <;> rfl) | (rw [zMin_none hz, if_neg (fun z => h92 (eu.symm.trans z))] <;> rfl) | (rw [zMin_some hz, if_neg (fun z => h92 (eu.symm.trans z.1))] <;> rfl) | (rw [zMin_some hz, if_pos ⟨eu.trans h92, Or.inl h31⟩] <;> rfl) | (rw [zMin_some hz, if_pos ⟨eu.trans h92, Or.inr ⟨h50, Int32.not_le.mp h71⟩⟩] <;> rfl) | (rw [zMin_some hz, if_neg (fun z => z.2.elim h31 (fun w => h50 w.1))] <;> rfl) | (rw [zMin_some hz, if_neg (fun z => z.2.elim h31 (fun w => absurd w.2 (Int32.not_lt.mpr h71)))] <;> rfl)) ?_
            refine j_istore_n C dL_drops_105 (by rw [hxn]; decide) ?_
            first | refine j_iinc1 C dL_drops_106 rfl (by rw [hxn]; decide) ?_ | refine j_iinc C _ dL_drops_106 rfl rfl (by rw [hxn]; decide) ?_
            refine j_goto C 4 dL_drops_109 (by decide) ?_
            refine j_locs [0, 1, 2, 3] rfl ?_
            exact ih trivial
      · skip
        refine j_aload_n C dL_drops_34 rfl ?_
        refine j_bipush C (nI 8) dL_drops_35 (by decide) ?_
        refine j_iload_n C dL_drops_37 rfl ?_
        first | with_reducible refine j_imulN C dL_drops_38 ?_ | refine j_imul C dL_drops_38 ?_
        refine j_iconst C (nI 5) dL_drops_39 (by decide) ?_
        first | with_reducible refine j_iaddN C dL_drops_40 ?_ | refine j_iadd C dL_drops_40 ?_
        refine j_ialdN C (by assumption) dL_drops_41 (by omega) (by decide) ?_
        refine j_top (S (367 + 9 * q + 5)) ((P q hq).1 5 (by decide)) ?_
        refine j_aload_n C dL_drops_42 rfl ?_
        refine j_bipush C (nI 8) dL_drops_43 (by decide) ?_
        refine j_iload_n C dL_drops_45 rfl ?_
        first | with_reducible refine j_imulN C dL_drops_46 ?_ | refine j_imul C dL_drops_46 ?_
        refine j_iconst C (nI 5) dL_drops_47 (by decide) ?_
        first | with_reducible refine j_iaddN C dL_drops_48 ?_ | refine j_iadd C dL_drops_48 ?_
        refine j_ialdN C (by assumption) dL_drops_49 (by omega) (by decide) ?_
        refine j_top (S (367 + 9 * f + 5)) ((P f (by omega)).1 5 (by decide)) ?_
        refine j_icmp_ne C 78 dL_drops_50 (by decide) (fun h50 => ?_) (fun h50 => ?_)
        · skip
          refine j_iconst C (nI 0) dL_drops_78 (by decide) ?_
          refine j_istore C dL_drops_79 (by rw [hxn]; decide) ?_
          refine j_aload_n C dL_drops_81 rfl ?_
          refine j_bipush C (nI 8) dL_drops_82 (by decide) ?_
          refine j_iload_n C dL_drops_84 rfl ?_
          first | with_reducible refine j_imulN C dL_drops_85 ?_ | refine j_imul C dL_drops_85 ?_
          refine j_bipush C (nI 6) dL_drops_86 (by decide) ?_
          first | with_reducible refine j_iaddN C dL_drops_88 ?_ | refine j_iadd C dL_drops_88 ?_
          refine j_ialdN C (by assumption) dL_drops_89 (by omega) (by decide) ?_
          refine j_top (nI (u + 2 * s)) e6 ?_
          refine j_iconst C (nI 2) dL_drops_90 (by decide) ?_
          refine j_iremN C dL_drops_91 (by omega) (by decide) (by decide) ?_
          refine j_top (nI u) (by congr 1; omega) ?_
          refine j_if_ne C 104 dL_drops_92 (by decide) (fun h92 => ?_) (fun h92 => ?_)
          · skip
            refine j_iload_n C dL_drops_104 rfl ?_
            refine j_top (zMI (zMin S (q + 1))) (by first | exact absurd h97 (by decide) | exact absurd rfl h97 | (rw [zMin_none hz, if_pos (eu.trans h92)] <;> rfl) | (rw [zMin_none hz, if_neg (fun z => h92 (eu.symm.trans z))] <;> rfl) | (rw [zMin_some hz, if_neg (fun z => h92 (eu.symm.trans z.1))] <;> rfl) | (rw [zMin_some hz, if_pos ⟨eu.trans h92, Or.inl h31⟩] <;> rfl) | (rw [zMin_some hz, if_pos ⟨eu.trans h92, Or.inr ⟨h50, Int32.not_le.mp h71⟩⟩] <;> rfl) | (rw [zMin_some hz, if_neg (fun z => z.2.elim h31 (fun w => h50 w.1))] <;> rfl) | (rw [zMin_some hz, if_neg (fun z => z.2.elim h31 (fun w => absurd w.2 (Int32.not_lt.mpr h71)))] <;> rfl)) ?_
            refine j_istore_n C dL_drops_105 (by rw [hxn]; decide) ?_
            first | refine j_iinc1 C dL_drops_106 rfl (by rw [hxn]; decide) ?_ | refine j_iinc C _ dL_drops_106 rfl rfl (by rw [hxn]; decide) ?_
            refine j_goto C 4 dL_drops_109 (by decide) ?_
            refine j_locs [0, 1, 2, 3] rfl ?_
            exact ih trivial
          · skip
            refine j_iload C dL_drops_95 rfl ?_
            refine j_if_eq C 104 dL_drops_97 (by decide) (fun h97 => ?_) (fun h97 => ?_)
            · skip
              refine j_iload_n C dL_drops_104 rfl ?_
              refine j_top (zMI (zMin S (q + 1))) (by first | exact absurd h97 (by decide) | exact absurd rfl h97 | (rw [zMin_none hz, if_pos (eu.trans h92)] <;> rfl) | (rw [zMin_none hz, if_neg (fun z => h92 (eu.symm.trans z))] <;> rfl) | (rw [zMin_some hz, if_neg (fun z => h92 (eu.symm.trans z.1))] <;> rfl) | (rw [zMin_some hz, if_pos ⟨eu.trans h92, Or.inl h31⟩] <;> rfl) | (rw [zMin_some hz, if_pos ⟨eu.trans h92, Or.inr ⟨h50, Int32.not_le.mp h71⟩⟩] <;> rfl) | (rw [zMin_some hz, if_neg (fun z => z.2.elim h31 (fun w => h50 w.1))] <;> rfl) | (rw [zMin_some hz, if_neg (fun z => z.2.elim h31 (fun w => absurd w.2 (Int32.not_lt.mpr h71)))] <;> rfl)) ?_
              refine j_istore_n C dL_drops_105 (by rw [hxn]; decide) ?_
              first | refine j_iinc1 C dL_drops_106 rfl (by rw [hxn]; decide) ?_ | refine j_iinc C _ dL_drops_106 rfl rfl (by rw [hxn]; decide) ?_
              refine j_goto C 4 dL_drops_109 (by decide) ?_
              refine j_locs [0, 1, 2, 3] rfl ?_
              exact ih trivial
            · skip
              refine j_iload_n C dL_drops_100 rfl ?_
              refine j_goto C 105 dL_drops_101 (by decide) ?_
              refine j_top (zMI (zMin S (q + 1))) (by first | exact absurd h97 (by decide) | exact absurd rfl h97 | (rw [zMin_none hz, if_pos (eu.trans h92)] <;> rfl) | (rw [zMin_none hz, if_neg (fun z => h92 (eu.symm.trans z))] <;> rfl) | (rw [zMin_some hz, if_neg (fun z => h92 (eu.symm.trans z.1))] <;> rfl) | (rw [zMin_some hz, if_pos ⟨eu.trans h92, Or.inl h31⟩] <;> rfl) | (rw [zMin_some hz, if_pos ⟨eu.trans h92, Or.inr ⟨h50, Int32.not_le.mp h71⟩⟩] <;> rfl) | (rw [zMin_some hz, if_neg (fun z => z.2.elim h31 (fun w => h50 w.1))] <;> rfl) | (rw [zMin_some hz, if_neg (fun z => z.2.elim h31 (fun w => absurd w.2 (Int32.not_lt.mpr h71)))] <;> rfl)) ?_
              refine j_istore_n C dL_drops_105 (by rw [hxn]; decide) ?_
              first | refine j_iinc1 C dL_drops_106 rfl (by rw [hxn]; decide) ?_ | refine j_iinc C _ dL_drops_106 rfl rfl (by rw [hxn]; decide) ?_
              refine j_goto C 4 dL_drops_109 (by decide) ?_
              refine j_locs [0, 1, 2, 3] rfl ?_
              exact ih trivial
        · skip
          refine j_aload_n C dL_drops_53 rfl ?_
          refine j_bipush C (nI 8) dL_drops_54 (by decide) ?_
          refine j_iload_n C dL_drops_56 rfl ?_
          first | with_reducible refine j_imulN C dL_drops_57 ?_ | refine j_imul C dL_drops_57 ?_
          refine j_bipush C (nI 7) dL_drops_58 (by decide) ?_
          first | with_reducible refine j_iaddN C dL_drops_60 ?_ | refine j_iadd C dL_drops_60 ?_
          refine j_ialdN C (by assumption) dL_drops_61 (by omega) (by decide) ?_
          refine j_top (S (367 + 9 * q + 8)) ((P q hq).2.2) ?_
          refine j_aload_n C dL_drops_62 rfl ?_
          refine j_bipush C (nI 8) dL_drops_63 (by decide) ?_
          refine j_iload_n C dL_drops_65 rfl ?_
          first | with_reducible refine j_imulN C dL_drops_66 ?_ | refine j_imul C dL_drops_66 ?_
          refine j_bipush C (nI 7) dL_drops_67 (by decide) ?_
          first | with_reducible refine j_iaddN C dL_drops_69 ?_ | refine j_iadd C dL_drops_69 ?_
          refine j_ialdN C (by assumption) dL_drops_70 (by omega) (by decide) ?_
          refine j_top (S (367 + 9 * f + 8)) ((P f (by omega)).2.2) ?_
          refine j_icmp_ge C 78 dL_drops_71 (by decide) (fun h71 => ?_) (fun h71 => ?_)
          · skip
            refine j_iconst C (nI 0) dL_drops_78 (by decide) ?_
            refine j_istore C dL_drops_79 (by rw [hxn]; decide) ?_
            refine j_aload_n C dL_drops_81 rfl ?_
            refine j_bipush C (nI 8) dL_drops_82 (by decide) ?_
            refine j_iload_n C dL_drops_84 rfl ?_
            first | with_reducible refine j_imulN C dL_drops_85 ?_ | refine j_imul C dL_drops_85 ?_
            refine j_bipush C (nI 6) dL_drops_86 (by decide) ?_
            first | with_reducible refine j_iaddN C dL_drops_88 ?_ | refine j_iadd C dL_drops_88 ?_
            refine j_ialdN C (by assumption) dL_drops_89 (by omega) (by decide) ?_
            refine j_top (nI (u + 2 * s)) e6 ?_
            refine j_iconst C (nI 2) dL_drops_90 (by decide) ?_
            refine j_iremN C dL_drops_91 (by omega) (by decide) (by decide) ?_
            refine j_top (nI u) (by congr 1; omega) ?_
            refine j_if_ne C 104 dL_drops_92 (by decide) (fun h92 => ?_) (fun h92 => ?_)
            · skip
              refine j_iload_n C dL_drops_104 rfl ?_
              refine j_top (zMI (zMin S (q + 1))) (by first | exact absurd h97 (by decide) | exact absurd rfl h97 | (rw [zMin_none hz, if_pos (eu.trans h92)] <;> rfl) | (rw [zMin_none hz, if_neg (fun z => h92 (eu.symm.trans z))] <;> rfl) | (rw [zMin_some hz, if_neg (fun z => h92 (eu.symm.trans z.1))] <;> rfl) | (rw [zMin_some hz, if_pos ⟨eu.trans h92, Or.inl h31⟩] <;> rfl) | (rw [zMin_some hz, if_pos ⟨eu.trans h92, Or.inr ⟨h50, Int32.not_le.mp h71⟩⟩] <;> rfl) | (rw [zMin_some hz, if_neg (fun z => z.2.elim h31 (fun w => h50 w.1))] <;> rfl) | (rw [zMin_some hz, if_neg (fun z => z.2.elim h31 (fun w => absurd w.2 (Int32.not_lt.mpr h71)))] <;> rfl)) ?_
              refine j_istore_n C dL_drops_105 (by rw [hxn]; decide) ?_
              first | refine j_iinc1 C dL_drops_106 rfl (by rw [hxn]; decide) ?_ | refine j_iinc C _ dL_drops_106 rfl rfl (by rw [hxn]; decide) ?_
              refine j_goto C 4 dL_drops_109 (by decide) ?_
              refine j_locs [0, 1, 2, 3] rfl ?_
              exact ih trivial
            · skip
              refine j_iload C dL_drops_95 rfl ?_
              refine j_if_eq C 104 dL_drops_97 (by decide) (fun h97 => ?_) (fun h97 => ?_)
              · skip
                refine j_iload_n C dL_drops_104 rfl ?_
                refine j_top (zMI (zMin S (q + 1))) (by first | exact absurd h97 (by decide) | exact absurd rfl h97 | (rw [zMin_none hz, if_pos (eu.trans h92)] <;> rfl) | (rw [zMin_none hz, if_neg (fun z => h92 (eu.symm.trans z))] <;> rfl) | (rw [zMin_some hz, if_neg (fun z => h92 (eu.symm.trans z.1))] <;> rfl) | (rw [zMin_some hz, if_pos ⟨eu.trans h92, Or.inl h31⟩] <;> rfl) | (rw [zMin_some hz, if_pos ⟨eu.trans h92, Or.inr ⟨h50, Int32.not_le.mp h71⟩⟩] <;> rfl) | (rw [zMin_some hz, if_neg (fun z => z.2.elim h31 (fun w => h50 w.1))] <;> rfl) | (rw [zMin_some hz, if_neg (fun z => z.2.elim h31 (fun w => absurd w.2 (Int32.not_lt.mpr h71)))] <;> rfl)) ?_
                refine j_istore_n C dL_drops_105 (by rw [hxn]; decide) ?_
                first | refine j_iinc1 C dL_drops_106 rfl (by rw [hxn]; decide) ?_ | refine j_iinc C _ dL_drops_106 rfl rfl (by rw [hxn]; decide) ?_
                refine j_goto C 4 dL_drops_109 (by decide) ?_
                refine j_locs [0, 1, 2, 3] rfl ?_
                exact ih trivial
              · skip
                refine j_iload_n C dL_drops_100 rfl ?_
                refine j_goto C 105 dL_drops_101 (by decide) ?_
                refine j_top (zMI (zMin S (q + 1))) (by first | exact absurd h97 (by decide) | exact absurd rfl h97 | (rw [zMin_none hz, if_pos (eu.trans h92)] <;> rfl) | (rw [zMin_none hz, if_neg (fun z => h92 (eu.symm.trans z))] <;> rfl) | (rw [zMin_some hz, if_neg (fun z => h92 (eu.symm.trans z.1))] <;> rfl) | (rw [zMin_some hz, if_pos ⟨eu.trans h92, Or.inl h31⟩] <;> rfl) | (rw [zMin_some hz, if_pos ⟨eu.trans h92, Or.inr ⟨h50, Int32.not_le.mp h71⟩⟩] <;> rfl) | (rw [zMin_some hz, if_neg (fun z => z.2.elim h31 (fun w => h50 w.1))] <;> rfl) | (rw [zMin_some hz, if_neg (fun z => z.2.elim h31 (fun w => absurd w.2 (Int32.not_lt.mpr h71)))] <;> rfl)) ?_
                refine j_istore_n C dL_drops_105 (by rw [hxn]; decide) ?_
                first | refine j_iinc1 C dL_drops_106 rfl (by rw [hxn]; decide) ?_ | refine j_iinc C _ dL_drops_106 rfl rfl (by rw [hxn]; decide) ?_
                refine j_goto C 4 dL_drops_109 (by decide) ?_
                refine j_locs [0, 1, 2, 3] rfl ?_
                exact ih trivial
          · skip
            refine j_iconst C (nI 1) dL_drops_74 (by decide) ?_
            refine j_goto C 79 dL_drops_75 (by decide) ?_
            refine j_istore C dL_drops_79 (by rw [hxn]; decide) ?_
            refine j_aload_n C dL_drops_81 rfl ?_
            refine j_bipush C (nI 8) dL_drops_82 (by decide) ?_
            refine j_iload_n C dL_drops_84 rfl ?_
            first | with_reducible refine j_imulN C dL_drops_85 ?_ | refine j_imul C dL_drops_85 ?_
            refine j_bipush C (nI 6) dL_drops_86 (by decide) ?_
            first | with_reducible refine j_iaddN C dL_drops_88 ?_ | refine j_iadd C dL_drops_88 ?_
            refine j_ialdN C (by assumption) dL_drops_89 (by omega) (by decide) ?_
            refine j_top (nI (u + 2 * s)) e6 ?_
            refine j_iconst C (nI 2) dL_drops_90 (by decide) ?_
            refine j_iremN C dL_drops_91 (by omega) (by decide) (by decide) ?_
            refine j_top (nI u) (by congr 1; omega) ?_
            refine j_if_ne C 104 dL_drops_92 (by decide) (fun h92 => ?_) (fun h92 => ?_)
            · skip
              refine j_iload_n C dL_drops_104 rfl ?_
              refine j_top (zMI (zMin S (q + 1))) (by first | exact absurd h97 (by decide) | exact absurd rfl h97 | (rw [zMin_none hz, if_pos (eu.trans h92)] <;> rfl) | (rw [zMin_none hz, if_neg (fun z => h92 (eu.symm.trans z))] <;> rfl) | (rw [zMin_some hz, if_neg (fun z => h92 (eu.symm.trans z.1))] <;> rfl) | (rw [zMin_some hz, if_pos ⟨eu.trans h92, Or.inl h31⟩] <;> rfl) | (rw [zMin_some hz, if_pos ⟨eu.trans h92, Or.inr ⟨h50, Int32.not_le.mp h71⟩⟩] <;> rfl) | (rw [zMin_some hz, if_neg (fun z => z.2.elim h31 (fun w => h50 w.1))] <;> rfl) | (rw [zMin_some hz, if_neg (fun z => z.2.elim h31 (fun w => absurd w.2 (Int32.not_lt.mpr h71)))] <;> rfl)) ?_
              refine j_istore_n C dL_drops_105 (by rw [hxn]; decide) ?_
              first | refine j_iinc1 C dL_drops_106 rfl (by rw [hxn]; decide) ?_ | refine j_iinc C _ dL_drops_106 rfl rfl (by rw [hxn]; decide) ?_
              refine j_goto C 4 dL_drops_109 (by decide) ?_
              refine j_locs [0, 1, 2, 3] rfl ?_
              exact ih trivial
            · skip
              refine j_iload C dL_drops_95 rfl ?_
              refine j_if_eq C 104 dL_drops_97 (by decide) (fun h97 => ?_) (fun h97 => ?_)
              · skip
                refine j_iload_n C dL_drops_104 rfl ?_
                refine j_top (zMI (zMin S (q + 1))) (by first | exact absurd h97 (by decide) | exact absurd rfl h97 | (rw [zMin_none hz, if_pos (eu.trans h92)] <;> rfl) | (rw [zMin_none hz, if_neg (fun z => h92 (eu.symm.trans z))] <;> rfl) | (rw [zMin_some hz, if_neg (fun z => h92 (eu.symm.trans z.1))] <;> rfl) | (rw [zMin_some hz, if_pos ⟨eu.trans h92, Or.inl h31⟩] <;> rfl) | (rw [zMin_some hz, if_pos ⟨eu.trans h92, Or.inr ⟨h50, Int32.not_le.mp h71⟩⟩] <;> rfl) | (rw [zMin_some hz, if_neg (fun z => z.2.elim h31 (fun w => h50 w.1))] <;> rfl) | (rw [zMin_some hz, if_neg (fun z => z.2.elim h31 (fun w => absurd w.2 (Int32.not_lt.mpr h71)))] <;> rfl)) ?_
                refine j_istore_n C dL_drops_105 (by rw [hxn]; decide) ?_
                first | refine j_iinc1 C dL_drops_106 rfl (by rw [hxn]; decide) ?_ | refine j_iinc C _ dL_drops_106 rfl rfl (by rw [hxn]; decide) ?_
                refine j_goto C 4 dL_drops_109 (by decide) ?_
                refine j_locs [0, 1, 2, 3] rfl ?_
                exact ih trivial
              · skip
                refine j_iload_n C dL_drops_100 rfl ?_
                refine j_goto C 105 dL_drops_101 (by decide) ?_
                refine j_top (zMI (zMin S (q + 1))) (by first | exact absurd h97 (by decide) | exact absurd rfl h97 | (rw [zMin_none hz, if_pos (eu.trans h92)] <;> rfl) | (rw [zMin_none hz, if_neg (fun z => h92 (eu.symm.trans z))] <;> rfl) | (rw [zMin_some hz, if_neg (fun z => h92 (eu.symm.trans z.1))] <;> rfl) | (rw [zMin_some hz, if_pos ⟨eu.trans h92, Or.inl h31⟩] <;> rfl) | (rw [zMin_some hz, if_pos ⟨eu.trans h92, Or.inr ⟨h50, Int32.not_le.mp h71⟩⟩] <;> rfl) | (rw [zMin_some hz, if_neg (fun z => z.2.elim h31 (fun w => h50 w.1))] <;> rfl) | (rw [zMin_some hz, if_neg (fun z => z.2.elim h31 (fun w => absurd w.2 (Int32.not_lt.mpr h71)))] <;> rfl)) ?_
                refine j_istore_n C dL_drops_105 (by rw [hxn]; decide) ?_
                first | refine j_iinc1 C dL_drops_106 rfl (by rw [hxn]; decide) ?_ | refine j_iinc C _ dL_drops_106 rfl rfl (by rw [hxn]; decide) ?_
                refine j_goto C 4 dL_drops_109 (by decide) ?_
                refine j_locs [0, 1, 2, 3] rfl ?_
                exact ih trivial
  · skip
    refine j_iload_n C dL_drops_4 rfl ?_
    refine j_aload_n C dL_drops_5 rfl ?_
    refine j_iconst C (nI 4) dL_drops_6 (by decide) ?_
    refine j_ialdN C (by assumption) dL_drops_7 (by omega) (by decide) ?_
    refine j_top (nI n) (hn) ?_
    refine j_icmp_ge C 112 dL_drops_8 (by decide) (fun _ => ?_) (fun h => absurd (Int32.le_refl _) h)
    refine j_iload_n C dL_drops_112 rfl ?_
    exact j_ireturn C E dL_drops_113 (rfl) (by decide) (by decide) (⟨rfl, rfl, rfl, rfl⟩)
