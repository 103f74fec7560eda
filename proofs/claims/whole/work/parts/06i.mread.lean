set_option maxHeartbeats 4000000 in
set_option maxRecDepth 100000 in
theorem c_X10_in (l : Launch) (ω : jW) (γ : jG) (M : jM) (R : jR) (x a b : Int32) : Ct l ω yX10_in cX10_in 3 (some .boolean) 1 0 0 [.int x, .int a, .int b] γ M R (jx γ (some (.int (rIn x a b))) M R) := by
  refine Ct_of (by decide) (Nat.le_of_ble_eq_true rfl) rfl (jcat_of rfl) ?_
  intro X C E hnm hxl hxn
  subst hxl
  refine j_iload_n C dX10_in_0 rfl ?_
  refine j_iload_n C dX10_in_1 rfl ?_
  refine j_icmp_lt C 14 dX10_in_2 (by decide) (fun h2 => ?_) (fun h2 => ?_)
  · skip
    refine j_iconst C (nI 0) dX10_in_14 (by decide) ?_
    exact j_ireturn C E dX10_in_15 (by decide) (by decide) (by decide) (⟨by simp only [rIn, if_pos h2], rfl, rfl, rfl⟩)
  · skip
    refine j_iload_n C dX10_in_5 rfl ?_
    refine j_iload_n C dX10_in_6 rfl ?_
    refine j_icmp_gt C 14 dX10_in_7 (by decide) (fun h7 => ?_) (fun h7 => ?_)
    · skip
      refine j_iconst C (nI 0) dX10_in_14 (by decide) ?_
      exact j_ireturn C E dX10_in_15 (by decide) (by decide) (by decide) (⟨by simp only [rIn, if_neg h2, if_pos h7], rfl, rfl, rfl⟩)
    · skip
      refine j_iconst C (nI 1) dX10_in_10 (by decide) ?_
      refine j_goto C 15 dX10_in_11 (by decide) ?_
      exact j_ireturn C E dX10_in_15 (by decide) (by decide) (by decide) (⟨by simp only [rIn, if_neg h2, if_neg h7], rfl, rfl, rfl⟩)

set_option maxHeartbeats 4000000 in
set_option maxRecDepth 100000 in
theorem c_X10_isValue (l : Launch) (ω : jW) (γ : jG) (M : jM) (R : jR) (x : Int32) : Ct l ω yX10_isValue cX10_isValue 1 (some .boolean) 2 0 0 [.int x] γ M R (jx γ (some (.int (rIn x (nI 0) (nI 31)))) M R) := by
  refine Ct_of (by decide) (Nat.le_of_ble_eq_true rfl) rfl (jcat_of rfl) ?_
  intro X C E hnm hxl hxn
  subst hxl
  refine j_iload_n C dX10_isValue_0 rfl ?_
  refine j_iconst C (nI 0) dX10_isValue_1 (by decide) ?_
  refine j_bipush C (nI 31) dX10_isValue_2 (by decide) ?_
  refine j_cSi C (c_X10_in _ _ _ _ _ _ _ _) yc_X10_in mn_X10_26 st_X10_in dX10_isValue_4 rfl rfl (Nat.le_of_ble_eq_true rfl) (by decide) ?_
  exact j_ireturn C E dX10_isValue_7 ((rIn_B _ _ _).nar) (by decide) (by decide) (⟨rfl, rfl, rfl, rfl⟩)

set_option maxHeartbeats 4000000 in
set_option maxRecDepth 100000 in
theorem c_X10_isRow (l : Launch) (ω : jW) (γ : jG) (M : jM) (R : jR) {m : Nat} (g : gM ω γ m) (x : Int32) : Ct l ω yX10_isRow cX10_isRow 2 (some .boolean) 1 0 0 [.ref m, .int x] γ M R (jx γ (some (.int (zIs (M (m + 1) 0) x))) M R) := by
  refine Ct_of (by decide) (Nat.le_of_ble_eq_true rfl) rfl (jcat_of rfl) ?_
  intro X C E hnm hxl hxn
  subst hxl
  have g9 := g
  obtain ⟨g0, g1, g2, g3, g4, g5, g6, g7, g8⟩ := g
  refine j_iload_n C dX10_isRow_0 rfl ?_
  refine j_if_lt C 18 dX10_isRow_1 (by decide) (fun h1 => ?_) (fun h1 => ?_)
  · skip
    refine j_iconst C (nI 0) dX10_isRow_18 (by decide) ?_
    exact j_ireturn C E dX10_isRow_19 (by decide) (by decide) (by decide) (⟨by simp only [zIs, if_pos h1], rfl, rfl, rfl⟩)
  · skip
    refine j_iload_n C dX10_isRow_4 rfl ?_
    refine j_aload_n C dX10_isRow_5 rfl ?_
    refine j_getR C fl_X10_7 (by assumption) dX10_isRow_6 (by decide) rfl (by assumption) ?_
    refine j_iconst C (nI 0) dX10_isRow_9 (by decide) ?_
    refine j_ialdN C (by assumption) dX10_isRow_10 (by omega) (by decide) ?_
    refine j_icmp_ge C 18 dX10_isRow_11 (by decide) (fun h11 => ?_) (fun h11 => ?_)
    · skip
      refine j_iconst C (nI 0) dX10_isRow_18 (by decide) ?_
      exact j_ireturn C E dX10_isRow_19 (by decide) (by decide) (by decide) (⟨by simp only [zIs, if_neg h1, if_pos h11], rfl, rfl, rfl⟩)
    · skip
      refine j_iconst C (nI 1) dX10_isRow_14 (by decide) ?_
      refine j_goto C 19 dX10_isRow_15 (by decide) ?_
      exact j_ireturn C E dX10_isRow_19 (by decide) (by decide) (by decide) (⟨by simp only [zIs, if_neg h1, if_neg h11], rfl, rfl, rfl⟩)

set_option maxHeartbeats 4000000 in
set_option maxRecDepth 100000 in
theorem c_X10_isStatement (l : Launch) (ω : jW) (γ : jG) (M : jM) (R : jR) {m : Nat} (g : gM ω γ m) (x : Int32) : Ct l ω yX10_isStatement cX10_isStatement 2 (some .boolean) 1 0 0 [.ref m, .int x] γ M R (jx γ (some (.int (zIs (M (m + 1) 3) x))) M R) := by
  refine Ct_of (by decide) (Nat.le_of_ble_eq_true rfl) rfl (jcat_of rfl) ?_
  intro X C E hnm hxl hxn
  subst hxl
  have g9 := g
  obtain ⟨g0, g1, g2, g3, g4, g5, g6, g7, g8⟩ := g
  refine j_iload_n C dX10_isStatement_0 rfl ?_
  refine j_if_lt C 18 dX10_isStatement_1 (by decide) (fun h1 => ?_) (fun h1 => ?_)
  · skip
    refine j_iconst C (nI 0) dX10_isStatement_18 (by decide) ?_
    exact j_ireturn C E dX10_isStatement_19 (by decide) (by decide) (by decide) (⟨by simp only [zIs, if_pos h1], rfl, rfl, rfl⟩)
  · skip
    refine j_iload_n C dX10_isStatement_4 rfl ?_
    refine j_aload_n C dX10_isStatement_5 rfl ?_
    refine j_getR C fl_X10_7 (by assumption) dX10_isStatement_6 (by decide) rfl (by assumption) ?_
    refine j_iconst C (nI 3) dX10_isStatement_9 (by decide) ?_
    refine j_ialdN C (by assumption) dX10_isStatement_10 (by omega) (by decide) ?_
    refine j_icmp_ge C 18 dX10_isStatement_11 (by decide) (fun h11 => ?_) (fun h11 => ?_)
    · skip
      refine j_iconst C (nI 0) dX10_isStatement_18 (by decide) ?_
      exact j_ireturn C E dX10_isStatement_19 (by decide) (by decide) (by decide) (⟨by simp only [zIs, if_neg h1, if_pos h11], rfl, rfl, rfl⟩)
    · skip
      refine j_iconst C (nI 1) dX10_isStatement_14 (by decide) ?_
      refine j_goto C 19 dX10_isStatement_15 (by decide) ?_
      exact j_ireturn C E dX10_isStatement_19 (by decide) (by decide) (by decide) (⟨by simp only [zIs, if_neg h1, if_neg h11], rfl, rfl, rfl⟩)

set_option maxHeartbeats 4000000 in
set_option maxRecDepth 100000 in
theorem c_X10_ofRow (l : Launch) (ω : jW) (γ : jG) (M : jM) (R : jR) {m : Nat} (g : gM ω γ m) {k w : Nat} (h : 29 + 5 * k + w < 439) : Ct l ω yX10_ofRow cX10_ofRow 3 (some .int) 1 0 0 [.ref m, .int (nI k), .int (nI w)] γ M R (jx γ (some (.int (M (m + 1) (29 + 5 * k + w)))) M R) := by
  refine Ct_of (by decide) (Nat.le_of_ble_eq_true rfl) rfl (jcat_of rfl) ?_
  intro X C E hnm hxl hxn
  subst hxl
  have g9 := g
  obtain ⟨g0, g1, g2, g3, g4, g5, g6, g7, g8⟩ := g
  refine j_aload_n C dX10_ofRow_0 rfl ?_
  refine j_getR C fl_X10_7 (by assumption) dX10_ofRow_1 (by decide) rfl (by assumption) ?_
  refine j_bipush C (nI 29) dX10_ofRow_4 (by decide) ?_
  refine j_iconst C (nI 5) dX10_ofRow_6 (by decide) ?_
  refine j_iload_n C dX10_ofRow_7 rfl ?_
  first | with_reducible refine j_imulN C dX10_ofRow_8 ?_ | refine j_imul C dX10_ofRow_8 ?_
  first | with_reducible refine j_iaddN C dX10_ofRow_9 ?_ | refine j_iadd C dX10_ofRow_9 ?_
  refine j_iload_n C dX10_ofRow_10 rfl ?_
  first | with_reducible refine j_iaddN C dX10_ofRow_11 ?_ | refine j_iadd C dX10_ofRow_11 ?_
  refine j_ialdN C (by assumption) dX10_ofRow_12 (by omega) (by decide) ?_
  exact j_ireturn C E dX10_ofRow_13 (rfl) (by decide) (by decide) (⟨rfl, rfl, rfl, rfl⟩)

set_option maxHeartbeats 4000000 in
set_option maxRecDepth 100000 in
theorem c_X10_conditions (l : Launch) (ω : jW) (γ : jG) (M : jM) (R : jR) {m : Nat} (g : gM ω γ m) {t : Nat} (h : 307 + 10 * t < 439) : Ct l ω yX10_conditions cX10_conditions 2 (some .int) 1 0 0 [.ref m, .int (nI t)] γ M R (jx γ (some (.int (M (m + 1) (307 + 10 * t)))) M R) := by
  refine Ct_of (by decide) (Nat.le_of_ble_eq_true rfl) rfl (jcat_of rfl) ?_
  intro X C E hnm hxl hxn
  subst hxl
  have g9 := g
  obtain ⟨g0, g1, g2, g3, g4, g5, g6, g7, g8⟩ := g
  refine j_aload_n C dX10_conditions_0 rfl ?_
  refine j_getR C fl_X10_7 (by assumption) dX10_conditions_1 (by decide) rfl (by assumption) ?_
  refine j_sipush C (nI 307) dX10_conditions_4 (by decide) ?_
  refine j_bipush C (nI 10) dX10_conditions_7 (by decide) ?_
  refine j_iload_n C dX10_conditions_9 rfl ?_
  first | with_reducible refine j_imulN C dX10_conditions_10 ?_ | refine j_imul C dX10_conditions_10 ?_
  first | with_reducible refine j_iaddN C dX10_conditions_11 ?_ | refine j_iadd C dX10_conditions_11 ?_
  refine j_ialdN C (by assumption) dX10_conditions_12 (by omega) (by decide) ?_
  exact j_ireturn C E dX10_conditions_13 (rfl) (by decide) (by decide) (⟨rfl, rfl, rfl, rfl⟩)

set_option maxHeartbeats 4000000 in
set_option maxRecDepth 100000 in
theorem c_X10_columnOf (l : Launch) (ω : jW) (γ : jG) (M : jM) (R : jR) {m : Nat} (g : gM ω γ m) {t k : Nat} (h : 307 + 10 * t + 1 + k < 439) : Ct l ω yX10_columnOf cX10_columnOf 3 (some .int) 1 0 0 [.ref m, .int (nI t), .int (nI k)] γ M R (jx γ (some (.int (M (m + 1) (307 + 10 * t + 1 + k)))) M R) := by
  refine Ct_of (by decide) (Nat.le_of_ble_eq_true rfl) rfl (jcat_of rfl) ?_
  intro X C E hnm hxl hxn
  subst hxl
  have g9 := g
  obtain ⟨g0, g1, g2, g3, g4, g5, g6, g7, g8⟩ := g
  refine j_aload_n C dX10_columnOf_0 rfl ?_
  refine j_getR C fl_X10_7 (by assumption) dX10_columnOf_1 (by decide) rfl (by assumption) ?_
  refine j_sipush C (nI 307) dX10_columnOf_4 (by decide) ?_
  refine j_bipush C (nI 10) dX10_columnOf_7 (by decide) ?_
  refine j_iload_n C dX10_columnOf_9 rfl ?_
  first | with_reducible refine j_imulN C dX10_columnOf_10 ?_ | refine j_imul C dX10_columnOf_10 ?_
  first | with_reducible refine j_iaddN C dX10_columnOf_11 ?_ | refine j_iadd C dX10_columnOf_11 ?_
  refine j_iconst C (nI 1) dX10_columnOf_12 (by decide) ?_
  first | with_reducible refine j_iaddN C dX10_columnOf_13 ?_ | refine j_iadd C dX10_columnOf_13 ?_
  refine j_iload_n C dX10_columnOf_14 rfl ?_
  first | with_reducible refine j_iaddN C dX10_columnOf_15 ?_ | refine j_iadd C dX10_columnOf_15 ?_
  refine j_ialdN C (by assumption) dX10_columnOf_16 (by omega) (by decide) ?_
  exact j_ireturn C E dX10_columnOf_17 (rfl) (by decide) (by decide) (⟨rfl, rfl, rfl, rfl⟩)

set_option maxHeartbeats 4000000 in
set_option maxRecDepth 100000 in
theorem c_X10_operatorOf (l : Launch) (ω : jW) (γ : jG) (M : jM) (R : jR) {m : Nat} (g : gM ω γ m) {t k : Nat} (h : 307 + 10 * t + 5 + k < 439) : Ct l ω yX10_operatorOf cX10_operatorOf 3 (some .int) 1 0 0 [.ref m, .int (nI t), .int (nI k)] γ M R (jx γ (some (.int (M (m + 1) (307 + 10 * t + 5 + k)))) M R) := by
  refine Ct_of (by decide) (Nat.le_of_ble_eq_true rfl) rfl (jcat_of rfl) ?_
  intro X C E hnm hxl hxn
  subst hxl
  have g9 := g
  obtain ⟨g0, g1, g2, g3, g4, g5, g6, g7, g8⟩ := g
  refine j_aload_n C dX10_operatorOf_0 rfl ?_
  refine j_getR C fl_X10_7 (by assumption) dX10_operatorOf_1 (by decide) rfl (by assumption) ?_
  refine j_sipush C (nI 307) dX10_operatorOf_4 (by decide) ?_
  refine j_bipush C (nI 10) dX10_operatorOf_7 (by decide) ?_
  refine j_iload_n C dX10_operatorOf_9 rfl ?_
  first | with_reducible refine j_imulN C dX10_operatorOf_10 ?_ | refine j_imul C dX10_operatorOf_10 ?_
  first | with_reducible refine j_iaddN C dX10_operatorOf_11 ?_ | refine j_iadd C dX10_operatorOf_11 ?_
  refine j_iconst C (nI 5) dX10_operatorOf_12 (by decide) ?_
  first | with_reducible refine j_iaddN C dX10_operatorOf_13 ?_ | refine j_iadd C dX10_operatorOf_13 ?_
  refine j_iload_n C dX10_operatorOf_14 rfl ?_
  first | with_reducible refine j_iaddN C dX10_operatorOf_15 ?_ | refine j_iadd C dX10_operatorOf_15 ?_
  refine j_ialdN C (by assumption) dX10_operatorOf_16 (by omega) (by decide) ?_
  exact j_ireturn C E dX10_operatorOf_17 (rfl) (by decide) (by decide) (⟨rfl, rfl, rfl, rfl⟩)

set_option maxHeartbeats 4000000 in
set_option maxRecDepth 100000 in
theorem c_X10_ofPlan (l : Launch) (ω : jW) (γ : jG) (M : jM) (R : jR) {m : Nat} (g : gM ω γ m) {p w : Nat} (h : 367 + 9 * p + w < 439) : Ct l ω yX10_ofPlan cX10_ofPlan 3 (some .int) 1 0 0 [.ref m, .int (nI p), .int (nI w)] γ M R (jx γ (some (.int (M (m + 1) (367 + 9 * p + w)))) M R) := by
  refine Ct_of (by decide) (Nat.le_of_ble_eq_true rfl) rfl (jcat_of rfl) ?_
  intro X C E hnm hxl hxn
  subst hxl
  have g9 := g
  obtain ⟨g0, g1, g2, g3, g4, g5, g6, g7, g8⟩ := g
  refine j_aload_n C dX10_ofPlan_0 rfl ?_
  refine j_getR C fl_X10_7 (by assumption) dX10_ofPlan_1 (by decide) rfl (by assumption) ?_
  refine j_sipush C (nI 367) dX10_ofPlan_4 (by decide) ?_
  refine j_bipush C (nI 9) dX10_ofPlan_7 (by decide) ?_
  refine j_iload_n C dX10_ofPlan_9 rfl ?_
  first | with_reducible refine j_imulN C dX10_ofPlan_10 ?_ | refine j_imul C dX10_ofPlan_10 ?_
  first | with_reducible refine j_iaddN C dX10_ofPlan_11 ?_ | refine j_iadd C dX10_ofPlan_11 ?_
  refine j_iload_n C dX10_ofPlan_12 rfl ?_
  first | with_reducible refine j_iaddN C dX10_ofPlan_13 ?_ | refine j_iadd C dX10_ofPlan_13 ?_
  refine j_ialdN C (by assumption) dX10_ofPlan_14 (by omega) (by decide) ?_
  exact j_ireturn C E dX10_ofPlan_15 (rfl) (by decide) (by decide) (⟨rfl, rfl, rfl, rfl⟩)

set_option maxHeartbeats 4000000 in
set_option maxRecDepth 100000 in
theorem c_X10_hasIndex (l : Launch) (ω : jW) (γ : jG) (M : jM) (R : jR) {m : Nat} (g : gM ω γ m) (c : Int32) : Ct l ω yX10_hasIndex cX10_hasIndex 2 (some .boolean) 1 0 0 [.ref m, .int c] γ M R (jx γ (some (.int (zIdx (M (m + 1)) c))) M R) := by
  refine Ct_of (by decide) (Nat.le_of_ble_eq_true rfl) rfl (jcat_of rfl) ?_
  intro X C E hnm hxl hxn
  subst hxl
  have g9 := g
  obtain ⟨g0, g1, g2, g3, g4, g5, g6, g7, g8⟩ := g
  refine j_aload_n C dX10_hasIndex_0 rfl ?_
  refine j_getR C fl_X10_7 (by assumption) dX10_hasIndex_1 (by decide) rfl (by assumption) ?_
  refine j_iconst C (nI 1) dX10_hasIndex_4 (by decide) ?_
  refine j_ialdN C (by assumption) dX10_hasIndex_5 (by omega) (by decide) ?_
  refine j_iload_n C dX10_hasIndex_6 rfl ?_
  refine j_ishr C dX10_hasIndex_7 ?_
  refine j_iconst C (nI 1) dX10_hasIndex_8 (by decide) ?_
  refine j_iand C dX10_hasIndex_9 ?_
  refine j_iconst C (nI 1) dX10_hasIndex_10 (by decide) ?_
  refine j_icmp_ne C 18 dX10_hasIndex_11 (by decide) (fun h11 => ?_) (fun h11 => ?_)
  · skip
    refine j_iconst C (nI 0) dX10_hasIndex_18 (by decide) ?_
    exact j_ireturn C E dX10_hasIndex_19 (by decide) (by decide) (by decide) (⟨by simp only [zIdx, if_neg h11], rfl, rfl, rfl⟩)
  · skip
    refine j_iconst C (nI 1) dX10_hasIndex_14 (by decide) ?_
    refine j_goto C 19 dX10_hasIndex_15 (by decide) ?_
    exact j_ireturn C E dX10_hasIndex_19 (by decide) (by decide) (by decide) (⟨by simp only [zIdx, if_pos h11], rfl, rfl, rfl⟩)

set_option maxHeartbeats 4000000 in
set_option maxRecDepth 100000 in
theorem c_X10_size (l : Launch) (ω : jW) (γ : jG) (M : jM) (R : jR) {m : Nat} (g : gM ω γ m) {r : Nat} (hr : M (m + 1) 0 = nI r) (hr30 : r ≤ 30)  : Ct l ω yX10_size cX10_size 3 (some .int) 2 0 0 [.ref m] γ M R (jx γ (some (.int (sI (zRowW (M (m + 1))) r))) M R) := by
  refine Ct_of (by decide) (Nat.le_of_ble_eq_true rfl) rfl (jcat_of rfl) ?_
  intro X C E hnm hxl hxn
  subst hxl
  have g9 := g
  obtain ⟨g0, g1, g2, g3, g4, g5, g6, g7, g8⟩ := g
  refine j_iconst C (nI 0) dX10_size_0 (by decide) ?_
  refine j_istore_n C dX10_size_1 (by rw [hxn]; decide) ?_
  refine j_iconst C (nI 0) dX10_size_2 (by decide) ?_
  refine j_istore_n C dX10_size_3 (by rw [hxn]; decide) ?_
  refine j_loop r (fun k => [(0, .ref m), (1, .int (sI (zRowW (M (m + 1))) k)), (2, .int (nI k))]) (fun _ => M) (fun _ => R) (fun _ => True) (trivial) (fun k hk _ ih => ?_) (fun _ => ?_)
  · skip
    refine j_iload_n C dX10_size_4 rfl ?_
    refine j_aload_n C dX10_size_5 rfl ?_
    refine j_getR C fl_X10_7 (by assumption) dX10_size_6 (by decide) rfl (by assumption) ?_
    refine j_iconst C (nI 0) dX10_size_9 (by decide) ?_
    refine j_ialdN C (by assumption) dX10_size_10 (by omega) (by decide) ?_
    refine j_top (nI r) (hr) ?_
    refine j_icmp_ge C 29 dX10_size_11 (by decide) (fun h => absurd h (nI_ge hk (by omega))) (fun _ => ?_)
    refine j_iload_n C dX10_size_14 rfl ?_
    refine j_aload_n C dX10_size_15 rfl ?_
    refine j_iload_n C dX10_size_16 rfl ?_
    refine j_iconst C (nI 4) dX10_size_17 (by decide) ?_
    refine j_cVi C (c_X10_ofRow _ _ _ _ _ (by assumption) (by omega)) yc_X10_ofRow mn_X10_40 im_X10_ofRow se_X10_ofRow rfl rfl dX10_size_18 rfl rfl (by assumption) (by decide) (Nat.le_of_ble_eq_true rfl) (by decide) ?_
    first | with_reducible refine j_iaddN C dX10_size_21 ?_ | refine j_iadd C dX10_size_21 ?_
    refine j_top (sI (zRowW (M (m + 1))) (k + 1)) (rfl) ?_
    refine j_istore_n C dX10_size_22 (by rw [hxn]; decide) ?_
    first | refine j_iinc1 C dX10_size_23 rfl (by rw [hxn]; decide) ?_ | refine j_iinc C _ dX10_size_23 rfl rfl (by rw [hxn]; decide) ?_
    refine j_goto C 4 dX10_size_26 (by decide) ?_
    exact ih trivial
  · skip
    refine j_iload_n C dX10_size_4 rfl ?_
    refine j_aload_n C dX10_size_5 rfl ?_
    refine j_getR C fl_X10_7 (by assumption) dX10_size_6 (by decide) rfl (by assumption) ?_
    refine j_iconst C (nI 0) dX10_size_9 (by decide) ?_
    refine j_ialdN C (by assumption) dX10_size_10 (by omega) (by decide) ?_
    refine j_top (nI r) (hr) ?_
    refine j_icmp_ge C 29 dX10_size_11 (by decide) (fun _ => ?_) (fun h => absurd (Int32.le_refl _) h)
    refine j_iload_n C dX10_size_29 rfl ?_
    exact j_ireturn C E dX10_size_30 (rfl) (by decide) (by decide) (⟨rfl, rfl, rfl, rfl⟩)

set_option maxHeartbeats 4000000 in
set_option maxRecDepth 100000 in
theorem c_X10_pinned (l : Launch) (ω : jW) (γ : jG) (M : jM) (R : jR) {m : Nat} (g : gM ω γ m) {n : Nat} (hn : M (m + 1) 4 = nI n) (hn8 : n ≤ 8)  : Ct l ω yX10_pinned cX10_pinned 3 (some .int) 2 0 0 [.ref m] γ M R (jx γ (some (.int (sI (zPinF (M (m + 1))) n))) M R) := by
  refine Ct_of (by decide) (Nat.le_of_ble_eq_true rfl) rfl (jcat_of rfl) ?_
  intro X C E hnm hxl hxn
  subst hxl
  have g9 := g
  obtain ⟨g0, g1, g2, g3, g4, g5, g6, g7, g8⟩ := g
  refine j_iconst C (nI 0) dX10_pinned_0 (by decide) ?_
  refine j_istore_n C dX10_pinned_1 (by rw [hxn]; decide) ?_
  refine j_iconst C (nI 0) dX10_pinned_2 (by decide) ?_
  refine j_istore_n C dX10_pinned_3 (by rw [hxn]; decide) ?_
  refine j_loop n (fun k => [(0, .ref m), (1, .int (sI (zPinF (M (m + 1))) k)), (2, .int (nI k))]) (fun _ => M) (fun _ => R) (fun _ => True) (trivial) (fun k hk _ ih => ?_) (fun _ => ?_)
  · skip
    refine j_iload_n C dX10_pinned_4 rfl ?_
    refine j_aload_n C dX10_pinned_5 rfl ?_
    refine j_getR C fl_X10_7 (by assumption) dX10_pinned_6 (by decide) rfl (by assumption) ?_
    refine j_iconst C (nI 4) dX10_pinned_9 (by decide) ?_
    refine j_ialdN C (by assumption) dX10_pinned_10 (by omega) (by decide) ?_
    refine j_top (nI n) (hn) ?_
    refine j_icmp_ge C 30 dX10_pinned_11 (by decide) (fun h => absurd h (nI_ge hk (by omega))) (fun _ => ?_)
    refine j_iload_n C dX10_pinned_14 rfl ?_
    refine j_aload_n C dX10_pinned_15 rfl ?_
    refine j_iload_n C dX10_pinned_16 rfl ?_
    refine j_bipush C (nI 7) dX10_pinned_17 (by decide) ?_
    refine j_cVi C (c_X10_ofPlan _ _ _ _ _ (by assumption) (by omega)) yc_X10_ofPlan mn_X10_47 im_X10_ofPlan se_X10_ofPlan rfl rfl dX10_pinned_19 rfl rfl (by assumption) (by decide) (Nat.le_of_ble_eq_true rfl) (by decide) ?_
    first | with_reducible refine j_iaddN C dX10_pinned_22 ?_ | refine j_iadd C dX10_pinned_22 ?_
    refine j_top (sI (zPinF (M (m + 1))) (k + 1)) (rfl) ?_
    refine j_istore_n C dX10_pinned_23 (by rw [hxn]; decide) ?_
    first | refine j_iinc1 C dX10_pinned_24 rfl (by rw [hxn]; decide) ?_ | refine j_iinc C _ dX10_pinned_24 rfl rfl (by rw [hxn]; decide) ?_
    refine j_goto C 4 dX10_pinned_27 (by decide) ?_
    exact ih trivial
  · skip
    refine j_iload_n C dX10_pinned_4 rfl ?_
    refine j_aload_n C dX10_pinned_5 rfl ?_
    refine j_getR C fl_X10_7 (by assumption) dX10_pinned_6 (by decide) rfl (by assumption) ?_
    refine j_iconst C (nI 4) dX10_pinned_9 (by decide) ?_
    refine j_ialdN C (by assumption) dX10_pinned_10 (by omega) (by decide) ?_
    refine j_top (nI n) (hn) ?_
    refine j_icmp_ge C 30 dX10_pinned_11 (by decide) (fun _ => ?_) (fun h => absurd (Int32.le_refl _) h)
    refine j_iload_n C dX10_pinned_30 rfl ?_
    exact j_ireturn C E dX10_pinned_31 (rfl) (by decide) (by decide) (⟨rfl, rfl, rfl, rfl⟩)

set_option maxHeartbeats 4000000 in
set_option maxRecDepth 100000 in
theorem c_X10_plansOf (l : Launch) (ω : jW) (γ : jG) (M : jM) (R : jR) {m : Nat} (g : gM ω γ m) {n : Nat} (hn : M (m + 1) 4 = nI n) (hn8 : n ≤ 8) (t : Int32) : Ct l ω yX10_plansOf cX10_plansOf 4 (some .int) 2 0 0 [.ref m, .int t] γ M R (jx γ (some (.int (sI (zOfF (M (m + 1)) t) n))) M R) := by
  refine Ct_of (by decide) (Nat.le_of_ble_eq_true rfl) rfl (jcat_of rfl) ?_
  intro X C E hnm hxl hxn
  subst hxl
  have g9 := g
  obtain ⟨g0, g1, g2, g3, g4, g5, g6, g7, g8⟩ := g
  refine j_iconst C (nI 0) dX10_plansOf_0 (by decide) ?_
  refine j_istore_n C dX10_plansOf_1 (by rw [hxn]; decide) ?_
  refine j_iconst C (nI 0) dX10_plansOf_2 (by decide) ?_
  refine j_istore_n C dX10_plansOf_3 (by rw [hxn]; decide) ?_
  refine j_loop n (fun k => [(0, .ref m), (1, .int t), (2, .int (sI (zOfF (M (m + 1)) t) k)), (3, .int (nI k))]) (fun _ => M) (fun _ => R) (fun _ => True) (trivial) (fun k hk _ ih => ?_) (fun _ => ?_)
  · skip
    refine j_iload_n C dX10_plansOf_4 rfl ?_
    refine j_aload_n C dX10_plansOf_5 rfl ?_
    refine j_getR C fl_X10_7 (by assumption) dX10_plansOf_6 (by decide) rfl (by assumption) ?_
    refine j_iconst C (nI 4) dX10_plansOf_9 (by decide) ?_
    refine j_ialdN C (by assumption) dX10_plansOf_10 (by omega) (by decide) ?_
    refine j_top (nI n) (hn) ?_
    refine j_icmp_ge C 38 dX10_plansOf_11 (by decide) (fun h => absurd h (nI_ge hk (by omega))) (fun _ => ?_)
    refine j_iload_n C dX10_plansOf_14 rfl ?_
    refine j_aload_n C dX10_plansOf_15 rfl ?_
    refine j_iload_n C dX10_plansOf_16 rfl ?_
    refine j_iconst C (nI 1) dX10_plansOf_17 (by decide) ?_
    refine j_cVi C (c_X10_ofPlan _ _ _ _ _ (by assumption) (by omega)) yc_X10_ofPlan mn_X10_47 im_X10_ofPlan se_X10_ofPlan rfl rfl dX10_plansOf_18 rfl rfl (by assumption) (by decide) (Nat.le_of_ble_eq_true rfl) (by decide) ?_
    refine j_iload_n C dX10_plansOf_21 rfl ?_
    refine j_icmp_ne C 29 dX10_plansOf_22 (by decide) (fun h22 => ?_) (fun h22 => ?_)
    · skip
      refine j_iconst C (nI 0) dX10_plansOf_29 (by decide) ?_
      first | with_reducible refine j_iaddN C dX10_plansOf_30 ?_ | refine j_iadd C dX10_plansOf_30 ?_
      refine j_top (sI (zOfF (M (m + 1)) t) (k + 1)) (by simp [sI, zOfF, h22]) ?_
      refine j_istore_n C dX10_plansOf_31 (by rw [hxn]; decide) ?_
      first | refine j_iinc1 C dX10_plansOf_32 rfl (by rw [hxn]; decide) ?_ | refine j_iinc C _ dX10_plansOf_32 rfl rfl (by rw [hxn]; decide) ?_
      refine j_goto C 4 dX10_plansOf_35 (by decide) ?_
      exact ih trivial
    · skip
      refine j_iconst C (nI 1) dX10_plansOf_25 (by decide) ?_
      refine j_goto C 30 dX10_plansOf_26 (by decide) ?_
      first | with_reducible refine j_iaddN C dX10_plansOf_30 ?_ | refine j_iadd C dX10_plansOf_30 ?_
      refine j_top (sI (zOfF (M (m + 1)) t) (k + 1)) (by simp [sI, zOfF, h22]) ?_
      refine j_istore_n C dX10_plansOf_31 (by rw [hxn]; decide) ?_
      first | refine j_iinc1 C dX10_plansOf_32 rfl (by rw [hxn]; decide) ?_ | refine j_iinc C _ dX10_plansOf_32 rfl rfl (by rw [hxn]; decide) ?_
      refine j_goto C 4 dX10_plansOf_35 (by decide) ?_
      exact ih trivial
  · skip
    refine j_iload_n C dX10_plansOf_4 rfl ?_
    refine j_aload_n C dX10_plansOf_5 rfl ?_
    refine j_getR C fl_X10_7 (by assumption) dX10_plansOf_6 (by decide) rfl (by assumption) ?_
    refine j_iconst C (nI 4) dX10_plansOf_9 (by decide) ?_
    refine j_ialdN C (by assumption) dX10_plansOf_10 (by omega) (by decide) ?_
    refine j_top (nI n) (hn) ?_
    refine j_icmp_ge C 38 dX10_plansOf_11 (by decide) (fun _ => ?_) (fun h => absurd (Int32.le_refl _) h)
    refine j_iload_n C dX10_plansOf_38 rfl ?_
    exact j_ireturn C E dX10_plansOf_39 (rfl) (by decide) (by decide) (⟨rfl, rfl, rfl, rfl⟩)

set_option maxHeartbeats 4000000 in
set_option maxRecDepth 100000 in
theorem c_X10_placeOf (l : Launch) (ω : jW) (γ : jG) (M : jM) (R : jR) {m : Nat} (g : gM ω γ m) {n : Nat} (hn : M (m + 1) 4 = nI n) (hn8 : n ≤ 8) (x : Int32) : Ct l ω yX10_placeOf cX10_placeOf 4 (some .int) 2 0 0 [.ref m, .int x] γ M R (jx γ (some (.int (zLast (zPlc (M (m + 1)) x) n))) M R) := by
  refine Ct_of (by decide) (Nat.le_of_ble_eq_true rfl) rfl (jcat_of rfl) ?_
  intro X C E hnm hxl hxn
  subst hxl
  have g9 := g
  obtain ⟨g0, g1, g2, g3, g4, g5, g6, g7, g8⟩ := g
  refine j_bipush C (-4) dX10_placeOf_0 (by decide) ?_
  refine j_istore_n C dX10_placeOf_2 (by rw [hxn]; decide) ?_
  refine j_iconst C (nI 0) dX10_placeOf_3 (by decide) ?_
  refine j_istore_n C dX10_placeOf_4 (by rw [hxn]; decide) ?_
  refine j_loop n (fun k => [(0, .ref m), (1, .int x), (2, .int (zLast (zPlc (M (m + 1)) x) k)), (3, .int (nI k))]) (fun _ => M) (fun _ => R) (fun _ => True) (trivial) (fun k hk _ ih => ?_) (fun _ => ?_)
  · skip
    refine j_iload_n C dX10_placeOf_5 rfl ?_
    refine j_aload_n C dX10_placeOf_6 rfl ?_
    refine j_getR C fl_X10_7 (by assumption) dX10_placeOf_7 (by decide) rfl (by assumption) ?_
    refine j_iconst C (nI 4) dX10_placeOf_10 (by decide) ?_
    refine j_ialdN C (by assumption) dX10_placeOf_11 (by omega) (by decide) ?_
    refine j_top (nI n) (hn) ?_
    refine j_icmp_ge C 37 dX10_placeOf_12 (by decide) (fun h => absurd h (nI_ge hk (by omega))) (fun _ => ?_)
    refine j_aload_n C dX10_placeOf_15 rfl ?_
    refine j_iload_n C dX10_placeOf_16 rfl ?_
    refine j_iconst C (nI 0) dX10_placeOf_17 (by decide) ?_
    refine j_cVi C (c_X10_ofPlan _ _ _ _ _ (by assumption) (by omega)) yc_X10_ofPlan mn_X10_47 im_X10_ofPlan se_X10_ofPlan rfl rfl dX10_placeOf_18 rfl rfl (by assumption) (by decide) (Nat.le_of_ble_eq_true rfl) (by decide) ?_
    refine j_iload_n C dX10_placeOf_21 rfl ?_
    refine j_icmp_ne C 29 dX10_placeOf_22 (by decide) (fun h22 => ?_) (fun h22 => ?_)
    · skip
      refine j_iload_n C dX10_placeOf_29 rfl ?_
      refine j_top (zLast (zPlc (M (m + 1)) x) (k + 1)) (by simp_all [zLast, zPlc]) ?_
      refine j_istore_n C dX10_placeOf_30 (by rw [hxn]; decide) ?_
      first | refine j_iinc1 C dX10_placeOf_31 rfl (by rw [hxn]; decide) ?_ | refine j_iinc C _ dX10_placeOf_31 rfl rfl (by rw [hxn]; decide) ?_
      refine j_goto C 5 dX10_placeOf_34 (by decide) ?_
      exact ih trivial
    · skip
      refine j_iload_n C dX10_placeOf_25 rfl ?_
      refine j_goto C 30 dX10_placeOf_26 (by decide) ?_
      refine j_top (zLast (zPlc (M (m + 1)) x) (k + 1)) (by simp_all [zLast, zPlc]) ?_
      refine j_istore_n C dX10_placeOf_30 (by rw [hxn]; decide) ?_
      first | refine j_iinc1 C dX10_placeOf_31 rfl (by rw [hxn]; decide) ?_ | refine j_iinc C _ dX10_placeOf_31 rfl rfl (by rw [hxn]; decide) ?_
      refine j_goto C 5 dX10_placeOf_34 (by decide) ?_
      exact ih trivial
  · skip
    refine j_iload_n C dX10_placeOf_5 rfl ?_
    refine j_aload_n C dX10_placeOf_6 rfl ?_
    refine j_getR C fl_X10_7 (by assumption) dX10_placeOf_7 (by decide) rfl (by assumption) ?_
    refine j_iconst C (nI 4) dX10_placeOf_10 (by decide) ?_
    refine j_ialdN C (by assumption) dX10_placeOf_11 (by omega) (by decide) ?_
    refine j_top (nI n) (hn) ?_
    refine j_icmp_ge C 37 dX10_placeOf_12 (by decide) (fun _ => ?_) (fun h => absurd (Int32.le_refl _) h)
    refine j_iload_n C dX10_placeOf_37 rfl ?_
    exact j_ireturn C E dX10_placeOf_38 (rfl) (by decide) (by decide) (⟨rfl, rfl, rfl, rfl⟩)

set_option maxHeartbeats 4000000 in
set_option maxRecDepth 100000 in
theorem c_X10_placeFor (l : Launch) (ω : jW) (γ : jG) (M : jM) (R : jR) {m : Nat} (g : gM ω γ m) {n : Nat} (hn : M (m + 1) 4 = nI n) (hn8 : n ≤ 8) (t x : Int32) : Ct l ω yX10_placeFor cX10_placeFor 5 (some .int) 2 0 0 [.ref m, .int t, .int x] γ M R (jx γ (some (.int (zLast (zFor (M (m + 1)) t x) n))) M R) := by
  refine Ct_of (by decide) (Nat.le_of_ble_eq_true rfl) rfl (jcat_of rfl) ?_
  intro X C E hnm hxl hxn
  subst hxl
  have g9 := g
  obtain ⟨g0, g1, g2, g3, g4, g5, g6, g7, g8⟩ := g
  refine j_bipush C (-4) dX10_placeFor_0 (by decide) ?_
  refine j_istore_n C dX10_placeFor_2 (by rw [hxn]; decide) ?_
  refine j_iconst C (nI 0) dX10_placeFor_3 (by decide) ?_
  refine j_istore C dX10_placeFor_4 (by rw [hxn]; decide) ?_
  refine j_loop n (fun k => [(0, .ref m), (1, .int t), (2, .int x), (3, .int (zLast (zFor (M (m + 1)) t x) k)), (4, .int (nI k))]) (fun _ => M) (fun _ => R) (fun _ => True) (trivial) (fun k hk _ ih => ?_) (fun _ => ?_)
  · skip
    refine j_iload C dX10_placeFor_6 rfl ?_
    refine j_aload_n C dX10_placeFor_8 rfl ?_
    refine j_getR C fl_X10_7 (by assumption) dX10_placeFor_9 (by decide) rfl (by assumption) ?_
    refine j_iconst C (nI 4) dX10_placeFor_12 (by decide) ?_
    refine j_ialdN C (by assumption) dX10_placeFor_13 (by omega) (by decide) ?_
    refine j_top (nI n) (hn) ?_
    refine j_icmp_ge C 52 dX10_placeFor_14 (by decide) (fun h => absurd h (nI_ge hk (by omega))) (fun _ => ?_)
    refine j_aload_n C dX10_placeFor_17 rfl ?_
    refine j_iload C dX10_placeFor_18 rfl ?_
    refine j_iconst C (nI 1) dX10_placeFor_20 (by decide) ?_
    refine j_cVi C (c_X10_ofPlan _ _ _ _ _ (by assumption) (by omega)) yc_X10_ofPlan mn_X10_47 im_X10_ofPlan se_X10_ofPlan rfl rfl dX10_placeFor_21 rfl rfl (by assumption) (by decide) (Nat.le_of_ble_eq_true rfl) (by decide) ?_
    refine j_iload_n C dX10_placeFor_24 rfl ?_
    refine j_icmp_ne C 44 dX10_placeFor_25 (by decide) (fun h25 => ?_) (fun h25 => ?_)
    · skip
      refine j_iload_n C dX10_placeFor_44 rfl ?_
      refine j_top (zLast (zFor (M (m + 1)) t x) (k + 1)) (by simp_all [zLast, zFor]) ?_
      refine j_istore_n C dX10_placeFor_45 (by rw [hxn]; decide) ?_
      first | refine j_iinc1 C dX10_placeFor_46 rfl (by rw [hxn]; decide) ?_ | refine j_iinc C _ dX10_placeFor_46 rfl rfl (by rw [hxn]; decide) ?_
      refine j_goto C 6 dX10_placeFor_49 (by decide) ?_
      exact ih trivial
    · skip
      refine j_aload_n C dX10_placeFor_28 rfl ?_
      refine j_iload C dX10_placeFor_29 rfl ?_
      refine j_iconst C (nI 2) dX10_placeFor_31 (by decide) ?_
      refine j_cVi C (c_X10_ofPlan _ _ _ _ _ (by assumption) (by omega)) yc_X10_ofPlan mn_X10_47 im_X10_ofPlan se_X10_ofPlan rfl rfl dX10_placeFor_32 rfl rfl (by assumption) (by decide) (Nat.le_of_ble_eq_true rfl) (by decide) ?_
      refine j_iload_n C dX10_placeFor_35 rfl ?_
      refine j_icmp_ne C 44 dX10_placeFor_36 (by decide) (fun h36 => ?_) (fun h36 => ?_)
      · skip
        refine j_iload_n C dX10_placeFor_44 rfl ?_
        refine j_top (zLast (zFor (M (m + 1)) t x) (k + 1)) (by simp_all [zLast, zFor]) ?_
        refine j_istore_n C dX10_placeFor_45 (by rw [hxn]; decide) ?_
        first | refine j_iinc1 C dX10_placeFor_46 rfl (by rw [hxn]; decide) ?_ | refine j_iinc C _ dX10_placeFor_46 rfl rfl (by rw [hxn]; decide) ?_
        refine j_goto C 6 dX10_placeFor_49 (by decide) ?_
        exact ih trivial
      · skip
        refine j_iload C dX10_placeFor_39 rfl ?_
        refine j_goto C 45 dX10_placeFor_41 (by decide) ?_
        refine j_top (zLast (zFor (M (m + 1)) t x) (k + 1)) (by simp_all [zLast, zFor]) ?_
        refine j_istore_n C dX10_placeFor_45 (by rw [hxn]; decide) ?_
        first | refine j_iinc1 C dX10_placeFor_46 rfl (by rw [hxn]; decide) ?_ | refine j_iinc C _ dX10_placeFor_46 rfl rfl (by rw [hxn]; decide) ?_
        refine j_goto C 6 dX10_placeFor_49 (by decide) ?_
        exact ih trivial
  · skip
    refine j_iload C dX10_placeFor_6 rfl ?_
    refine j_aload_n C dX10_placeFor_8 rfl ?_
    refine j_getR C fl_X10_7 (by assumption) dX10_placeFor_9 (by decide) rfl (by assumption) ?_
    refine j_iconst C (nI 4) dX10_placeFor_12 (by decide) ?_
    refine j_ialdN C (by assumption) dX10_placeFor_13 (by omega) (by decide) ?_
    refine j_top (nI n) (hn) ?_
    refine j_icmp_ge C 52 dX10_placeFor_14 (by decide) (fun _ => ?_) (fun h => absurd (Int32.le_refl _) h)
    refine j_iload_n C dX10_placeFor_52 rfl ?_
    exact j_ireturn C E dX10_placeFor_53 (rfl) (by decide) (by decide) (⟨rfl, rfl, rfl, rfl⟩)

set_option maxHeartbeats 4000000 in
set_option maxRecDepth 100000 in
theorem c_X10_isAhead (l : Launch) (ω : jW) (γ : jG) (M : jM) (R : jR) {m : Nat} (g : gM ω γ m) {p q : Nat} (hp : 367 + 9 * p + 8 < 439) (hq : 367 + 9 * q + 8 < 439) : Ct l ω yX10_isAhead cX10_isAhead 4 (some .boolean) 2 0 0 [.ref m, .int (nI p), .int (nI q)] γ M R (jx γ (some (.int (zAhead (M (m + 1)) p q))) M R) := by
  refine Ct_of (by decide) (Nat.le_of_ble_eq_true rfl) rfl (jcat_of rfl) ?_
  intro X C E hnm hxl hxn
  subst hxl
  have g9 := g
  obtain ⟨g0, g1, g2, g3, g4, g5, g6, g7, g8⟩ := g
  refine j_aload_n C dX10_isAhead_0 rfl ?_
  refine j_iload_n C dX10_isAhead_1 rfl ?_
  refine j_iconst C (nI 5) dX10_isAhead_2 (by decide) ?_
  refine j_cVi C (c_X10_ofPlan _ _ _ _ _ (by assumption) (by omega)) yc_X10_ofPlan mn_X10_47 im_X10_ofPlan se_X10_ofPlan rfl rfl dX10_isAhead_3 rfl rfl (by assumption) (by decide) (Nat.le_of_ble_eq_true rfl) (by decide) ?_
  refine j_aload_n C dX10_isAhead_6 rfl ?_
  refine j_iload_n C dX10_isAhead_7 rfl ?_
  refine j_iconst C (nI 5) dX10_isAhead_8 (by decide) ?_
  refine j_cVi C (c_X10_ofPlan _ _ _ _ _ (by assumption) (by omega)) yc_X10_ofPlan mn_X10_47 im_X10_ofPlan se_X10_ofPlan rfl rfl dX10_isAhead_9 rfl rfl (by assumption) (by decide) (Nat.le_of_ble_eq_true rfl) (by decide) ?_
  refine j_isub C dX10_isAhead_12 ?_
  refine j_istore_n C dX10_isAhead_13 (by rw [hxn]; decide) ?_
  refine j_iload_n C dX10_isAhead_14 rfl ?_
  refine j_if_lt C 39 dX10_isAhead_15 (by decide) (fun h15 => ?_) (fun h15 => ?_)
  · skip
    refine j_iconst C (nI 1) dX10_isAhead_39 (by decide) ?_
    refine j_goto C 44 dX10_isAhead_40 (by decide) ?_
    exact j_ireturn C E dX10_isAhead_44 (by decide) (by decide) (by decide) (⟨by simp only [zAhead, if_pos h15], rfl, rfl, rfl⟩)
  · skip
    refine j_iload_n C dX10_isAhead_18 rfl ?_
    refine j_if_ne C 43 dX10_isAhead_19 (by decide) (fun h19 => ?_) (fun h19 => ?_)
    · skip
      refine j_iconst C (nI 0) dX10_isAhead_43 (by decide) ?_
      exact j_ireturn C E dX10_isAhead_44 (by decide) (by decide) (by decide) (⟨by simp only [zAhead, if_neg h15, if_neg h19], rfl, rfl, rfl⟩)
    · skip
      refine j_aload_n C dX10_isAhead_22 rfl ?_
      refine j_iload_n C dX10_isAhead_23 rfl ?_
      refine j_bipush C (nI 8) dX10_isAhead_24 (by decide) ?_
      refine j_cVi C (c_X10_ofPlan _ _ _ _ _ (by assumption) (by omega)) yc_X10_ofPlan mn_X10_47 im_X10_ofPlan se_X10_ofPlan rfl rfl dX10_isAhead_26 rfl rfl (by assumption) (by decide) (Nat.le_of_ble_eq_true rfl) (by decide) ?_
      refine j_aload_n C dX10_isAhead_29 rfl ?_
      refine j_iload_n C dX10_isAhead_30 rfl ?_
      refine j_bipush C (nI 8) dX10_isAhead_31 (by decide) ?_
      refine j_cVi C (c_X10_ofPlan _ _ _ _ _ (by assumption) (by omega)) yc_X10_ofPlan mn_X10_47 im_X10_ofPlan se_X10_ofPlan rfl rfl dX10_isAhead_33 rfl rfl (by assumption) (by decide) (Nat.le_of_ble_eq_true rfl) (by decide) ?_
      refine j_icmp_ge C 43 dX10_isAhead_36 (by decide) (fun h36 => ?_) (fun h36 => ?_)
      · skip
        refine j_iconst C (nI 0) dX10_isAhead_43 (by decide) ?_
        exact j_ireturn C E dX10_isAhead_44 (by decide) (by decide) (by decide) (⟨by simp only [zAhead, if_neg h15, if_pos h19, if_pos h36], rfl, rfl, rfl⟩)
      · skip
        refine j_iconst C (nI 1) dX10_isAhead_39 (by decide) ?_
        refine j_goto C 44 dX10_isAhead_40 (by decide) ?_
        exact j_ireturn C E dX10_isAhead_44 (by decide) (by decide) (by decide) (⟨by simp only [zAhead, if_neg h15, if_pos h19, if_neg h36], rfl, rfl, rfl⟩)

set_option maxHeartbeats 4000000 in
set_option maxRecDepth 100000 in
theorem c_X10_dropsAt (l : Launch) (ω : jW) (γ : jG) (M : jM) (R : jR) {m : Nat} (g : gM ω γ m) {n : Nat} (hn : M (m + 1) 4 = nI n) (hn8 : n ≤ 8) (x : Int32) : Ct l ω yX10_dropsAt cX10_dropsAt 6 (some .int) 3 0 0 [.ref m, .int x] γ M R (jx γ (some (.int (zLast (zDrp (M (m + 1)) n x) n))) M R) := by
  refine Ct_of (by decide) (Nat.le_of_ble_eq_true rfl) rfl (jcat_of rfl) ?_
  intro X C E hnm hxl hxn
  subst hxl
  have g9 := g
  obtain ⟨g0, g1, g2, g3, g4, g5, g6, g7, g8⟩ := g
  refine j_bipush C (-4) dX10_dropsAt_0 (by decide) ?_
  refine j_istore_n C dX10_dropsAt_2 (by rw [hxn]; decide) ?_
  refine j_iconst C (nI 0) dX10_dropsAt_3 (by decide) ?_
  refine j_istore_n C dX10_dropsAt_4 (by rw [hxn]; decide) ?_
  refine j_loop n (fun k => [(0, .ref m), (1, .int x), (2, .int (zLast (zDrp (M (m + 1)) n x) k)), (3, .int (nI k))]) (fun _ => M) (fun _ => R) (fun _ => True) (trivial) (fun k hk _ ih => ?_) (fun _ => ?_)
  · skip
    refine j_iload_n C dX10_dropsAt_5 rfl ?_
    refine j_aload_n C dX10_dropsAt_6 rfl ?_
    refine j_getR C fl_X10_7 (by assumption) dX10_dropsAt_7 (by decide) rfl (by assumption) ?_
    refine j_iconst C (nI 4) dX10_dropsAt_10 (by decide) ?_
    refine j_ialdN C (by assumption) dX10_dropsAt_11 (by omega) (by decide) ?_
    refine j_top (nI n) (hn) ?_
    refine j_icmp_ge C 97 dX10_dropsAt_12 (by decide) (fun h => absurd h (nI_ge hk (by omega))) (fun _ => ?_)
    refine j_iconst C (nI 0) dX10_dropsAt_15 (by decide) ?_
    refine j_istore C dX10_dropsAt_16 (by rw [hxn]; decide) ?_
    refine j_iconst C (nI 0) dX10_dropsAt_18 (by decide) ?_
    refine j_istore C dX10_dropsAt_19 (by rw [hxn]; decide) ?_
    refine j_loop n (fun j => [(0, .ref m), (1, .int x), (2, .int (zLast (zDrp (M (m + 1)) n x) k)), (3, .int (nI k)), (4, .int (sI (zAhF (M (m + 1)) k) j)), (5, .int (nI j))]) (fun _ => M) (fun _ => R) (fun _ => True) (trivial) (fun j hj _ ih => ?_) (fun _ => ?_)
    · skip
      refine j_iload C dX10_dropsAt_21 rfl ?_
      refine j_aload_n C dX10_dropsAt_23 rfl ?_
      refine j_getR C fl_X10_7 (by assumption) dX10_dropsAt_24 (by decide) rfl (by assumption) ?_
      refine j_iconst C (nI 4) dX10_dropsAt_27 (by decide) ?_
      refine j_ialdN C (by assumption) dX10_dropsAt_28 (by omega) (by decide) ?_
      refine j_top (nI n) (hn) ?_
      refine j_icmp_ge C 69 dX10_dropsAt_29 (by decide) (fun h => absurd h (nI_ge hj (by omega))) (fun _ => ?_)
      refine j_iload C dX10_dropsAt_32 rfl ?_
      refine j_aload_n C dX10_dropsAt_34 rfl ?_
      refine j_iload C dX10_dropsAt_35 rfl ?_
      refine j_bipush C (nI 7) dX10_dropsAt_37 (by decide) ?_
      refine j_cVi C (c_X10_ofPlan _ _ _ _ _ (by assumption) (by omega)) yc_X10_ofPlan mn_X10_47 im_X10_ofPlan se_X10_ofPlan rfl rfl dX10_dropsAt_39 rfl rfl (by assumption) (by decide) (Nat.le_of_ble_eq_true rfl) (by decide) ?_
      refine j_if_ne C 59 dX10_dropsAt_42 (by decide) (fun h42 => ?_) (fun h42 => ?_)
      · skip
        refine j_iconst C (nI 0) dX10_dropsAt_59 (by decide) ?_
        first | with_reducible refine j_iaddN C dX10_dropsAt_60 ?_ | refine j_iadd C dX10_dropsAt_60 ?_
        refine j_top (sI (zAhF (M (m + 1)) k) (j + 1)) (by simp_all [sI, zAhF]) ?_
        refine j_istore C dX10_dropsAt_61 (by rw [hxn]; decide) ?_
        first | refine j_iinc1 C dX10_dropsAt_63 rfl (by rw [hxn]; decide) ?_ | refine j_iinc C _ dX10_dropsAt_63 rfl rfl (by rw [hxn]; decide) ?_
        refine j_goto C 21 dX10_dropsAt_66 (by decide) ?_
        exact ih trivial
      · skip
        refine j_aload_n C dX10_dropsAt_45 rfl ?_
        refine j_iload C dX10_dropsAt_46 rfl ?_
        refine j_iload_n C dX10_dropsAt_48 rfl ?_
        refine j_cVi C (c_X10_isAhead _ _ _ _ _ (by assumption) (by omega) (by omega)) yc_X10_isAhead mn_X10_104 im_X10_isAhead se_X10_isAhead rfl rfl dX10_dropsAt_49 rfl rfl (by assumption) (by decide) (Nat.le_of_ble_eq_true rfl) (by decide) ?_
        refine j_if_eq C 59 dX10_dropsAt_52 (by decide) (fun h52 => ?_) (fun h52 => ?_)
        · skip
          refine j_iconst C (nI 0) dX10_dropsAt_59 (by decide) ?_
          first | with_reducible refine j_iaddN C dX10_dropsAt_60 ?_ | refine j_iadd C dX10_dropsAt_60 ?_
          refine j_top (sI (zAhF (M (m + 1)) k) (j + 1)) (by simp_all [sI, zAhF]) ?_
          refine j_istore C dX10_dropsAt_61 (by rw [hxn]; decide) ?_
          first | refine j_iinc1 C dX10_dropsAt_63 rfl (by rw [hxn]; decide) ?_ | refine j_iinc C _ dX10_dropsAt_63 rfl rfl (by rw [hxn]; decide) ?_
          refine j_goto C 21 dX10_dropsAt_66 (by decide) ?_
          exact ih trivial
        · skip
          refine j_iconst C (nI 1) dX10_dropsAt_55 (by decide) ?_
          refine j_goto C 60 dX10_dropsAt_56 (by decide) ?_
          first | with_reducible refine j_iaddN C dX10_dropsAt_60 ?_ | refine j_iadd C dX10_dropsAt_60 ?_
          refine j_top (sI (zAhF (M (m + 1)) k) (j + 1)) (by simp_all [sI, zAhF]) ?_
          refine j_istore C dX10_dropsAt_61 (by rw [hxn]; decide) ?_
          first | refine j_iinc1 C dX10_dropsAt_63 rfl (by rw [hxn]; decide) ?_ | refine j_iinc C _ dX10_dropsAt_63 rfl rfl (by rw [hxn]; decide) ?_
          refine j_goto C 21 dX10_dropsAt_66 (by decide) ?_
          exact ih trivial
    · skip
      refine j_iload C dX10_dropsAt_21 rfl ?_
      refine j_aload_n C dX10_dropsAt_23 rfl ?_
      refine j_getR C fl_X10_7 (by assumption) dX10_dropsAt_24 (by decide) rfl (by assumption) ?_
      refine j_iconst C (nI 4) dX10_dropsAt_27 (by decide) ?_
      refine j_ialdN C (by assumption) dX10_dropsAt_28 (by omega) (by decide) ?_
      refine j_top (nI n) (hn) ?_
      refine j_icmp_ge C 69 dX10_dropsAt_29 (by decide) (fun _ => ?_) (fun h => absurd (Int32.le_refl _) h)
      refine j_aload_n C dX10_dropsAt_69 rfl ?_
      refine j_iload_n C dX10_dropsAt_70 rfl ?_
      refine j_bipush C (nI 7) dX10_dropsAt_71 (by decide) ?_
      refine j_cVi C (c_X10_ofPlan _ _ _ _ _ (by assumption) (by omega)) yc_X10_ofPlan mn_X10_47 im_X10_ofPlan se_X10_ofPlan rfl rfl dX10_dropsAt_73 rfl rfl (by assumption) (by decide) (Nat.le_of_ble_eq_true rfl) (by decide) ?_
      refine j_if_ne C 89 dX10_dropsAt_76 (by decide) (fun h76 => ?_) (fun h76 => ?_)
      · skip
        refine j_iload_n C dX10_dropsAt_89 rfl ?_
        refine j_top (zLast (zDrp (M (m + 1)) n x) (k + 1)) (by simp_all [zLast, zDrp]) ?_
        refine j_istore_n C dX10_dropsAt_90 (by rw [hxn]; decide) ?_
        first | refine j_iinc1 C dX10_dropsAt_91 rfl (by rw [hxn]; decide) ?_ | refine j_iinc C _ dX10_dropsAt_91 rfl rfl (by rw [hxn]; decide) ?_
        refine j_goto C 5 dX10_dropsAt_94 (by decide) ?_
        refine j_locs [0, 1, 2, 3] rfl ?_
        exact ih trivial
      · skip
        refine j_iload C dX10_dropsAt_79 rfl ?_
        refine j_iload_n C dX10_dropsAt_81 rfl ?_
        refine j_icmp_ne C 89 dX10_dropsAt_82 (by decide) (fun h82 => ?_) (fun h82 => ?_)
        · skip
          refine j_iload_n C dX10_dropsAt_89 rfl ?_
          refine j_top (zLast (zDrp (M (m + 1)) n x) (k + 1)) (by simp_all [zLast, zDrp]) ?_
          refine j_istore_n C dX10_dropsAt_90 (by rw [hxn]; decide) ?_
          first | refine j_iinc1 C dX10_dropsAt_91 rfl (by rw [hxn]; decide) ?_ | refine j_iinc C _ dX10_dropsAt_91 rfl rfl (by rw [hxn]; decide) ?_
          refine j_goto C 5 dX10_dropsAt_94 (by decide) ?_
          refine j_locs [0, 1, 2, 3] rfl ?_
          exact ih trivial
        · skip
          refine j_iload_n C dX10_dropsAt_85 rfl ?_
          refine j_goto C 90 dX10_dropsAt_86 (by decide) ?_
          refine j_top (zLast (zDrp (M (m + 1)) n x) (k + 1)) (by simp_all [zLast, zDrp]) ?_
          refine j_istore_n C dX10_dropsAt_90 (by rw [hxn]; decide) ?_
          first | refine j_iinc1 C dX10_dropsAt_91 rfl (by rw [hxn]; decide) ?_ | refine j_iinc C _ dX10_dropsAt_91 rfl rfl (by rw [hxn]; decide) ?_
          refine j_goto C 5 dX10_dropsAt_94 (by decide) ?_
          refine j_locs [0, 1, 2, 3] rfl ?_
          exact ih trivial
  · skip
    refine j_iload_n C dX10_dropsAt_5 rfl ?_
    refine j_aload_n C dX10_dropsAt_6 rfl ?_
    refine j_getR C fl_X10_7 (by assumption) dX10_dropsAt_7 (by decide) rfl (by assumption) ?_
    refine j_iconst C (nI 4) dX10_dropsAt_10 (by decide) ?_
    refine j_ialdN C (by assumption) dX10_dropsAt_11 (by omega) (by decide) ?_
    refine j_top (nI n) (hn) ?_
    refine j_icmp_ge C 97 dX10_dropsAt_12 (by decide) (fun _ => ?_) (fun h => absurd (Int32.le_refl _) h)
    refine j_iload_n C dX10_dropsAt_97 rfl ?_
    exact j_ireturn C E dX10_dropsAt_98 (rfl) (by decide) (by decide) (⟨rfl, rfl, rfl, rfl⟩)

set_option maxHeartbeats 4000000 in
set_option maxRecDepth 100000 in
theorem c_X10_holds (l : Launch) (ω : jW) (γ : jG) (M : jM) (R : jR) {m : Nat} (g : gM ω γ m) {t k : Nat} (ht : t < 6) (hk4 : k < 4) (x : Int32) : Ct l ω yX10_holds cX10_holds 5 (some .boolean) 2 0 0 [.ref m, .int (nI t), .int (nI k), .int x] γ M R (jx γ (some (.int (zHold (M (m + 1)) (M (m + 4)) t k x))) M R) := by
  refine Ct_of (by decide) (Nat.le_of_ble_eq_true rfl) rfl (jcat_of rfl) ?_
  intro X C E hnm hxl hxn
  subst hxl
  have g9 := g
  obtain ⟨g0, g1, g2, g3, g4, g5, g6, g7, g8⟩ := g
  refine j_aload_n C dX10_holds_0 rfl ?_
  refine j_iload_n C dX10_holds_1 rfl ?_
  refine j_iload_n C dX10_holds_2 rfl ?_
  refine j_cVi C (c_X10_operatorOf _ _ _ _ _ (by assumption) (by omega)) yc_X10_operatorOf mn_X10_78 im_X10_operatorOf se_X10_operatorOf rfl rfl dX10_holds_3 rfl rfl (by assumption) (by decide) (Nat.le_of_ble_eq_true rfl) (by decide) ?_
  refine j_istore C dX10_holds_6 (by rw [hxn]; decide) ?_
  refine j_iload C dX10_holds_8 rfl ?_
  refine j_if_ne C 31 dX10_holds_10 (by decide) (fun h10 => ?_) (fun h10 => ?_)
  · skip
    refine j_iload C dX10_holds_31 rfl ?_
    refine j_iconst C (nI 1) dX10_holds_33 (by decide) ?_
    refine j_icmp_ne C 55 dX10_holds_34 (by decide) (fun h34 => ?_) (fun h34 => ?_)
    · skip
      refine j_iload_n C dX10_holds_55 rfl ?_
      refine j_aload_n C dX10_holds_56 rfl ?_
      refine j_getR C fl_X10_19 (by assumption) dX10_holds_57 (by decide) rfl (by assumption) ?_
      refine j_iload_n C dX10_holds_60 rfl ?_
      refine j_ialdN C (by assumption) dX10_holds_61 (by omega) (by decide) ?_
      refine j_icmp_le C 69 dX10_holds_62 (by decide) (fun h62 => ?_) (fun h62 => ?_)
      · skip
        refine j_iconst C (nI 0) dX10_holds_69 (by decide) ?_
        exact j_ireturn C E dX10_holds_70 (by decide) (by decide) (by decide) (⟨by simp only [zHold, if_neg h10, if_neg h34, if_pos h62], rfl, rfl, rfl⟩)
      · skip
        refine j_iconst C (nI 1) dX10_holds_65 (by decide) ?_
        refine j_goto C 70 dX10_holds_66 (by decide) ?_
        exact j_ireturn C E dX10_holds_70 (by decide) (by decide) (by decide) (⟨by simp only [zHold, if_neg h10, if_neg h34, if_neg h62], rfl, rfl, rfl⟩)
    · skip
      refine j_iload_n C dX10_holds_37 rfl ?_
      refine j_aload_n C dX10_holds_38 rfl ?_
      refine j_getR C fl_X10_19 (by assumption) dX10_holds_39 (by decide) rfl (by assumption) ?_
      refine j_iload_n C dX10_holds_42 rfl ?_
      refine j_ialdN C (by assumption) dX10_holds_43 (by omega) (by decide) ?_
      refine j_icmp_ge C 51 dX10_holds_44 (by decide) (fun h44 => ?_) (fun h44 => ?_)
      · skip
        refine j_iconst C (nI 0) dX10_holds_51 (by decide) ?_
        refine j_goto C 70 dX10_holds_52 (by decide) ?_
        exact j_ireturn C E dX10_holds_70 (by decide) (by decide) (by decide) (⟨by simp only [zHold, if_neg h10, if_pos h34, if_pos h44], rfl, rfl, rfl⟩)
      · skip
        refine j_iconst C (nI 1) dX10_holds_47 (by decide) ?_
        refine j_goto C 70 dX10_holds_48 (by decide) ?_
        exact j_ireturn C E dX10_holds_70 (by decide) (by decide) (by decide) (⟨by simp only [zHold, if_neg h10, if_pos h34, if_neg h44], rfl, rfl, rfl⟩)
  · skip
    refine j_iload_n C dX10_holds_13 rfl ?_
    refine j_aload_n C dX10_holds_14 rfl ?_
    refine j_getR C fl_X10_19 (by assumption) dX10_holds_15 (by decide) rfl (by assumption) ?_
    refine j_iload_n C dX10_holds_18 rfl ?_
    refine j_ialdN C (by assumption) dX10_holds_19 (by omega) (by decide) ?_
    refine j_icmp_ne C 27 dX10_holds_20 (by decide) (fun h20 => ?_) (fun h20 => ?_)
    · skip
      refine j_iconst C (nI 0) dX10_holds_27 (by decide) ?_
      refine j_goto C 70 dX10_holds_28 (by decide) ?_
      exact j_ireturn C E dX10_holds_70 (by decide) (by decide) (by decide) (⟨by simp only [zHold, if_pos h10, if_neg h20], rfl, rfl, rfl⟩)
    · skip
      refine j_iconst C (nI 1) dX10_holds_23 (by decide) ?_
      refine j_goto C 70 dX10_holds_24 (by decide) ?_
      exact j_ireturn C E dX10_holds_70 (by decide) (by decide) (by decide) (⟨by simp only [zHold, if_pos h10, if_pos h20], rfl, rfl, rfl⟩)

set_option maxHeartbeats 4000000 in
set_option maxRecDepth 100000 in
theorem c_X10_weights0 (l : Launch) (ω : jW) (γ : jG) (M : jM) (R : jR) {m : Nat} (g : gM ω γ m) {t n : Nat} (hs : zSt (M (m + 1)) t n) {k : Nat} (hk : k < n) : Ct l ω yX10_weights cX10_weights 7 (some .int) 3 0 0 [.ref m, .int (nI t), .int (nI k), .int (nI 0)] γ M R (jx γ (some (.int (sI (zW0 (M (m + 1)) (M (m + 4)) t k) 32))) M R) := by
  refine Ct_of (by decide) (Nat.le_of_ble_eq_true rfl) rfl (jcat_of rfl) ?_
  intro X C E hnm hxl hxn
  subst hxl
  have g9 := g
  obtain ⟨g0, g1, g2, g3, g4, g5, g6, g7, g8⟩ := g
  have hs9 := hs
  obtain ⟨ht, hc, hn1, hn4, hcol⟩ := hs
  have hc4 := (hcol k hk).2
  refine j_iconst C (nI 0) dX10_weights_0 (by decide) ?_
  refine j_istore C dX10_weights_1 (by rw [hxn]; decide) ?_
  refine j_aload_n C dX10_weights_3 rfl ?_
  refine j_iload_n C dX10_weights_4 rfl ?_
  refine j_iload_n C dX10_weights_5 rfl ?_
  refine j_cVi C (c_X10_columnOf _ _ _ _ _ (by assumption) (by omega)) yc_X10_columnOf mn_X10_50 im_X10_columnOf se_X10_columnOf rfl rfl dX10_weights_6 rfl rfl (by assumption) (by decide) (Nat.le_of_ble_eq_true rfl) (by decide) ?_
  refine j_top (nI (zCol (M (m + 1)) t k)) (hcol k hk).1 ?_
  refine j_istore C dX10_weights_9 (by rw [hxn]; decide) ?_
  refine j_iconst C (nI 0) dX10_weights_11 (by decide) ?_
  refine j_istore C dX10_weights_12 (by rw [hxn]; decide) ?_
  refine j_loop 32 (fun v => [(0, .ref m), (1, .int (nI t)), (2, .int (nI k)), (3, .int (nI 0)), (4, .int (sI (zW0 (M (m + 1)) (M (m + 4)) t k) v)), (5, .int (nI (zCol (M (m + 1)) t k))), (6, .int (nI v))]) (fun _ => M) (fun _ => R) (fun _ => True) (trivial) (fun v hv _ ih => ?_) (fun _ => ?_)
  · skip
    refine j_iload C dX10_weights_14 rfl ?_
    refine j_bipush C (nI 32) dX10_weights_16 (by decide) ?_
    refine j_icmp_ge C 68 dX10_weights_18 (by decide) (fun h => absurd h (nI_ge hv (by decide))) (fun _ => ?_)
    refine j_iload_n C dX10_weights_21 rfl ?_
    refine j_if_ne C 68 dX10_weights_22 (by decide) (fun h => absurd (rfl) h) (fun _ => ?_)
    refine j_iload C dX10_weights_25 rfl ?_
    refine j_aload_n C dX10_weights_27 rfl ?_
    refine j_iload_n C dX10_weights_28 rfl ?_
    refine j_iload_n C dX10_weights_29 rfl ?_
    refine j_iload C dX10_weights_30 rfl ?_
    refine j_cVi C (c_X10_holds _ _ _ _ _ (by assumption) (by omega) (by omega) _) yc_X10_holds mn_X10_94 im_X10_holds se_X10_holds rfl rfl dX10_weights_32 rfl rfl (by assumption) (by decide) (Nat.le_of_ble_eq_true rfl) (by decide) ?_
    refine j_if_eq C 58 dX10_weights_35 (by decide) (fun h35 => ?_) (fun h35 => ?_)
    · skip
      refine j_iconst C (nI 0) dX10_weights_58 (by decide) ?_
      first | with_reducible refine j_iaddN C dX10_weights_59 ?_ | refine j_iadd C dX10_weights_59 ?_
      refine j_top (sI (zW0 (M (m + 1)) (M (m + 4)) t k) (v + 1)) (by simp [sI, zW0, h35]) ?_
      refine j_istore C dX10_weights_60 (by rw [hxn]; decide) ?_
      first | refine j_iinc1 C dX10_weights_62 rfl (by rw [hxn]; decide) ?_ | refine j_iinc C _ dX10_weights_62 rfl rfl (by rw [hxn]; decide) ?_
      refine j_goto C 14 dX10_weights_65 (by decide) ?_
      exact ih trivial
    · skip
      refine j_aload_n C dX10_weights_38 rfl ?_
      refine j_getR C fl_X10_7 (by assumption) dX10_weights_39 (by decide) rfl (by assumption) ?_
      refine j_sipush C (nI 179) dX10_weights_42 (by decide) ?_
      refine j_bipush C (nI 32) dX10_weights_45 (by decide) ?_
      refine j_iload C dX10_weights_47 rfl ?_
      first | with_reducible refine j_imulN C dX10_weights_49 ?_ | refine j_imul C dX10_weights_49 ?_
      first | with_reducible refine j_iaddN C dX10_weights_50 ?_ | refine j_iadd C dX10_weights_50 ?_
      refine j_iload C dX10_weights_51 rfl ?_
      first | with_reducible refine j_iaddN C dX10_weights_53 ?_ | refine j_iadd C dX10_weights_53 ?_
      refine j_ialdN C (by assumption) dX10_weights_54 (by omega) (by decide) ?_
      refine j_goto C 59 dX10_weights_55 (by decide) ?_
      first | with_reducible refine j_iaddN C dX10_weights_59 ?_ | refine j_iadd C dX10_weights_59 ?_
      refine j_top (sI (zW0 (M (m + 1)) (M (m + 4)) t k) (v + 1)) (by simp [sI, zW0, h35]) ?_
      refine j_istore C dX10_weights_60 (by rw [hxn]; decide) ?_
      first | refine j_iinc1 C dX10_weights_62 rfl (by rw [hxn]; decide) ?_ | refine j_iinc C _ dX10_weights_62 rfl rfl (by rw [hxn]; decide) ?_
      refine j_goto C 14 dX10_weights_65 (by decide) ?_
      exact ih trivial
  · skip
    refine j_iload C dX10_weights_14 rfl ?_
    refine j_bipush C (nI 32) dX10_weights_16 (by decide) ?_
    refine j_icmp_ge C 68 dX10_weights_18 (by decide) (fun _ => ?_) (fun h => absurd (Int32.le_refl _) h)
    refine j_iconst C (nI 0) dX10_weights_68 (by decide) ?_
    refine j_istore C dX10_weights_69 (by rw [hxn]; decide) ?_
    refine j_iload C dX10_weights_71 rfl ?_
    refine j_aload_n C dX10_weights_73 rfl ?_
    refine j_getR C fl_X10_7 (by assumption) dX10_weights_74 (by decide) rfl (by assumption) ?_
    refine j_iconst C (nI 0) dX10_weights_77 (by decide) ?_
    refine j_ialdN C (by assumption) dX10_weights_78 (by omega) (by decide) ?_
    refine j_icmp_ge C 125 dX10_weights_79 (by decide) (fun h79 => ?_) (fun h79 => ?_)
    · skip
      refine j_iload C dX10_weights_125 rfl ?_
      exact j_ireturn C E dX10_weights_127 (rfl) (by decide) (by decide) (⟨rfl, rfl, rfl, rfl⟩)
    · skip
      refine j_iload_n C dX10_weights_82 rfl ?_
      refine j_if_eq C 125 dX10_weights_83 (by decide) (fun _ => ?_) (fun h => absurd (rfl) h)
      refine j_iload C dX10_weights_125 rfl ?_
      exact j_ireturn C E dX10_weights_127 (rfl) (by decide) (by decide) (⟨rfl, rfl, rfl, rfl⟩)

set_option maxHeartbeats 4000000 in
set_option maxRecDepth 100000 in
theorem c_X10_weights1 (l : Launch) (ω : jW) (γ : jG) (M : jM) (R : jR) {m : Nat} (g : gM ω γ m) {t n : Nat} (hs : zSt (M (m + 1)) t n) {r : Nat} (hr : M (m + 1) 0 = nI r) (hr30 : r ≤ 30) {k : Nat} (hk : k < n) : Ct l ω yX10_weights cX10_weights 7 (some .int) 3 0 0 [.ref m, .int (nI t), .int (nI k), .int (nI 1)] γ M R (jx γ (some (.int (sI (zW1 (M (m + 1)) (M (m + 4)) t k) r))) M R) := by
  refine Ct_of (by decide) (Nat.le_of_ble_eq_true rfl) rfl (jcat_of rfl) ?_
  intro X C E hnm hxl hxn
  subst hxl
  have g9 := g
  obtain ⟨g0, g1, g2, g3, g4, g5, g6, g7, g8⟩ := g
  have hs9 := hs
  obtain ⟨ht, hc, hn1, hn4, hcol⟩ := hs
  have hc4 := (hcol k hk).2
  refine j_iconst C (nI 0) dX10_weights_0 (by decide) ?_
  refine j_istore C dX10_weights_1 (by rw [hxn]; decide) ?_
  refine j_aload_n C dX10_weights_3 rfl ?_
  refine j_iload_n C dX10_weights_4 rfl ?_
  refine j_iload_n C dX10_weights_5 rfl ?_
  refine j_cVi C (c_X10_columnOf _ _ _ _ _ (by assumption) (by omega)) yc_X10_columnOf mn_X10_50 im_X10_columnOf se_X10_columnOf rfl rfl dX10_weights_6 rfl rfl (by assumption) (by decide) (Nat.le_of_ble_eq_true rfl) (by decide) ?_
  refine j_top (nI (zCol (M (m + 1)) t k)) (hcol k hk).1 ?_
  refine j_istore C dX10_weights_9 (by rw [hxn]; decide) ?_
  refine j_iconst C (nI 0) dX10_weights_11 (by decide) ?_
  refine j_istore C dX10_weights_12 (by rw [hxn]; decide) ?_
  refine j_iload C dX10_weights_14 rfl ?_
  refine j_bipush C (nI 32) dX10_weights_16 (by decide) ?_
  refine j_icmp_ge C 68 dX10_weights_18 (by decide) (fun h => absurd h (by decide)) (fun _ => ?_)
  refine j_iload_n C dX10_weights_21 rfl ?_
  refine j_if_ne C 68 dX10_weights_22 (by decide) (fun _ => ?_) (fun h => absurd h (by decide))
  refine j_iconst C (nI 0) dX10_weights_68 (by decide) ?_
  refine j_istore C dX10_weights_69 (by rw [hxn]; decide) ?_
  refine j_loop r (fun v => [(0, .ref m), (1, .int (nI t)), (2, .int (nI k)), (3, .int (nI 1)), (4, .int (sI (zW1 (M (m + 1)) (M (m + 4)) t k) v)), (5, .int (nI (zCol (M (m + 1)) t k))), (6, .int (nI v))]) (fun _ => M) (fun _ => R) (fun _ => True) (trivial) (fun v hv _ ih => ?_) (fun _ => ?_)
  · skip
    refine j_iload C dX10_weights_71 rfl ?_
    refine j_aload_n C dX10_weights_73 rfl ?_
    refine j_getR C fl_X10_7 (by assumption) dX10_weights_74 (by decide) rfl (by assumption) ?_
    refine j_iconst C (nI 0) dX10_weights_77 (by decide) ?_
    refine j_ialdN C (by assumption) dX10_weights_78 (by omega) (by decide) ?_
    refine j_top (nI r) (hr) ?_
    refine j_icmp_ge C 125 dX10_weights_79 (by decide) (fun h => absurd h (nI_ge hv (by omega))) (fun _ => ?_)
    refine j_iload_n C dX10_weights_82 rfl ?_
    refine j_if_eq C 125 dX10_weights_83 (by decide) (fun h => absurd h (by decide)) (fun _ => ?_)
    refine j_iload C dX10_weights_86 rfl ?_
    refine j_aload_n C dX10_weights_88 rfl ?_
    refine j_iload_n C dX10_weights_89 rfl ?_
    refine j_iload_n C dX10_weights_90 rfl ?_
    refine j_aload_n C dX10_weights_91 rfl ?_
    refine j_iload C dX10_weights_92 rfl ?_
    refine j_iload C dX10_weights_94 rfl ?_
    refine j_cVi C (c_X10_ofRow _ _ _ _ _ (by assumption) (by omega)) yc_X10_ofRow mn_X10_40 im_X10_ofRow se_X10_ofRow rfl rfl dX10_weights_96 rfl rfl (by assumption) (by decide) (Nat.le_of_ble_eq_true rfl) (by decide) ?_
    refine j_cVi C (c_X10_holds _ _ _ _ _ (by assumption) (by omega) (by omega) _) yc_X10_holds mn_X10_94 im_X10_holds se_X10_holds rfl rfl dX10_weights_99 rfl rfl (by assumption) (by decide) (Nat.le_of_ble_eq_true rfl) (by decide) ?_
    refine j_if_eq C 115 dX10_weights_102 (by decide) (fun h102 => ?_) (fun h102 => ?_)
    · skip
      refine j_iconst C (nI 0) dX10_weights_115 (by decide) ?_
      first | with_reducible refine j_iaddN C dX10_weights_116 ?_ | refine j_iadd C dX10_weights_116 ?_
      refine j_top (sI (zW1 (M (m + 1)) (M (m + 4)) t k) (v + 1)) (by simp [sI, zW1, h102]) ?_
      refine j_istore C dX10_weights_117 (by rw [hxn]; decide) ?_
      first | refine j_iinc1 C dX10_weights_119 rfl (by rw [hxn]; decide) ?_ | refine j_iinc C _ dX10_weights_119 rfl rfl (by rw [hxn]; decide) ?_
      refine j_goto C 71 dX10_weights_122 (by decide) ?_
      exact ih trivial
    · skip
      refine j_aload_n C dX10_weights_105 rfl ?_
      refine j_iload C dX10_weights_106 rfl ?_
      refine j_iconst C (nI 4) dX10_weights_108 (by decide) ?_
      refine j_cVi C (c_X10_ofRow _ _ _ _ _ (by assumption) (by omega)) yc_X10_ofRow mn_X10_40 im_X10_ofRow se_X10_ofRow rfl rfl dX10_weights_109 rfl rfl (by assumption) (by decide) (Nat.le_of_ble_eq_true rfl) (by decide) ?_
      refine j_goto C 116 dX10_weights_112 (by decide) ?_
      first | with_reducible refine j_iaddN C dX10_weights_116 ?_ | refine j_iadd C dX10_weights_116 ?_
      refine j_top (sI (zW1 (M (m + 1)) (M (m + 4)) t k) (v + 1)) (by simp [sI, zW1, h102]) ?_
      refine j_istore C dX10_weights_117 (by rw [hxn]; decide) ?_
      first | refine j_iinc1 C dX10_weights_119 rfl (by rw [hxn]; decide) ?_ | refine j_iinc C _ dX10_weights_119 rfl rfl (by rw [hxn]; decide) ?_
      refine j_goto C 71 dX10_weights_122 (by decide) ?_
      exact ih trivial
  · skip
    refine j_iload C dX10_weights_71 rfl ?_
    refine j_aload_n C dX10_weights_73 rfl ?_
    refine j_getR C fl_X10_7 (by assumption) dX10_weights_74 (by decide) rfl (by assumption) ?_
    refine j_iconst C (nI 0) dX10_weights_77 (by decide) ?_
    refine j_ialdN C (by assumption) dX10_weights_78 (by omega) (by decide) ?_
    refine j_top (nI r) (hr) ?_
    refine j_icmp_ge C 125 dX10_weights_79 (by decide) (fun _ => ?_) (fun h => absurd (Int32.le_refl _) h)
    refine j_iload C dX10_weights_125 rfl ?_
    exact j_ireturn C E dX10_weights_127 (rfl) (by decide) (by decide) (⟨rfl, rfl, rfl, rfl⟩)

set_option maxHeartbeats 4000000 in
set_option maxRecDepth 100000 in
theorem c_X10_cost0 (l : Launch) (ω : jW) (γ : jG) (M : jM) (R : jR) {m : Nat} (g : gM ω γ m) {t n : Nat} (hs : zSt (M (m + 1)) t n) {w : Nat} (hw : w = 9 ∨ w < n) : Ct l ω yX10_cost cX10_cost 4 (some .int) 4 0 0 [.ref m, .int (nI t), .int (nI w), .int (nI 0)] γ M R (jx γ (some (.int (zC0 (M (m + 1)) (M (m + 4)) t w))) M R) := by
  refine Ct_of (by decide) (Nat.le_of_ble_eq_true rfl) rfl (jcat_of rfl) ?_
  intro X C E hnm hxl hxn
  subst hxl
  have g9 := g
  obtain ⟨g0, g1, g2, g3, g4, g5, g6, g7, g8⟩ := g
  refine j_iload_n C dX10_cost_0 rfl ?_
  refine j_bipush C (nI 9) dX10_cost_1 (by decide) ?_
  refine j_icmp_ne C 26 dX10_cost_3 (by decide) (fun h3 => ?_) (fun h3 => ?_)
  · skip
    refine j_bipush C (nI 10) dX10_cost_26 (by decide) ?_
    refine j_aload_n C dX10_cost_28 rfl ?_
    refine j_iload_n C dX10_cost_29 rfl ?_
    refine j_iload_n C dX10_cost_30 rfl ?_
    refine j_iload_n C dX10_cost_31 rfl ?_
    refine j_cVi C (c_X10_weights0 _ ω γ M R g9 hs (k := w) (by rcases hw with e | e; exact absurd (by rw [e]) h3; exact e)) yc_X10_weights mn_X10_97 im_X10_weights se_X10_weights rfl rfl dX10_cost_32 rfl rfl (by assumption) (by decide) (Nat.le_of_ble_eq_true rfl) (by decide) ?_
    first | with_reducible refine j_iaddN C dX10_cost_35 ?_ | refine j_iadd C dX10_cost_35 ?_
    exact j_ireturn C E dX10_cost_36 (rfl) (by decide) (by decide) (⟨by simp only [zC0, if_neg h3], rfl, rfl, rfl⟩)
  · skip
    refine j_iload_n C dX10_cost_6 rfl ?_
    refine j_if_eq C 17 dX10_cost_7 (by decide) (fun _ => ?_) (fun h => absurd (rfl) h)
    refine j_aload_n C dX10_cost_17 rfl ?_
    refine j_getR C fl_X10_7 (by assumption) dX10_cost_18 (by decide) rfl (by assumption) ?_
    refine j_iconst C (nI 2) dX10_cost_21 (by decide) ?_
    refine j_ialdN C (by assumption) dX10_cost_22 (by omega) (by decide) ?_
    refine j_goto C 36 dX10_cost_23 (by decide) ?_
    exact j_ireturn C E dX10_cost_36 (rfl) (by decide) (by decide) (⟨by simp only [zC0, if_pos h3], rfl, rfl, rfl⟩)

set_option maxHeartbeats 4000000 in
set_option maxRecDepth 100000 in
theorem c_X10_cost1 (l : Launch) (ω : jW) (γ : jG) (M : jM) (R : jR) {m : Nat} (g : gM ω γ m) {t n : Nat} (hs : zSt (M (m + 1)) t n) {r : Nat} (hr : M (m + 1) 0 = nI r) (hr30 : r ≤ 30) {w : Nat} (hw : w = 9 ∨ w < n) : Ct l ω yX10_cost cX10_cost 4 (some .int) 4 0 0 [.ref m, .int (nI t), .int (nI w), .int (nI 1)] γ M R (jx γ (some (.int (zC1 (M (m + 1)) (M (m + 4)) t r w))) M R) := by
  refine Ct_of (by decide) (Nat.le_of_ble_eq_true rfl) rfl (jcat_of rfl) ?_
  intro X C E hnm hxl hxn
  subst hxl
  have g9 := g
  obtain ⟨g0, g1, g2, g3, g4, g5, g6, g7, g8⟩ := g
  refine j_iload_n C dX10_cost_0 rfl ?_
  refine j_bipush C (nI 9) dX10_cost_1 (by decide) ?_
  refine j_icmp_ne C 26 dX10_cost_3 (by decide) (fun h3 => ?_) (fun h3 => ?_)
  · skip
    refine j_bipush C (nI 10) dX10_cost_26 (by decide) ?_
    refine j_aload_n C dX10_cost_28 rfl ?_
    refine j_iload_n C dX10_cost_29 rfl ?_
    refine j_iload_n C dX10_cost_30 rfl ?_
    refine j_iload_n C dX10_cost_31 rfl ?_
    refine j_cVi C (c_X10_weights1 _ ω γ M R g9 hs hr hr30 (k := w) (by rcases hw with e | e; exact absurd (by rw [e]) h3; exact e)) yc_X10_weights mn_X10_97 im_X10_weights se_X10_weights rfl rfl dX10_cost_32 rfl rfl (by assumption) (by decide) (Nat.le_of_ble_eq_true rfl) (by decide) ?_
    first | with_reducible refine j_iaddN C dX10_cost_35 ?_ | refine j_iadd C dX10_cost_35 ?_
    exact j_ireturn C E dX10_cost_36 (rfl) (by decide) (by decide) (⟨by simp only [zC1, if_neg h3], rfl, rfl, rfl⟩)
  · skip
    refine j_iload_n C dX10_cost_6 rfl ?_
    refine j_if_eq C 17 dX10_cost_7 (by decide) (fun h => absurd h (by decide)) (fun _ => ?_)
    refine j_aload_n C dX10_cost_10 rfl ?_
    refine j_cVi C (c_X10_size _ _ _ _ _ (by assumption) (by assumption) (by assumption)) yc_X10_size mn_X10_57 im_X10_size se_X10_size rfl rfl dX10_cost_11 rfl rfl (by assumption) (by decide) (Nat.le_of_ble_eq_true rfl) (by decide) ?_
    refine j_goto C 36 dX10_cost_14 (by decide) ?_
    exact j_ireturn C E dX10_cost_36 (rfl) (by decide) (by decide) (⟨by simp only [zC1, if_pos h3], rfl, rfl, rfl⟩)

set_option maxHeartbeats 4000000 in
set_option maxRecDepth 100000 in
theorem c_X10_bestWay0 (l : Launch) (ω : jW) (γ : jG) (M : jM) (R : jR) {m : Nat} (g : gM ω γ m) {t n : Nat} (hs : zSt (M (m + 1)) t n)  : Ct l ω yX10_bestWay cX10_bestWay 5 (some .int) 5 0 0 [.ref m, .int (nI t), .int (nI 0)] γ M R (jx γ (some (.int (nI (zBest (M (m + 1)) (zC0 (M (m + 1)) (M (m + 4)) t) t n n)))) M R) := by
  refine Ct_of (by decide) (Nat.le_of_ble_eq_true rfl) rfl (jcat_of rfl) ?_
  intro X C E hnm hxl hxn
  subst hxl
  have g9 := g
  obtain ⟨g0, g1, g2, g3, g4, g5, g6, g7, g8⟩ := g
  have hs9 := hs
  obtain ⟨ht, hc, hn1, hn4, hcol⟩ := hs
  refine j_bipush C (nI 9) dX10_bestWay_0 (by decide) ?_
  refine j_istore_n C dX10_bestWay_2 (by rw [hxn]; decide) ?_
  refine j_aload_n C dX10_bestWay_3 rfl ?_
  refine j_iload_n C dX10_bestWay_4 rfl ?_
  refine j_cVi C (c_X10_conditions _ _ _ _ _ (by assumption) (by omega)) yc_X10_conditions mn_X10_70 im_X10_conditions se_X10_conditions rfl rfl dX10_bestWay_5 rfl rfl (by assumption) (by decide) (Nat.le_of_ble_eq_true rfl) (by decide) ?_
  refine j_top (nI n) hc ?_
  refine j_iconst C (nI 1) dX10_bestWay_8 (by decide) ?_
  refine j_isub C dX10_bestWay_9 ?_
  refine j_istore C dX10_bestWay_10 (by rw [hxn]; decide) ?_
  refine j_loop n (fun j => [(0, .ref m), (1, .int (nI t)), (2, .int (nI 0)), (3, .int (nI (zBest (M (m + 1)) (zC0 (M (m + 1)) (M (m + 4)) t) t n j))), (4, .int (nI (n - j) - nI 1))]) (fun _ => M) (fun _ => R) (fun _ => True) trivial (fun j hj _ ih => ?_) (fun _ => ?_)
  · skip
    have hb := zBest_rg (M (m + 1)) (zC0 (M (m + 1)) (M (m + 4)) t) t n j (by omega)
    rw [zd_1 hj]
    refine j_iload C dX10_bestWay_12 rfl ?_
    refine j_if_lt C 62 dX10_bestWay_14 (by decide) (fun h => absurd h (nI_pos (by omega))) (fun _ => ?_)
    refine j_aload_n C dX10_bestWay_17 rfl ?_
    refine j_aload_n C dX10_bestWay_18 rfl ?_
    refine j_iload_n C dX10_bestWay_19 rfl ?_
    refine j_iload C dX10_bestWay_20 rfl ?_
    refine j_cVi C (c_X10_columnOf _ ω γ M R g9 (k := n - 1 - j) (by omega)) yc_X10_columnOf mn_X10_50 im_X10_columnOf se_X10_columnOf rfl rfl dX10_bestWay_22 rfl rfl (by assumption) (by decide) (Nat.le_of_ble_eq_true rfl) (by decide) ?_
    refine j_cVi C (c_X10_hasIndex _ _ _ _ _ (by assumption) _) yc_X10_hasIndex mn_X10_44 im_X10_hasIndex se_X10_hasIndex rfl rfl dX10_bestWay_25 rfl rfl (by assumption) (by decide) (Nat.le_of_ble_eq_true rfl) (by decide) ?_
    refine j_if_eq C 54 dX10_bestWay_28 (by decide) (fun h28 => ?_) (fun h28 => ?_)
    · skip
      refine j_iload_n C dX10_bestWay_54 rfl ?_
      refine j_top (nI (zBest (M (m + 1)) (zC0 (M (m + 1)) (M (m + 4)) t) t n (j + 1))) (by simp only [zBest]; first | rw [if_pos h28] | (rw [if_neg h28]; first | rw [if_pos h46] | rw [if_neg h46])) ?_
      refine j_istore_n C dX10_bestWay_55 (by rw [hxn]; decide) ?_
      refine j_iinc C _ dX10_bestWay_56 rfl rfl (by rw [hxn]; decide) ?_
      rw [zd_2 hj]
      refine j_goto C 12 dX10_bestWay_59 (by decide) ?_
      exact ih trivial
    · skip
      refine j_aload_n C dX10_bestWay_31 rfl ?_
      refine j_iload_n C dX10_bestWay_32 rfl ?_
      refine j_iload C dX10_bestWay_33 rfl ?_
      refine j_iload_n C dX10_bestWay_35 rfl ?_
      refine j_cVi C (c_X10_cost0 _ ω γ M R g9 hs9 (.inr (by omega))) yc_X10_cost mn_X10_101 im_X10_cost se_X10_cost rfl rfl dX10_bestWay_36 rfl rfl (by assumption) (by decide) (Nat.le_of_ble_eq_true rfl) (by decide) ?_
      refine j_aload_n C dX10_bestWay_39 rfl ?_
      refine j_iload_n C dX10_bestWay_40 rfl ?_
      refine j_iload_n C dX10_bestWay_41 rfl ?_
      refine j_iload_n C dX10_bestWay_42 rfl ?_
      refine j_cVi C (c_X10_cost0 _ ω γ M R g9 hs9 hb) yc_X10_cost mn_X10_101 im_X10_cost se_X10_cost rfl rfl dX10_bestWay_43 rfl rfl (by assumption) (by decide) (Nat.le_of_ble_eq_true rfl) (by decide) ?_
      refine j_icmp_gt C 54 dX10_bestWay_46 (by decide) (fun h46 => ?_) (fun h46 => ?_)
      · skip
        refine j_iload_n C dX10_bestWay_54 rfl ?_
        refine j_top (nI (zBest (M (m + 1)) (zC0 (M (m + 1)) (M (m + 4)) t) t n (j + 1))) (by simp only [zBest]; first | rw [if_pos h28] | (rw [if_neg h28]; first | rw [if_pos h46] | rw [if_neg h46])) ?_
        refine j_istore_n C dX10_bestWay_55 (by rw [hxn]; decide) ?_
        refine j_iinc C _ dX10_bestWay_56 rfl rfl (by rw [hxn]; decide) ?_
        rw [zd_2 hj]
        refine j_goto C 12 dX10_bestWay_59 (by decide) ?_
        exact ih trivial
      · skip
        refine j_iload C dX10_bestWay_49 rfl ?_
        refine j_goto C 55 dX10_bestWay_51 (by decide) ?_
        refine j_top (nI (zBest (M (m + 1)) (zC0 (M (m + 1)) (M (m + 4)) t) t n (j + 1))) (by simp only [zBest]; first | rw [if_pos h28] | (rw [if_neg h28]; first | rw [if_pos h46] | rw [if_neg h46])) ?_
        refine j_istore_n C dX10_bestWay_55 (by rw [hxn]; decide) ?_
        refine j_iinc C _ dX10_bestWay_56 rfl rfl (by rw [hxn]; decide) ?_
        rw [zd_2 hj]
        refine j_goto C 12 dX10_bestWay_59 (by decide) ?_
        exact ih trivial
  · skip
    rw [Nat.sub_self]
    refine j_iload C dX10_bestWay_12 rfl ?_
    refine j_if_lt C 62 dX10_bestWay_14 (by decide) (fun _ => ?_) (fun h => absurd (by decide) h)
    refine j_iload_n C dX10_bestWay_62 rfl ?_
    exact j_ireturn C E dX10_bestWay_63 (rfl) (by decide) (by decide) (⟨rfl, rfl, rfl, rfl⟩)

set_option maxHeartbeats 4000000 in
set_option maxRecDepth 100000 in
theorem c_X10_bestWay1 (l : Launch) (ω : jW) (γ : jG) (M : jM) (R : jR) {m : Nat} (g : gM ω γ m) {t n : Nat} (hs : zSt (M (m + 1)) t n) {r : Nat} (hr : M (m + 1) 0 = nI r) (hr30 : r ≤ 30)  : Ct l ω yX10_bestWay cX10_bestWay 5 (some .int) 5 0 0 [.ref m, .int (nI t), .int (nI 1)] γ M R (jx γ (some (.int (nI (zBest (M (m + 1)) (zC1 (M (m + 1)) (M (m + 4)) t r) t n n)))) M R) := by
  refine Ct_of (by decide) (Nat.le_of_ble_eq_true rfl) rfl (jcat_of rfl) ?_
  intro X C E hnm hxl hxn
  subst hxl
  have g9 := g
  obtain ⟨g0, g1, g2, g3, g4, g5, g6, g7, g8⟩ := g
  have hs9 := hs
  obtain ⟨ht, hc, hn1, hn4, hcol⟩ := hs
  refine j_bipush C (nI 9) dX10_bestWay_0 (by decide) ?_
  refine j_istore_n C dX10_bestWay_2 (by rw [hxn]; decide) ?_
  refine j_aload_n C dX10_bestWay_3 rfl ?_
  refine j_iload_n C dX10_bestWay_4 rfl ?_
  refine j_cVi C (c_X10_conditions _ _ _ _ _ (by assumption) (by omega)) yc_X10_conditions mn_X10_70 im_X10_conditions se_X10_conditions rfl rfl dX10_bestWay_5 rfl rfl (by assumption) (by decide) (Nat.le_of_ble_eq_true rfl) (by decide) ?_
  refine j_top (nI n) hc ?_
  refine j_iconst C (nI 1) dX10_bestWay_8 (by decide) ?_
  refine j_isub C dX10_bestWay_9 ?_
  refine j_istore C dX10_bestWay_10 (by rw [hxn]; decide) ?_
  refine j_loop n (fun j => [(0, .ref m), (1, .int (nI t)), (2, .int (nI 1)), (3, .int (nI (zBest (M (m + 1)) (zC1 (M (m + 1)) (M (m + 4)) t r) t n j))), (4, .int (nI (n - j) - nI 1))]) (fun _ => M) (fun _ => R) (fun _ => True) trivial (fun j hj _ ih => ?_) (fun _ => ?_)
  · skip
    have hb := zBest_rg (M (m + 1)) (zC1 (M (m + 1)) (M (m + 4)) t r) t n j (by omega)
    rw [zd_1 hj]
    refine j_iload C dX10_bestWay_12 rfl ?_
    refine j_if_lt C 62 dX10_bestWay_14 (by decide) (fun h => absurd h (nI_pos (by omega))) (fun _ => ?_)
    refine j_aload_n C dX10_bestWay_17 rfl ?_
    refine j_aload_n C dX10_bestWay_18 rfl ?_
    refine j_iload_n C dX10_bestWay_19 rfl ?_
    refine j_iload C dX10_bestWay_20 rfl ?_
    refine j_cVi C (c_X10_columnOf _ ω γ M R g9 (k := n - 1 - j) (by omega)) yc_X10_columnOf mn_X10_50 im_X10_columnOf se_X10_columnOf rfl rfl dX10_bestWay_22 rfl rfl (by assumption) (by decide) (Nat.le_of_ble_eq_true rfl) (by decide) ?_
    refine j_cVi C (c_X10_hasIndex _ _ _ _ _ (by assumption) _) yc_X10_hasIndex mn_X10_44 im_X10_hasIndex se_X10_hasIndex rfl rfl dX10_bestWay_25 rfl rfl (by assumption) (by decide) (Nat.le_of_ble_eq_true rfl) (by decide) ?_
    refine j_if_eq C 54 dX10_bestWay_28 (by decide) (fun h28 => ?_) (fun h28 => ?_)
    · skip
      refine j_iload_n C dX10_bestWay_54 rfl ?_
      refine j_top (nI (zBest (M (m + 1)) (zC1 (M (m + 1)) (M (m + 4)) t r) t n (j + 1))) (by simp only [zBest]; first | rw [if_pos h28] | (rw [if_neg h28]; first | rw [if_pos h46] | rw [if_neg h46])) ?_
      refine j_istore_n C dX10_bestWay_55 (by rw [hxn]; decide) ?_
      refine j_iinc C _ dX10_bestWay_56 rfl rfl (by rw [hxn]; decide) ?_
      rw [zd_2 hj]
      refine j_goto C 12 dX10_bestWay_59 (by decide) ?_
      exact ih trivial
    · skip
      refine j_aload_n C dX10_bestWay_31 rfl ?_
      refine j_iload_n C dX10_bestWay_32 rfl ?_
      refine j_iload C dX10_bestWay_33 rfl ?_
      refine j_iload_n C dX10_bestWay_35 rfl ?_
      refine j_cVi C (c_X10_cost1 _ ω γ M R g9 hs9 hr hr30 (.inr (by omega))) yc_X10_cost mn_X10_101 im_X10_cost se_X10_cost rfl rfl dX10_bestWay_36 rfl rfl (by assumption) (by decide) (Nat.le_of_ble_eq_true rfl) (by decide) ?_
      refine j_aload_n C dX10_bestWay_39 rfl ?_
      refine j_iload_n C dX10_bestWay_40 rfl ?_
      refine j_iload_n C dX10_bestWay_41 rfl ?_
      refine j_iload_n C dX10_bestWay_42 rfl ?_
      refine j_cVi C (c_X10_cost1 _ ω γ M R g9 hs9 hr hr30 hb) yc_X10_cost mn_X10_101 im_X10_cost se_X10_cost rfl rfl dX10_bestWay_43 rfl rfl (by assumption) (by decide) (Nat.le_of_ble_eq_true rfl) (by decide) ?_
      refine j_icmp_gt C 54 dX10_bestWay_46 (by decide) (fun h46 => ?_) (fun h46 => ?_)
      · skip
        refine j_iload_n C dX10_bestWay_54 rfl ?_
        refine j_top (nI (zBest (M (m + 1)) (zC1 (M (m + 1)) (M (m + 4)) t r) t n (j + 1))) (by simp only [zBest]; first | rw [if_pos h28] | (rw [if_neg h28]; first | rw [if_pos h46] | rw [if_neg h46])) ?_
        refine j_istore_n C dX10_bestWay_55 (by rw [hxn]; decide) ?_
        refine j_iinc C _ dX10_bestWay_56 rfl rfl (by rw [hxn]; decide) ?_
        rw [zd_2 hj]
        refine j_goto C 12 dX10_bestWay_59 (by decide) ?_
        exact ih trivial
      · skip
        refine j_iload C dX10_bestWay_49 rfl ?_
        refine j_goto C 55 dX10_bestWay_51 (by decide) ?_
        refine j_top (nI (zBest (M (m + 1)) (zC1 (M (m + 1)) (M (m + 4)) t r) t n (j + 1))) (by simp only [zBest]; first | rw [if_pos h28] | (rw [if_neg h28]; first | rw [if_pos h46] | rw [if_neg h46])) ?_
        refine j_istore_n C dX10_bestWay_55 (by rw [hxn]; decide) ?_
        refine j_iinc C _ dX10_bestWay_56 rfl rfl (by rw [hxn]; decide) ?_
        rw [zd_2 hj]
        refine j_goto C 12 dX10_bestWay_59 (by decide) ?_
        exact ih trivial
  · skip
    rw [Nat.sub_self]
    refine j_iload C dX10_bestWay_12 rfl ?_
    refine j_if_lt C 62 dX10_bestWay_14 (by decide) (fun _ => ?_) (fun h => absurd (by decide) h)
    refine j_iload_n C dX10_bestWay_62 rfl ?_
    exact j_ireturn C E dX10_bestWay_63 (rfl) (by decide) (by decide) (⟨rfl, rfl, rfl, rfl⟩)

set_option maxHeartbeats 4000000 in
set_option maxRecDepth 100000 in
theorem c_X10_ownClass (l : Launch) (ω : jW) (γ : jG) (M : jM) (R : jR) {m : Nat} (g : gM ω γ m) {t n : Nat} (hs : zSt (M (m + 1)) t n)  : Ct l ω yX10_ownClass cX10_ownClass 5 (some .int) 5 0 0 [.ref m, .int (nI t)] γ M R (jx γ (some (.int ((zCls (M (m + 1)) (M (m + 4)) t n n)))) M R) := by
  refine Ct_of (by decide) (Nat.le_of_ble_eq_true rfl) rfl (jcat_of rfl) ?_
  intro X C E hnm hxl hxn
  subst hxl
  have g9 := g
  obtain ⟨g0, g1, g2, g3, g4, g5, g6, g7, g8⟩ := g
  have hs9 := hs
  obtain ⟨ht, hc, hn1, hn4, hcol⟩ := hs
  refine j_iconst C (nI 0) dX10_ownClass_0 (by decide) ?_
  refine j_istore_n C dX10_ownClass_1 (by rw [hxn]; decide) ?_
  refine j_aload_n C dX10_ownClass_2 rfl ?_
  refine j_iload_n C dX10_ownClass_3 rfl ?_
  refine j_cVi C (c_X10_conditions _ _ _ _ _ (by assumption) (by omega)) yc_X10_conditions mn_X10_70 im_X10_conditions se_X10_conditions rfl rfl dX10_ownClass_4 rfl rfl (by assumption) (by decide) (Nat.le_of_ble_eq_true rfl) (by decide) ?_
  refine j_top (nI n) hc ?_
  refine j_iconst C (nI 1) dX10_ownClass_7 (by decide) ?_
  refine j_isub C dX10_ownClass_8 ?_
  refine j_istore_n C dX10_ownClass_9 (by rw [hxn]; decide) ?_
  refine j_loop n (fun j => [(0, .ref m), (1, .int (nI t)), (2, .int ((zCls (M (m + 1)) (M (m + 4)) t n j))), (3, .int (nI (n - j) - nI 1))]) (fun _ => M) (fun _ => R) (fun _ => True) trivial (fun j hj _ ih => ?_) (fun _ => ?_)
  · skip
    rw [zd_1 hj]
    refine j_iload_n C dX10_ownClass_10 rfl ?_
    refine j_if_lt C 91 dX10_ownClass_11 (by decide) (fun h => absurd h (nI_pos (by omega))) (fun _ => ?_)
    refine j_aload_n C dX10_ownClass_14 rfl ?_
    refine j_getR C fl_X10_7 (by assumption) dX10_ownClass_15 (by decide) rfl (by assumption) ?_
    refine j_iconst C (nI 2) dX10_ownClass_18 (by decide) ?_
    refine j_ialdN C (by assumption) dX10_ownClass_19 (by omega) (by decide) ?_
    refine j_if_ne C 27 dX10_ownClass_20 (by decide) (fun h20 => ?_) (fun h20 => ?_)
    · skip
      refine j_sipush C (nI 1000) dX10_ownClass_27 (by decide) ?_
      refine j_aload_n C dX10_ownClass_30 rfl ?_
      refine j_iload_n C dX10_ownClass_31 rfl ?_
      refine j_iload_n C dX10_ownClass_32 rfl ?_
      refine j_iconst C (nI 0) dX10_ownClass_33 (by decide) ?_
      refine j_cVi C (c_X10_weights0 _ ω γ M R g9 hs9 (k := n - 1 - j) (by omega)) yc_X10_weights mn_X10_97 im_X10_weights se_X10_weights rfl rfl dX10_ownClass_34 rfl rfl (by assumption) (by decide) (Nat.le_of_ble_eq_true rfl) (by decide) ?_
      first | with_reducible refine j_imulN C dX10_ownClass_37 ?_ | refine j_imul C dX10_ownClass_37 ?_
      refine j_aload_n C dX10_ownClass_38 rfl ?_
      refine j_getR C fl_X10_7 (by assumption) dX10_ownClass_39 (by decide) rfl (by assumption) ?_
      refine j_iconst C (nI 2) dX10_ownClass_42 (by decide) ?_
      refine j_ialdN C (by assumption) dX10_ownClass_43 (by omega) (by decide) ?_
      refine j_idiv C dX10_ownClass_44 (h20) ?_
      refine j_top (zShr (M (m + 1)) (M (m + 4)) t (n - 1 - j)) (by simp [zShr, h20]) ?_
      refine j_istore C dX10_ownClass_45 (by rw [hxn]; decide) ?_
      refine j_iconst C (nI 3) dX10_ownClass_47 (by decide) ?_
      refine j_iload_n C dX10_ownClass_48 rfl ?_
      first | with_reducible refine j_imulN C dX10_ownClass_49 ?_ | refine j_imul C dX10_ownClass_49 ?_
      refine j_iload C dX10_ownClass_50 rfl ?_
      refine j_aload_n C dX10_ownClass_52 rfl ?_
      refine j_getR C fl_X10_7 (by assumption) dX10_ownClass_53 (by decide) rfl (by assumption) ?_
      refine j_bipush C (nI 11) dX10_ownClass_56 (by decide) ?_
      refine j_ialdN C (by assumption) dX10_ownClass_58 (by omega) (by decide) ?_
      refine j_icmp_ge C 66 dX10_ownClass_59 (by decide) (fun h59 => ?_) (fun h59 => ?_)
      · skip
        refine j_iload C dX10_ownClass_66 rfl ?_
        refine j_aload_n C dX10_ownClass_68 rfl ?_
        refine j_getR C fl_X10_7 (by assumption) dX10_ownClass_69 (by decide) rfl (by assumption) ?_
        refine j_bipush C (nI 12) dX10_ownClass_72 (by decide) ?_
        refine j_ialdN C (by assumption) dX10_ownClass_74 (by omega) (by decide) ?_
        refine j_icmp_ge C 82 dX10_ownClass_75 (by decide) (fun h75 => ?_) (fun h75 => ?_)
        · skip
          refine j_iconst C (nI 2) dX10_ownClass_82 (by decide) ?_
          first | with_reducible refine j_iaddN C dX10_ownClass_83 ?_ | refine j_iadd C dX10_ownClass_83 ?_
          refine j_top ((zCls (M (m + 1)) (M (m + 4)) t n (j + 1))) (by simp only [zCls, zShare]; first | rw [if_neg (Int32.not_le.mpr h59)] | (rw [if_pos (Int32.not_lt.mp h59)]; first | rw [if_neg (Int32.not_le.mpr h75)] | rw [if_pos (Int32.not_lt.mp h75)]) | (rw [if_neg h59]) | (rw [if_pos h59]; first | rw [if_pos h75] | rw [if_neg h75])) ?_
          refine j_istore_n C dX10_ownClass_84 (by rw [hxn]; decide) ?_
          refine j_iinc C _ dX10_ownClass_85 rfl rfl (by rw [hxn]; decide) ?_
          rw [zd_2 hj]
          refine j_goto C 10 dX10_ownClass_88 (by decide) ?_
          refine j_locs [0, 1, 2, 3] rfl ?_
          exact ih trivial
        · skip
          refine j_iconst C (nI 1) dX10_ownClass_78 (by decide) ?_
          refine j_goto C 83 dX10_ownClass_79 (by decide) ?_
          first | with_reducible refine j_iaddN C dX10_ownClass_83 ?_ | refine j_iadd C dX10_ownClass_83 ?_
          refine j_top ((zCls (M (m + 1)) (M (m + 4)) t n (j + 1))) (by simp only [zCls, zShare]; first | rw [if_neg (Int32.not_le.mpr h59)] | (rw [if_pos (Int32.not_lt.mp h59)]; first | rw [if_neg (Int32.not_le.mpr h75)] | rw [if_pos (Int32.not_lt.mp h75)]) | (rw [if_neg h59]) | (rw [if_pos h59]; first | rw [if_pos h75] | rw [if_neg h75])) ?_
          refine j_istore_n C dX10_ownClass_84 (by rw [hxn]; decide) ?_
          refine j_iinc C _ dX10_ownClass_85 rfl rfl (by rw [hxn]; decide) ?_
          rw [zd_2 hj]
          refine j_goto C 10 dX10_ownClass_88 (by decide) ?_
          refine j_locs [0, 1, 2, 3] rfl ?_
          exact ih trivial
      · skip
        refine j_iconst C (nI 0) dX10_ownClass_62 (by decide) ?_
        refine j_goto C 83 dX10_ownClass_63 (by decide) ?_
        first | with_reducible refine j_iaddN C dX10_ownClass_83 ?_ | refine j_iadd C dX10_ownClass_83 ?_
        refine j_top ((zCls (M (m + 1)) (M (m + 4)) t n (j + 1))) (by simp only [zCls, zShare]; first | rw [if_neg (Int32.not_le.mpr h59)] | (rw [if_pos (Int32.not_lt.mp h59)]; first | rw [if_neg (Int32.not_le.mpr h75)] | rw [if_pos (Int32.not_lt.mp h75)]) | (rw [if_neg h59]) | (rw [if_pos h59]; first | rw [if_pos h75] | rw [if_neg h75])) ?_
        refine j_istore_n C dX10_ownClass_84 (by rw [hxn]; decide) ?_
        refine j_iinc C _ dX10_ownClass_85 rfl rfl (by rw [hxn]; decide) ?_
        rw [zd_2 hj]
        refine j_goto C 10 dX10_ownClass_88 (by decide) ?_
        refine j_locs [0, 1, 2, 3] rfl ?_
        exact ih trivial
    · skip
      refine j_iconst C (nI 0) dX10_ownClass_23 (by decide) ?_
      refine j_goto C 45 dX10_ownClass_24 (by decide) ?_
      refine j_top (zShr (M (m + 1)) (M (m + 4)) t (n - 1 - j)) (by simp [zShr, h20]) ?_
      refine j_istore C dX10_ownClass_45 (by rw [hxn]; decide) ?_
      refine j_iconst C (nI 3) dX10_ownClass_47 (by decide) ?_
      refine j_iload_n C dX10_ownClass_48 rfl ?_
      first | with_reducible refine j_imulN C dX10_ownClass_49 ?_ | refine j_imul C dX10_ownClass_49 ?_
      refine j_iload C dX10_ownClass_50 rfl ?_
      refine j_aload_n C dX10_ownClass_52 rfl ?_
      refine j_getR C fl_X10_7 (by assumption) dX10_ownClass_53 (by decide) rfl (by assumption) ?_
      refine j_bipush C (nI 11) dX10_ownClass_56 (by decide) ?_
      refine j_ialdN C (by assumption) dX10_ownClass_58 (by omega) (by decide) ?_
      refine j_icmp_ge C 66 dX10_ownClass_59 (by decide) (fun h59 => ?_) (fun h59 => ?_)
      · skip
        refine j_iload C dX10_ownClass_66 rfl ?_
        refine j_aload_n C dX10_ownClass_68 rfl ?_
        refine j_getR C fl_X10_7 (by assumption) dX10_ownClass_69 (by decide) rfl (by assumption) ?_
        refine j_bipush C (nI 12) dX10_ownClass_72 (by decide) ?_
        refine j_ialdN C (by assumption) dX10_ownClass_74 (by omega) (by decide) ?_
        refine j_icmp_ge C 82 dX10_ownClass_75 (by decide) (fun h75 => ?_) (fun h75 => ?_)
        · skip
          refine j_iconst C (nI 2) dX10_ownClass_82 (by decide) ?_
          first | with_reducible refine j_iaddN C dX10_ownClass_83 ?_ | refine j_iadd C dX10_ownClass_83 ?_
          refine j_top ((zCls (M (m + 1)) (M (m + 4)) t n (j + 1))) (by simp only [zCls, zShare]; first | rw [if_neg (Int32.not_le.mpr h59)] | (rw [if_pos (Int32.not_lt.mp h59)]; first | rw [if_neg (Int32.not_le.mpr h75)] | rw [if_pos (Int32.not_lt.mp h75)]) | (rw [if_neg h59]) | (rw [if_pos h59]; first | rw [if_pos h75] | rw [if_neg h75])) ?_
          refine j_istore_n C dX10_ownClass_84 (by rw [hxn]; decide) ?_
          refine j_iinc C _ dX10_ownClass_85 rfl rfl (by rw [hxn]; decide) ?_
          rw [zd_2 hj]
          refine j_goto C 10 dX10_ownClass_88 (by decide) ?_
          refine j_locs [0, 1, 2, 3] rfl ?_
          exact ih trivial
        · skip
          refine j_iconst C (nI 1) dX10_ownClass_78 (by decide) ?_
          refine j_goto C 83 dX10_ownClass_79 (by decide) ?_
          first | with_reducible refine j_iaddN C dX10_ownClass_83 ?_ | refine j_iadd C dX10_ownClass_83 ?_
          refine j_top ((zCls (M (m + 1)) (M (m + 4)) t n (j + 1))) (by simp only [zCls, zShare]; first | rw [if_neg (Int32.not_le.mpr h59)] | (rw [if_pos (Int32.not_lt.mp h59)]; first | rw [if_neg (Int32.not_le.mpr h75)] | rw [if_pos (Int32.not_lt.mp h75)]) | (rw [if_neg h59]) | (rw [if_pos h59]; first | rw [if_pos h75] | rw [if_neg h75])) ?_
          refine j_istore_n C dX10_ownClass_84 (by rw [hxn]; decide) ?_
          refine j_iinc C _ dX10_ownClass_85 rfl rfl (by rw [hxn]; decide) ?_
          rw [zd_2 hj]
          refine j_goto C 10 dX10_ownClass_88 (by decide) ?_
          refine j_locs [0, 1, 2, 3] rfl ?_
          exact ih trivial
      · skip
        refine j_iconst C (nI 0) dX10_ownClass_62 (by decide) ?_
        refine j_goto C 83 dX10_ownClass_63 (by decide) ?_
        first | with_reducible refine j_iaddN C dX10_ownClass_83 ?_ | refine j_iadd C dX10_ownClass_83 ?_
        refine j_top ((zCls (M (m + 1)) (M (m + 4)) t n (j + 1))) (by simp only [zCls, zShare]; first | rw [if_neg (Int32.not_le.mpr h59)] | (rw [if_pos (Int32.not_lt.mp h59)]; first | rw [if_neg (Int32.not_le.mpr h75)] | rw [if_pos (Int32.not_lt.mp h75)]) | (rw [if_neg h59]) | (rw [if_pos h59]; first | rw [if_pos h75] | rw [if_neg h75])) ?_
        refine j_istore_n C dX10_ownClass_84 (by rw [hxn]; decide) ?_
        refine j_iinc C _ dX10_ownClass_85 rfl rfl (by rw [hxn]; decide) ?_
        rw [zd_2 hj]
        refine j_goto C 10 dX10_ownClass_88 (by decide) ?_
        refine j_locs [0, 1, 2, 3] rfl ?_
        exact ih trivial
  · skip
    rw [Nat.sub_self]
    refine j_iload_n C dX10_ownClass_10 rfl ?_
    refine j_if_lt C 91 dX10_ownClass_11 (by decide) (fun _ => ?_) (fun h => absurd (by decide) h)
    refine j_iload_n C dX10_ownClass_91 rfl ?_
    exact j_ireturn C E dX10_ownClass_92 (rfl) (by decide) (by decide) (⟨rfl, rfl, rfl, rfl⟩)

set_option maxHeartbeats 4000000 in
set_option maxRecDepth 100000 in
theorem c_X10_rowOf (l : Launch) (ω : jW) (γ : jG) (M : jM) (R : jR) {m : Nat} (g : gM ω γ m) {r : Nat} (hr : M (m + 1) 0 = nI r) (hr30 : r ≤ 30) (p w : Int32) : Ct l ω yX10_rowOf cX10_rowOf 3 (some .int) 3 0 0 [.ref m, .int p, .int w] γ M R (jx γ (some (.int (zRowOf (M (m + 1)) p w))) M R) := by
  refine Ct_of (by decide) (Nat.le_of_ble_eq_true rfl) rfl (jcat_of rfl) ?_
  intro X C E hnm hxl hxn
  subst hxl
  have g9 := g
  obtain ⟨g0, g1, g2, g3, g4, g5, g6, g7, g8⟩ := g
  refine j_aload_n C dX10_rowOf_0 rfl ?_
  refine j_iload_n C dX10_rowOf_1 rfl ?_
  refine j_cVi C (c_X10_isRow _ _ _ _ _ (by assumption) _) yc_X10_isRow mn_X10_37 im_X10_isRow se_X10_isRow rfl rfl dX10_rowOf_2 rfl rfl (by assumption) (by decide) (Nat.le_of_ble_eq_true rfl) (by decide) ?_
  refine j_if_eq C 26 dX10_rowOf_5 (by decide) (fun h5 => ?_) (fun h5 => ?_)
  · skip
    refine j_iconst C (-1) dX10_rowOf_26 (by decide) ?_
    exact j_ireturn C E dX10_rowOf_27 (rfl) (by decide) (by decide) (⟨by simp only [zRowOf, if_pos h5] <;> first | done | rw [eck, ecj], rfl, rfl, rfl⟩)
  · skip
    refine j_iload_n C dX10_rowOf_8 rfl ?_
    refine j_iconst C (nI 0) dX10_rowOf_9 (by decide) ?_
    refine j_iconst C (nI 4) dX10_rowOf_10 (by decide) ?_
    refine j_cSi C (c_X10_in _ _ _ _ _ _ _ _) yc_X10_in mn_X10_26 st_X10_in dX10_rowOf_11 rfl rfl (Nat.le_of_ble_eq_true rfl) (by decide) ?_
    refine j_if_eq C 26 dX10_rowOf_14 (by decide) (fun h14 => ?_) (fun h14 => ?_)
    · skip
      refine j_iconst C (-1) dX10_rowOf_26 (by decide) ?_
      exact j_ireturn C E dX10_rowOf_27 (rfl) (by decide) (by decide) (⟨by simp only [zRowOf, if_neg h5, if_pos h14] <;> first | done | rw [eck, ecj], rfl, rfl, rfl⟩)
    · skip
      refine j_aload_n C dX10_rowOf_17 rfl ?_
      obtain ⟨k, hk, ek⟩ := zIs_N hr (by omega) h5
      obtain ⟨j, hj, ej⟩ := rIn_N (by decide) h14
      have eck : p.toNatClampNeg = k := by rw [ek]; exact nI_clamp (by omega)
      have ecj : w.toNatClampNeg = j := by rw [ej]; exact nI_clamp (by omega)
      refine j_iload_n C dX10_rowOf_18 rfl ?_
      refine j_top (nI k) ek ?_
      refine j_iload_n C dX10_rowOf_19 rfl ?_
      refine j_top (nI j) ej ?_
      refine j_cVi C (c_X10_ofRow _ _ _ _ _ (by assumption) (by omega)) yc_X10_ofRow mn_X10_40 im_X10_ofRow se_X10_ofRow rfl rfl dX10_rowOf_20 rfl rfl (by assumption) (by decide) (Nat.le_of_ble_eq_true rfl) (by decide) ?_
      refine j_goto C 27 dX10_rowOf_23 (by decide) ?_
      exact j_ireturn C E dX10_rowOf_27 (rfl) (by decide) (by decide) (⟨by simp only [zRowOf, if_neg h5, if_neg h14] <;> first | done | rw [eck, ecj], rfl, rfl, rfl⟩)

set_option maxHeartbeats 4000000 in
set_option maxRecDepth 100000 in
theorem c_X10_known (l : Launch) (ω : jW) (γ : jG) (M : jM) (R : jR) {m : Nat} (g : gM ω γ m) (c v : Int32) : Ct l ω yX10_known cX10_known 3 (some .int) 3 0 0 [.ref m, .int c, .int v] γ M R (jx γ (some (.int (zKnown (M (m + 1)) c v))) M R) := by
  refine Ct_of (by decide) (Nat.le_of_ble_eq_true rfl) rfl (jcat_of rfl) ?_
  intro X C E hnm hxl hxn
  subst hxl
  have g9 := g
  obtain ⟨g0, g1, g2, g3, g4, g5, g6, g7, g8⟩ := g
  refine j_iload_n C dX10_known_0 rfl ?_
  refine j_iconst C (nI 0) dX10_known_1 (by decide) ?_
  refine j_iconst C (nI 3) dX10_known_2 (by decide) ?_
  refine j_cSi C (c_X10_in _ _ _ _ _ _ _ _) yc_X10_in mn_X10_26 st_X10_in dX10_known_3 rfl rfl (Nat.le_of_ble_eq_true rfl) (by decide) ?_
  refine j_if_eq C 34 dX10_known_6 (by decide) (fun h6 => ?_) (fun h6 => ?_)
  · skip
    refine j_iconst C (-1) dX10_known_34 (by decide) ?_
    exact j_ireturn C E dX10_known_35 (rfl) (by decide) (by decide) (⟨by simp only [zKnown, if_pos h6] <;> first | done | rw [eck, ecj], rfl, rfl, rfl⟩)
  · skip
    refine j_iload_n C dX10_known_9 rfl ?_
    refine j_cSi C (c_X10_isValue _ _ _ _ _ _) yc_X10_isValue mn_X10_30 st_X10_isValue dX10_known_10 rfl rfl (Nat.le_of_ble_eq_true rfl) (by decide) ?_
    refine j_if_eq C 34 dX10_known_13 (by decide) (fun h13 => ?_) (fun h13 => ?_)
    · skip
      refine j_iconst C (-1) dX10_known_34 (by decide) ?_
      exact j_ireturn C E dX10_known_35 (rfl) (by decide) (by decide) (⟨by simp only [zKnown, if_neg h6, if_pos h13] <;> first | done | rw [eck, ecj], rfl, rfl, rfl⟩)
    · skip
      refine j_aload_n C dX10_known_16 rfl ?_
      refine j_getR C fl_X10_7 (by assumption) dX10_known_17 (by decide) rfl (by assumption) ?_
      refine j_sipush C (nI 179) dX10_known_20 (by decide) ?_
      refine j_bipush C (nI 32) dX10_known_23 (by decide) ?_
      obtain ⟨k, hk, ek⟩ := rIn_N (by decide) h6
      obtain ⟨j, hj, ej⟩ := rIn_N (by decide) h13
      have eck : c.toNatClampNeg = k := by rw [ek]; exact nI_clamp (by omega)
      have ecj : v.toNatClampNeg = j := by rw [ej]; exact nI_clamp (by omega)
      refine j_iload_n C dX10_known_25 rfl ?_
      refine j_top (nI k) ek ?_
      first | with_reducible refine j_imulN C dX10_known_26 ?_ | refine j_imul C dX10_known_26 ?_
      first | with_reducible refine j_iaddN C dX10_known_27 ?_ | refine j_iadd C dX10_known_27 ?_
      refine j_iload_n C dX10_known_28 rfl ?_
      refine j_top (nI j) ej ?_
      first | with_reducible refine j_iaddN C dX10_known_29 ?_ | refine j_iadd C dX10_known_29 ?_
      refine j_ialdN C (by assumption) dX10_known_30 (by omega) (by decide) ?_
      refine j_goto C 35 dX10_known_31 (by decide) ?_
      exact j_ireturn C E dX10_known_35 (rfl) (by decide) (by decide) (⟨by simp only [zKnown, if_neg h6, if_neg h13] <;> first | done | rw [eck, ecj], rfl, rfl, rfl⟩)

set_option maxHeartbeats 4000000 in
set_option maxRecDepth 100000 in
theorem c_X10_latest (l : Launch) (ω : jW) (γ : jG) (M : jM) (R : jR) {m : Nat} (g : gM ω γ m) (w : Int32) : Ct l ω yX10_latest cX10_latest 2 (some .int) 2 0 0 [.ref m, .int w] γ M R (jx γ (some (.int (zLatest (M (m + 1)) w))) M R) := by
  refine Ct_of (by decide) (Nat.le_of_ble_eq_true rfl) rfl (jcat_of rfl) ?_
  intro X C E hnm hxl hxn
  subst hxl
  have g9 := g
  obtain ⟨g0, g1, g2, g3, g4, g5, g6, g7, g8⟩ := g
  refine j_iload_n C dX10_latest_0 rfl ?_
  refine j_iconst C (nI 0) dX10_latest_1 (by decide) ?_
  refine j_bipush C (nI 7) dX10_latest_2 (by decide) ?_
  refine j_cSi C (c_X10_in _ _ _ _ _ _ _ _) yc_X10_in mn_X10_26 st_X10_in dX10_latest_4 rfl rfl (Nat.le_of_ble_eq_true rfl) (by decide) ?_
  refine j_if_ne C 12 dX10_latest_7 (by decide) (fun h7 => ?_) (fun h7 => ?_)
  · skip
    refine j_aload_n C dX10_latest_12 rfl ?_
    refine j_getR C fl_X10_7 (by assumption) dX10_latest_13 (by decide) rfl (by assumption) ?_
    refine j_bipush C (nI 16) dX10_latest_16 (by decide) ?_
    refine j_ialdN C (by assumption) dX10_latest_18 (by omega) (by decide) ?_
    refine j_if_ge C 27 dX10_latest_19 (by decide) (fun h19 => ?_) (fun h19 => ?_)
    · skip
      refine j_aload_n C dX10_latest_27 rfl ?_
      refine j_getR C fl_X10_7 (by assumption) dX10_latest_28 (by decide) rfl (by assumption) ?_
      refine j_bipush C (nI 21) dX10_latest_31 (by decide) ?_
      obtain ⟨k, hk, ek⟩ := rIn_N (by decide) h7
      have eck : w.toNatClampNeg = k := by rw [ek]; exact nI_clamp (by omega)
      refine j_iload_n C dX10_latest_33 rfl ?_
      refine j_top (nI k) ek ?_
      first | with_reducible refine j_iaddN C dX10_latest_34 ?_ | refine j_iadd C dX10_latest_34 ?_
      refine j_ialdN C (by assumption) dX10_latest_35 (by omega) (by decide) ?_
      exact j_ireturn C E dX10_latest_36 (rfl) (by decide) (by decide) (⟨by simp only [zLatest, if_neg h7, if_pos h19] <;> first | done | rw [eck], rfl, rfl, rfl⟩)
    · skip
      refine j_bipush C (-4) dX10_latest_22 (by decide) ?_
      refine j_goto C 36 dX10_latest_24 (by decide) ?_
      exact j_ireturn C E dX10_latest_36 (rfl) (by decide) (by decide) (⟨by simp only [zLatest, if_neg h7, if_neg h19] <;> first | done | rw [eck], rfl, rfl, rfl⟩)
  · skip
    refine j_iconst C (-1) dX10_latest_10 (by decide) ?_
    exact j_ireturn C E dX10_latest_11 (rfl) (by decide) (by decide) (⟨by simp only [zLatest, if_pos h7] <;> first | done | rw [eck], rfl, rfl, rfl⟩)

set_option maxHeartbeats 4000000 in
set_option maxRecDepth 100000 in
theorem c_X10_planOf (l : Launch) (ω : jW) (γ : jG) (M : jM) (R : jR) {m : Nat} (g : gM ω γ m) {n : Nat} (hn : M (m + 1) 4 = nI n) (hn8 : n ≤ 8) (x w : Int32) : Ct l ω yX10_planOf cX10_planOf 4 (some .int) 3 0 0 [.ref m, .int x, .int w] γ M R (jx γ (some (.int (zPlanOf (M (m + 1)) n x w))) M R) := by
  refine Ct_of (by decide) (Nat.le_of_ble_eq_true rfl) rfl (jcat_of rfl) ?_
  intro X C E hnm hxl hxn
  subst hxl
  have g9 := g
  obtain ⟨g0, g1, g2, g3, g4, g5, g6, g7, g8⟩ := g
  refine j_aload_n C dX10_planOf_0 rfl ?_
  refine j_iload_n C dX10_planOf_1 rfl ?_
  refine j_cVi C (c_X10_placeOf _ _ _ _ _ (by assumption) (by assumption) (by assumption) _) yc_X10_placeOf mn_X10_138 im_X10_placeOf se_X10_placeOf rfl rfl dX10_planOf_2 rfl rfl (by assumption) (by decide) (Nat.le_of_ble_eq_true rfl) (by decide) ?_
  refine j_istore_n C dX10_planOf_5 (by rw [hxn]; decide) ?_
  refine j_iload_n C dX10_planOf_6 rfl ?_
  refine j_if_lt C 20 dX10_planOf_7 (by decide) (fun h7 => ?_) (fun h7 => ?_)
  · skip
    refine j_iconst C (-1) dX10_planOf_20 (by decide) ?_
    exact j_ireturn C E dX10_planOf_21 (rfl) (by decide) (by decide) (⟨by simp only [zPlanOf, if_pos h7] <;> first | done | rw [e2, e3] | rw [e2], rfl, rfl, rfl⟩)
  · skip
    obtain ⟨q, hq, hq2, eq⟩ := zLast_N h7
    have e2 : (zLast (zPlc (M (m + 1)) x) n).toNatClampNeg = q := by rw [eq]; exact nI_clamp (by omega)
    refine j_iload_n C dX10_planOf_10 rfl ?_
    refine j_iconst C (nI 0) dX10_planOf_11 (by decide) ?_
    refine j_bipush C (nI 7) dX10_planOf_12 (by decide) ?_
    refine j_cSi C (c_X10_in _ _ _ _ _ _ _ _) yc_X10_in mn_X10_26 st_X10_in dX10_planOf_14 rfl rfl (Nat.le_of_ble_eq_true rfl) (by decide) ?_
    refine j_if_ne C 22 dX10_planOf_17 (by decide) (fun h17 => ?_) (fun h17 => ?_)
    · skip
      obtain ⟨j, hj, ej⟩ := rIn_N (by decide) h17
      have e3 : w.toNatClampNeg = j := by rw [ej]; exact nI_clamp (by omega)
      refine j_iload_n C dX10_planOf_22 rfl ?_
      refine j_bipush C (nI 7) dX10_planOf_23 (by decide) ?_
      refine j_icmp_ge C 39 dX10_planOf_25 (by decide) (fun h25 => ?_) (fun h25 => ?_)
      · skip
        refine j_aload_n C dX10_planOf_39 rfl ?_
        refine j_getR C fl_X10_7 (by assumption) dX10_planOf_40 (by decide) rfl (by assumption) ?_
        refine j_bipush C (nI 6) dX10_planOf_43 (by decide) ?_
        refine j_ialdN C (by assumption) dX10_planOf_45 (by omega) (by decide) ?_
        refine j_aload_n C dX10_planOf_46 rfl ?_
        refine j_iload_n C dX10_planOf_47 rfl ?_
        refine j_top (nI q) eq ?_
        refine j_bipush C (nI 8) dX10_planOf_48 (by decide) ?_
        refine j_cVi C (c_X10_ofPlan _ _ _ _ _ (by assumption) (by omega)) yc_X10_ofPlan mn_X10_47 im_X10_ofPlan se_X10_ofPlan rfl rfl dX10_planOf_50 rfl rfl (by assumption) (by decide) (Nat.le_of_ble_eq_true rfl) (by decide) ?_
        refine j_isub C dX10_planOf_53 ?_
        exact j_ireturn C E dX10_planOf_54 (rfl) (by decide) (by decide) (⟨by simp only [zPlanOf, if_neg h7, if_neg h17, if_pos h25] <;> first | done | rw [e2, e3] | rw [e2], rfl, rfl, rfl⟩)
      · skip
        refine j_aload_n C dX10_planOf_28 rfl ?_
        refine j_iload_n C dX10_planOf_29 rfl ?_
        refine j_top (nI q) eq ?_
        refine j_iload_n C dX10_planOf_30 rfl ?_
        refine j_top (nI j) ej ?_
        refine j_iconst C (nI 1) dX10_planOf_31 (by decide) ?_
        first | with_reducible refine j_iaddN C dX10_planOf_32 ?_ | refine j_iadd C dX10_planOf_32 ?_
        refine j_cVi C (c_X10_ofPlan _ _ _ _ _ (by assumption) (by omega)) yc_X10_ofPlan mn_X10_47 im_X10_ofPlan se_X10_ofPlan rfl rfl dX10_planOf_33 rfl rfl (by assumption) (by decide) (Nat.le_of_ble_eq_true rfl) (by decide) ?_
        refine j_goto C 54 dX10_planOf_36 (by decide) ?_
        exact j_ireturn C E dX10_planOf_54 (rfl) (by decide) (by decide) (⟨by simp only [zPlanOf, if_neg h7, if_neg h17, if_neg h25] <;> first | done | rw [e2, e3] | rw [e2], rfl, rfl, rfl⟩)
    · skip
      refine j_iconst C (-1) dX10_planOf_20 (by decide) ?_
      exact j_ireturn C E dX10_planOf_21 (rfl) (by decide) (by decide) (⟨by simp only [zPlanOf, if_neg h7, if_pos h17] <;> first | done | rw [e2, e3] | rw [e2], rfl, rfl, rfl⟩)

set_option maxHeartbeats 4000000 in
set_option maxRecDepth 100000 in
theorem c_X10_planFor (l : Launch) (ω : jW) (γ : jG) (M : jM) (R : jR) {m : Nat} (g : gM ω γ m) {n : Nat} (hn : M (m + 1) 4 = nI n) (hn8 : n ≤ 8) (s c : Int32) : Ct l ω yX10_planFor cX10_planFor 4 (some .int) 3 0 0 [.ref m, .int s, .int c] γ M R (jx γ (some (.int (zPlanFor (M (m + 1)) n s c))) M R) := by
  refine Ct_of (by decide) (Nat.le_of_ble_eq_true rfl) rfl (jcat_of rfl) ?_
  intro X C E hnm hxl hxn
  subst hxl
  have g9 := g
  obtain ⟨g0, g1, g2, g3, g4, g5, g6, g7, g8⟩ := g
  refine j_aload_n C dX10_planFor_0 rfl ?_
  refine j_iload_n C dX10_planFor_1 rfl ?_
  refine j_cVi C (c_X10_isStatement _ _ _ _ _ (by assumption) _) yc_X10_isStatement mn_X10_88 im_X10_isStatement se_X10_isStatement rfl rfl dX10_planFor_2 rfl rfl (by assumption) (by decide) (Nat.le_of_ble_eq_true rfl) (by decide) ?_
  refine j_if_eq C 18 dX10_planFor_5 (by decide) (fun h5 => ?_) (fun h5 => ?_)
  · skip
    refine j_iconst C (-1) dX10_planFor_18 (by decide) ?_
    exact j_ireturn C E dX10_planFor_19 (rfl) (by decide) (by decide) (⟨by simp only [zPlanFor, if_pos h5] <;> first | done | rw [e2], rfl, rfl, rfl⟩)
  · skip
    refine j_iload_n C dX10_planFor_8 rfl ?_
    refine j_iconst C (nI 0) dX10_planFor_9 (by decide) ?_
    refine j_bipush C (nI 80) dX10_planFor_10 (by decide) ?_
    refine j_cSi C (c_X10_in _ _ _ _ _ _ _ _) yc_X10_in mn_X10_26 st_X10_in dX10_planFor_12 rfl rfl (Nat.le_of_ble_eq_true rfl) (by decide) ?_
    refine j_if_ne C 20 dX10_planFor_15 (by decide) (fun h15 => ?_) (fun h15 => ?_)
    · skip
      refine j_aload_n C dX10_planFor_20 rfl ?_
      refine j_iload_n C dX10_planFor_21 rfl ?_
      refine j_iload_n C dX10_planFor_22 rfl ?_
      refine j_cVi C (c_X10_placeFor _ _ _ _ _ (by assumption) (by assumption) (by assumption) _ _) yc_X10_placeFor mn_X10_114 im_X10_placeFor se_X10_placeFor rfl rfl dX10_planFor_23 rfl rfl (by assumption) (by decide) (Nat.le_of_ble_eq_true rfl) (by decide) ?_
      refine j_istore_n C dX10_planFor_26 (by rw [hxn]; decide) ?_
      refine j_iload_n C dX10_planFor_27 rfl ?_
      refine j_if_ge C 36 dX10_planFor_28 (by decide) (fun h28 => ?_) (fun h28 => ?_)
      · skip
        obtain ⟨q, hq, hq2, eq⟩ := zLast_N (Int32.not_lt.mpr h28)
        have e2 : (zLast (zFor (M (m + 1)) s c) n).toNatClampNeg = q := by rw [eq]; exact nI_clamp (by omega)
        refine j_aload_n C dX10_planFor_36 rfl ?_
        refine j_iload_n C dX10_planFor_37 rfl ?_
        refine j_top (nI q) eq ?_
        refine j_iconst C (nI 0) dX10_planFor_38 (by decide) ?_
        refine j_cVi C (c_X10_ofPlan _ _ _ _ _ (by assumption) (by omega)) yc_X10_ofPlan mn_X10_47 im_X10_ofPlan se_X10_ofPlan rfl rfl dX10_planFor_39 rfl rfl (by assumption) (by decide) (Nat.le_of_ble_eq_true rfl) (by decide) ?_
        exact j_ireturn C E dX10_planFor_42 (rfl) (by decide) (by decide) (⟨by simp only [zPlanFor, if_neg h5, if_neg h15, if_pos h28] <;> first | done | rw [e2], rfl, rfl, rfl⟩)
      · skip
        refine j_bipush C (-4) dX10_planFor_31 (by decide) ?_
        refine j_goto C 42 dX10_planFor_33 (by decide) ?_
        exact j_ireturn C E dX10_planFor_42 (rfl) (by decide) (by decide) (⟨by simp only [zPlanFor, if_neg h5, if_neg h15, if_neg h28] <;> first | done | rw [e2], rfl, rfl, rfl⟩)
    · skip
      refine j_iconst C (-1) dX10_planFor_18 (by decide) ?_
      exact j_ireturn C E dX10_planFor_19 (rfl) (by decide) (by decide) (⟨by simp only [zPlanFor, if_neg h5, if_pos h15] <;> first | done | rw [e2], rfl, rfl, rfl⟩)

set_option maxHeartbeats 4000000 in
set_option maxRecDepth 100000 in
theorem c_X10_dropsNext (l : Launch) (ω : jW) (γ : jG) (M : jM) (R : jR) {m : Nat} (g : gM ω γ m) {n : Nat} (hn : M (m + 1) 4 = nI n) (hn8 : n ≤ 8) (x : Int32) : Ct l ω yX10_dropsNext cX10_dropsNext 3 (some .int) 4 0 0 [.ref m, .int x] γ M R (jx γ (some (.int (zDropsN (M (m + 1)) n x))) M R) := by
  refine Ct_of (by decide) (Nat.le_of_ble_eq_true rfl) rfl (jcat_of rfl) ?_
  intro X C E hnm hxl hxn
  subst hxl
  have g9 := g
  obtain ⟨g0, g1, g2, g3, g4, g5, g6, g7, g8⟩ := g
  refine j_iload_n C dX10_dropsNext_0 rfl ?_
  refine j_if_ge C 6 dX10_dropsNext_1 (by decide) (fun h1 => ?_) (fun h1 => ?_)
  · skip
    refine j_aload_n C dX10_dropsNext_6 rfl ?_
    refine j_iload_n C dX10_dropsNext_7 rfl ?_
    refine j_cVi C (c_X10_dropsAt _ _ _ _ _ (by assumption) (by assumption) (by assumption) _) yc_X10_dropsAt mn_X10_108 im_X10_dropsAt se_X10_dropsAt rfl rfl dX10_dropsNext_8 rfl rfl (by assumption) (by decide) (Nat.le_of_ble_eq_true rfl) (by decide) ?_
    refine j_istore_n C dX10_dropsNext_11 (by rw [hxn]; decide) ?_
    refine j_iload_n C dX10_dropsNext_12 rfl ?_
    refine j_if_ge C 21 dX10_dropsNext_13 (by decide) (fun h13 => ?_) (fun h13 => ?_)
    · skip
      obtain ⟨q, hq, hq2, eq⟩ := zLast_N (Int32.not_lt.mpr h13)
      have e2 : (zLast (zDrp (M (m + 1)) n x) n).toNatClampNeg = q := by rw [eq]; exact nI_clamp (by omega)
      refine j_aload_n C dX10_dropsNext_21 rfl ?_
      refine j_iload_n C dX10_dropsNext_22 rfl ?_
      refine j_top (nI q) eq ?_
      refine j_iconst C (nI 0) dX10_dropsNext_23 (by decide) ?_
      refine j_cVi C (c_X10_ofPlan _ _ _ _ _ (by assumption) (by omega)) yc_X10_ofPlan mn_X10_47 im_X10_ofPlan se_X10_ofPlan rfl rfl dX10_dropsNext_24 rfl rfl (by assumption) (by decide) (Nat.le_of_ble_eq_true rfl) (by decide) ?_
      exact j_ireturn C E dX10_dropsNext_27 (rfl) (by decide) (by decide) (⟨by simp only [zDropsN, if_pos h1, if_pos h13] <;> first | done | rw [e2], rfl, rfl, rfl⟩)
    · skip
      refine j_bipush C (-4) dX10_dropsNext_16 (by decide) ?_
      refine j_goto C 27 dX10_dropsNext_18 (by decide) ?_
      exact j_ireturn C E dX10_dropsNext_27 (rfl) (by decide) (by decide) (⟨by simp only [zDropsN, if_pos h1, if_neg h13] <;> first | done | rw [e2], rfl, rfl, rfl⟩)
  · skip
    refine j_iconst C (-1) dX10_dropsNext_4 (by decide) ?_
    exact j_ireturn C E dX10_dropsNext_5 (rfl) (by decide) (by decide) (⟨by simp only [zDropsN, if_neg h1] <;> first | done | rw [e2], rfl, rfl, rfl⟩)

set_option maxHeartbeats 4000000 in
set_option maxRecDepth 100000 in
theorem c_X10_statementOf (l : Launch) (ω : jW) (γ : jG) (M : jM) (R : jR) {m : Nat} (g : gM ω γ m) {n : Nat} (hn : M (m + 1) 4 = nI n) (hn8 : n ≤ 8) {c : Nat} (hc : M (m + 1) 3 = nI c) (hc6 : c ≤ 6) (s w : Int32) : Ct l ω yX10_statementOf cX10_statementOf 4 (some .int) 3 0 0 [.ref m, .int s, .int w] γ M R (jx γ (some (.int (zStOf (M (m + 1)) n s w))) M R) := by
  refine Ct_of (by decide) (Nat.le_of_ble_eq_true rfl) rfl (jcat_of rfl) ?_
  intro X C E hnm hxl hxn
  subst hxl
  have g9 := g
  obtain ⟨g0, g1, g2, g3, g4, g5, g6, g7, g8⟩ := g
  refine j_aload_n C dX10_statementOf_0 rfl ?_
  refine j_iload_n C dX10_statementOf_1 rfl ?_
  refine j_cVi C (c_X10_isStatement _ _ _ _ _ (by assumption) _) yc_X10_isStatement mn_X10_88 im_X10_isStatement se_X10_isStatement rfl rfl dX10_statementOf_2 rfl rfl (by assumption) (by decide) (Nat.le_of_ble_eq_true rfl) (by decide) ?_
  refine j_if_ne C 10 dX10_statementOf_5 (by decide) (fun h5 => ?_) (fun h5 => ?_)
  · skip
    obtain ⟨k, hk, ek⟩ := zIs_N hc (by omega) h5
    have eck : s.toNatClampNeg = k := by rw [ek]; exact nI_clamp (by omega)
    refine j_iload_n C dX10_statementOf_10 rfl ?_
    refine j_iconst C (nI 0) dX10_statementOf_11 (by decide) ?_
    refine j_iconst C (nI 2) dX10_statementOf_12 (by decide) ?_
    refine j_cSi C (c_X10_in _ _ _ _ _ _ _ _) yc_X10_in mn_X10_26 st_X10_in dX10_statementOf_13 rfl rfl (Nat.le_of_ble_eq_true rfl) (by decide) ?_
    refine j_if_eq C 61 dX10_statementOf_16 (by decide) (fun h16 => ?_) (fun h16 => ?_)
    · skip
      refine j_iload_n C dX10_statementOf_61 rfl ?_
      refine j_bipush C (nI 10) dX10_statementOf_62 (by decide) ?_
      refine j_irem C dX10_statementOf_64 (by decide) ?_
      refine j_top (zRm w) rfl ?_
      refine j_istore_n C dX10_statementOf_65 (by rw [hxn]; decide) ?_
      refine j_iload_n C dX10_statementOf_66 rfl ?_
      refine j_bipush C (nI 10) dX10_statementOf_67 (by decide) ?_
      refine j_bipush C (nI 29) dX10_statementOf_69 (by decide) ?_
      refine j_cSi C (c_X10_in _ _ _ _ _ _ _ _) yc_X10_in mn_X10_26 st_X10_in dX10_statementOf_71 rfl rfl (Nat.le_of_ble_eq_true rfl) (by decide) ?_
      refine j_if_eq C 82 dX10_statementOf_74 (by decide) (fun h74 => ?_) (fun h74 => ?_)
      · skip
        refine j_iconst C (-1) dX10_statementOf_82 (by decide) ?_
        exact j_ireturn C E dX10_statementOf_83 (rfl) (by decide) (by decide) (⟨by first | (simp only [zStOf, if_neg h5, if_pos h16, if_pos h74, eck, ecj]; done) | (simp only [zStOf, if_neg h5, if_pos h16, if_pos h74, eck]; done) | (simp only [zStOf, if_neg h5, if_pos h16, if_pos h74]; done), rfl, rfl, rfl⟩)
      · skip
        refine j_iload_n C dX10_statementOf_77 rfl ?_
        refine j_iconst C (nI 3) dX10_statementOf_78 (by decide) ?_
        refine j_icmp_le C 84 dX10_statementOf_79 (by decide) (fun h79 => ?_) (fun h79 => ?_)
        · skip
          refine j_iload_n C dX10_statementOf_84 rfl ?_
          refine j_aload_n C dX10_statementOf_85 rfl ?_
          refine j_iload_n C dX10_statementOf_86 rfl ?_
          refine j_top (nI k) ek ?_
          refine j_cVi C (c_X10_conditions _ _ _ _ _ (by assumption) (by omega)) yc_X10_conditions mn_X10_70 im_X10_conditions se_X10_conditions rfl rfl dX10_statementOf_87 rfl rfl (by assumption) (by decide) (Nat.le_of_ble_eq_true rfl) (by decide) ?_
          refine j_icmp_lt C 98 dX10_statementOf_90 (by decide) (fun h90 => ?_) (fun h90 => ?_)
          · skip
            obtain ⟨j, hj, ej⟩ := zRem h74 h79
            have ecj := congrArg Int32.toNatClampNeg ej
            rw [nI_clamp (show j < 2 ^ 31 by omega)] at ecj
            refine j_iload_n C dX10_statementOf_98 rfl ?_
            refine j_bipush C (nI 20) dX10_statementOf_99 (by decide) ?_
            refine j_icmp_ge C 113 dX10_statementOf_101 (by decide) (fun h101 => ?_) (fun h101 => ?_)
            · skip
              refine j_aload_n C dX10_statementOf_113 rfl ?_
              refine j_iload_n C dX10_statementOf_114 rfl ?_
              refine j_top (nI k) ek ?_
              refine j_iload_n C dX10_statementOf_115 rfl ?_
              refine j_top (nI j) ej ?_
              refine j_cVi C (c_X10_operatorOf _ _ _ _ _ (by assumption) (by omega)) yc_X10_operatorOf mn_X10_78 im_X10_operatorOf se_X10_operatorOf rfl rfl dX10_statementOf_116 rfl rfl (by assumption) (by decide) (Nat.le_of_ble_eq_true rfl) (by decide) ?_
              exact j_ireturn C E dX10_statementOf_119 (rfl) (by decide) (by decide) (⟨by first | (simp only [zStOf, if_neg h5, if_pos h16, if_neg h74, if_pos h79, if_pos h90, if_pos h101, eck, ecj]; done) | (simp only [zStOf, if_neg h5, if_pos h16, if_neg h74, if_pos h79, if_pos h90, if_pos h101, eck]; done) | (simp only [zStOf, if_neg h5, if_pos h16, if_neg h74, if_pos h79, if_pos h90, if_pos h101]; done), rfl, rfl, rfl⟩)
            · skip
              refine j_aload_n C dX10_statementOf_104 rfl ?_
              refine j_iload_n C dX10_statementOf_105 rfl ?_
              refine j_top (nI k) ek ?_
              refine j_iload_n C dX10_statementOf_106 rfl ?_
              refine j_top (nI j) ej ?_
              refine j_cVi C (c_X10_columnOf _ _ _ _ _ (by assumption) (by omega)) yc_X10_columnOf mn_X10_50 im_X10_columnOf se_X10_columnOf rfl rfl dX10_statementOf_107 rfl rfl (by assumption) (by decide) (Nat.le_of_ble_eq_true rfl) (by decide) ?_
              refine j_goto C 119 dX10_statementOf_110 (by decide) ?_
              exact j_ireturn C E dX10_statementOf_119 (rfl) (by decide) (by decide) (⟨by first | (simp only [zStOf, if_neg h5, if_pos h16, if_neg h74, if_pos h79, if_pos h90, if_neg h101, eck, ecj]; done) | (simp only [zStOf, if_neg h5, if_pos h16, if_neg h74, if_pos h79, if_pos h90, if_neg h101, eck]; done) | (simp only [zStOf, if_neg h5, if_pos h16, if_neg h74, if_pos h79, if_pos h90, if_neg h101]; done), rfl, rfl, rfl⟩)
          · skip
            refine j_bipush C (-4) dX10_statementOf_93 (by decide) ?_
            refine j_goto C 119 dX10_statementOf_95 (by decide) ?_
            exact j_ireturn C E dX10_statementOf_119 (rfl) (by decide) (by decide) (⟨by first | (simp only [zStOf, if_neg h5, if_pos h16, if_neg h74, if_pos h79, if_neg h90, eck, ecj]; done) | (simp only [zStOf, if_neg h5, if_pos h16, if_neg h74, if_pos h79, if_neg h90, eck]; done) | (simp only [zStOf, if_neg h5, if_pos h16, if_neg h74, if_pos h79, if_neg h90]; done), rfl, rfl, rfl⟩)
        · skip
          refine j_iconst C (-1) dX10_statementOf_82 (by decide) ?_
          exact j_ireturn C E dX10_statementOf_83 (rfl) (by decide) (by decide) (⟨by first | (simp only [zStOf, if_neg h5, if_pos h16, if_neg h74, if_neg h79, eck, ecj]; done) | (simp only [zStOf, if_neg h5, if_pos h16, if_neg h74, if_neg h79, eck]; done) | (simp only [zStOf, if_neg h5, if_pos h16, if_neg h74, if_neg h79]; done), rfl, rfl, rfl⟩)
    · skip
      refine j_iload_n C dX10_statementOf_19 rfl ?_
      refine j_if_ne C 31 dX10_statementOf_20 (by decide) (fun h20 => ?_) (fun h20 => ?_)
      · skip
        refine j_iload_n C dX10_statementOf_31 rfl ?_
        refine j_iconst C (nI 1) dX10_statementOf_32 (by decide) ?_
        refine j_icmp_ne C 44 dX10_statementOf_33 (by decide) (fun h33 => ?_) (fun h33 => ?_)
        · skip
          refine j_aload_n C dX10_statementOf_44 rfl ?_
          refine j_getR C fl_X10_7 (by assumption) dX10_statementOf_45 (by decide) rfl (by assumption) ?_
          refine j_sipush C (nI 307) dX10_statementOf_48 (by decide) ?_
          refine j_bipush C (nI 10) dX10_statementOf_51 (by decide) ?_
          refine j_iload_n C dX10_statementOf_53 rfl ?_
          refine j_top (nI k) ek ?_
          first | with_reducible refine j_imulN C dX10_statementOf_54 ?_ | refine j_imul C dX10_statementOf_54 ?_
          first | with_reducible refine j_iaddN C dX10_statementOf_55 ?_ | refine j_iadd C dX10_statementOf_55 ?_
          refine j_bipush C (nI 9) dX10_statementOf_56 (by decide) ?_
          first | with_reducible refine j_iaddN C dX10_statementOf_58 ?_ | refine j_iadd C dX10_statementOf_58 ?_
          refine j_ialdN C (by assumption) dX10_statementOf_59 (by omega) (by decide) ?_
          exact j_ireturn C E dX10_statementOf_60 (rfl) (by decide) (by decide) (⟨by first | (simp only [zStOf, if_neg h5, if_neg h16, if_neg h20, if_neg h33, eck, ecj]; done) | (simp only [zStOf, if_neg h5, if_neg h16, if_neg h20, if_neg h33, eck]; done) | (simp only [zStOf, if_neg h5, if_neg h16, if_neg h20, if_neg h33]; done), rfl, rfl, rfl⟩)
        · skip
          refine j_aload_n C dX10_statementOf_36 rfl ?_
          refine j_iload_n C dX10_statementOf_37 rfl ?_
          refine j_cVi C (c_X10_plansOf _ _ _ _ _ (by assumption) (by assumption) (by assumption) _) yc_X10_plansOf mn_X10_91 im_X10_plansOf se_X10_plansOf rfl rfl dX10_statementOf_38 rfl rfl (by assumption) (by decide) (Nat.le_of_ble_eq_true rfl) (by decide) ?_
          refine j_goto C 60 dX10_statementOf_41 (by decide) ?_
          exact j_ireturn C E dX10_statementOf_60 (rfl) (by decide) (by decide) (⟨by first | (simp only [zStOf, if_neg h5, if_neg h16, if_neg h20, if_pos h33, eck, ecj]; done) | (simp only [zStOf, if_neg h5, if_neg h16, if_neg h20, if_pos h33, eck]; done) | (simp only [zStOf, if_neg h5, if_neg h16, if_neg h20, if_pos h33]; done), rfl, rfl, rfl⟩)
      · skip
        refine j_aload_n C dX10_statementOf_23 rfl ?_
        refine j_iload_n C dX10_statementOf_24 rfl ?_
        refine j_top (nI k) ek ?_
        refine j_cVi C (c_X10_conditions _ _ _ _ _ (by assumption) (by omega)) yc_X10_conditions mn_X10_70 im_X10_conditions se_X10_conditions rfl rfl dX10_statementOf_25 rfl rfl (by assumption) (by decide) (Nat.le_of_ble_eq_true rfl) (by decide) ?_
        refine j_goto C 60 dX10_statementOf_28 (by decide) ?_
        exact j_ireturn C E dX10_statementOf_60 (rfl) (by decide) (by decide) (⟨by first | (simp only [zStOf, if_neg h5, if_neg h16, if_pos h20, eck, ecj]; done) | (simp only [zStOf, if_neg h5, if_neg h16, if_pos h20, eck]; done) | (simp only [zStOf, if_neg h5, if_neg h16, if_pos h20]; done), rfl, rfl, rfl⟩)
  · skip
    refine j_iconst C (-1) dX10_statementOf_8 (by decide) ?_
    exact j_ireturn C E dX10_statementOf_9 (rfl) (by decide) (by decide) (⟨by first | (simp only [zStOf, if_pos h5, eck, ecj]; done) | (simp only [zStOf, if_pos h5, eck]; done) | (simp only [zStOf, if_pos h5]; done), rfl, rfl, rfl⟩)

set_option maxHeartbeats 4000000 in
set_option maxRecDepth 100000 in
theorem c_X10_count (l : Launch) (ω : jW) (γ : jG) (M : jM) (R : jR) {m : Nat} (g : gM ω γ m) {r : Nat} (hr : M (m + 1) 0 = nI r) (hr30 : r ≤ 30) {n : Nat} (hn : M (m + 1) 4 = nI n) (hn8 : n ≤ 8) (w : Int32) : Ct l ω yX10_count cX10_count 2 (some .int) 3 0 0 [.ref m, .int w] γ M R (jx γ (some (.int (zCount M m r n w))) M R) := by
  refine Ct_of (by decide) (Nat.le_of_ble_eq_true rfl) rfl (jcat_of rfl) ?_
  intro X C E hnm hxl hxn
  subst hxl
  have g9 := g
  obtain ⟨g0, g1, g2, g3, g4, g5, g6, g7, g8⟩ := g
  refine j_iload_n C dX10_count_0 rfl ?_
  by_cases s1_0 : w = nI 0
  · skip
    refine j_tableIn C 0 72 dX10_count_1 (by rw [s1_0]; decide) (by decide) rfl (by decide) ?_
    refine j_aload_n C dX10_count_72 rfl ?_
    refine j_getR C fl_X10_7 (by assumption) dX10_count_73 (by decide) rfl (by assumption) ?_
    refine j_iconst C (nI 0) dX10_count_76 (by decide) ?_
    refine j_ialdN C (by assumption) dX10_count_77 (by omega) (by decide) ?_
    exact j_ireturn C E dX10_count_78 (rfl) (by decide) (by decide) (⟨by first | (simp only [zCount, if_pos s1_0, eck]; done) | (simp only [zCount, if_pos s1_0]; done) | (subst_vars; simp only [zCount, if_pos s1_0]; done), rfl, rfl, rfl⟩)
  by_cases s1_1 : w = nI 1
  · skip
    refine j_tableIn C 1 79 dX10_count_1 (by rw [s1_1]; decide) (by decide) rfl (by decide) ?_
    refine j_aload_n C dX10_count_79 rfl ?_
    refine j_cVi C (c_X10_size _ _ _ _ _ (by assumption) (by assumption) (by assumption)) yc_X10_size mn_X10_57 im_X10_size se_X10_size rfl rfl dX10_count_80 rfl rfl (by assumption) (by decide) (Nat.le_of_ble_eq_true rfl) (by decide) ?_
    exact j_ireturn C E dX10_count_83 (rfl) (by decide) (by decide) (⟨by first | (simp only [zCount, if_neg s1_0, if_pos s1_1, eck]; done) | (simp only [zCount, if_neg s1_0, if_pos s1_1]; done) | (subst_vars; simp only [zCount, if_neg s1_0, if_pos s1_1]; done), rfl, rfl, rfl⟩)
  by_cases s1_2 : w = nI 2
  · skip
    refine j_tableIn C 2 84 dX10_count_1 (by rw [s1_2]; decide) (by decide) rfl (by decide) ?_
    refine j_aload_n C dX10_count_84 rfl ?_
    refine j_getR C fl_X10_7 (by assumption) dX10_count_85 (by decide) rfl (by assumption) ?_
    refine j_iconst C (nI 2) dX10_count_88 (by decide) ?_
    refine j_ialdN C (by assumption) dX10_count_89 (by omega) (by decide) ?_
    exact j_ireturn C E dX10_count_90 (rfl) (by decide) (by decide) (⟨by first | (simp only [zCount, if_neg s1_0, if_neg s1_1, if_pos s1_2, eck]; done) | (simp only [zCount, if_neg s1_0, if_neg s1_1, if_pos s1_2]; done) | (subst_vars; simp only [zCount, if_neg s1_0, if_neg s1_1, if_pos s1_2]; done), rfl, rfl, rfl⟩)
  by_cases s1_3 : w = nI 3
  · skip
    refine j_tableIn C 3 91 dX10_count_1 (by rw [s1_3]; decide) (by decide) rfl (by decide) ?_
    refine j_aload_n C dX10_count_91 rfl ?_
    refine j_getR C fl_X10_7 (by assumption) dX10_count_92 (by decide) rfl (by assumption) ?_
    refine j_iconst C (nI 1) dX10_count_95 (by decide) ?_
    refine j_ialdN C (by assumption) dX10_count_96 (by omega) (by decide) ?_
    exact j_ireturn C E dX10_count_97 (rfl) (by decide) (by decide) (⟨by first | (simp only [zCount, if_neg s1_0, if_neg s1_1, if_neg s1_2, if_pos s1_3, eck]; done) | (simp only [zCount, if_neg s1_0, if_neg s1_1, if_neg s1_2, if_pos s1_3]; done) | (subst_vars; simp only [zCount, if_neg s1_0, if_neg s1_1, if_neg s1_2, if_pos s1_3]; done), rfl, rfl, rfl⟩)
  by_cases s1_4 : w = nI 4
  · skip
    refine j_tableIn C 4 98 dX10_count_1 (by rw [s1_4]; decide) (by decide) rfl (by decide) ?_
    refine j_aload_n C dX10_count_98 rfl ?_
    refine j_getR C fl_X10_7 (by assumption) dX10_count_99 (by decide) rfl (by assumption) ?_
    refine j_iconst C (nI 3) dX10_count_102 (by decide) ?_
    refine j_ialdN C (by assumption) dX10_count_103 (by omega) (by decide) ?_
    exact j_ireturn C E dX10_count_104 (rfl) (by decide) (by decide) (⟨by first | (simp only [zCount, if_neg s1_0, if_neg s1_1, if_neg s1_2, if_neg s1_3, if_pos s1_4, eck]; done) | (simp only [zCount, if_neg s1_0, if_neg s1_1, if_neg s1_2, if_neg s1_3, if_pos s1_4]; done) | (subst_vars; simp only [zCount, if_neg s1_0, if_neg s1_1, if_neg s1_2, if_neg s1_3, if_pos s1_4]; done), rfl, rfl, rfl⟩)
  by_cases s1_5 : w = nI 5
  · skip
    refine j_tableIn C 5 105 dX10_count_1 (by rw [s1_5]; decide) (by decide) rfl (by decide) ?_
    refine j_aload_n C dX10_count_105 rfl ?_
    refine j_getR C fl_X10_7 (by assumption) dX10_count_106 (by decide) rfl (by assumption) ?_
    refine j_iconst C (nI 4) dX10_count_109 (by decide) ?_
    refine j_ialdN C (by assumption) dX10_count_110 (by omega) (by decide) ?_
    exact j_ireturn C E dX10_count_111 (rfl) (by decide) (by decide) (⟨by first | (simp only [zCount, if_neg s1_0, if_neg s1_1, if_neg s1_2, if_neg s1_3, if_neg s1_4, if_pos s1_5, eck]; done) | (simp only [zCount, if_neg s1_0, if_neg s1_1, if_neg s1_2, if_neg s1_3, if_neg s1_4, if_pos s1_5]; done) | (subst_vars; simp only [zCount, if_neg s1_0, if_neg s1_1, if_neg s1_2, if_neg s1_3, if_neg s1_4, if_pos s1_5]; done), rfl, rfl, rfl⟩)
  by_cases s1_6 : w = nI 6
  · skip
    refine j_tableIn C 6 112 dX10_count_1 (by rw [s1_6]; decide) (by decide) rfl (by decide) ?_
    refine j_aload_n C dX10_count_112 rfl ?_
    refine j_cVi C (c_X10_pinned _ _ _ _ _ (by assumption) (by assumption) (by assumption)) yc_X10_pinned mn_X10_141 im_X10_pinned se_X10_pinned rfl rfl dX10_count_113 rfl rfl (by assumption) (by decide) (Nat.le_of_ble_eq_true rfl) (by decide) ?_
    exact j_ireturn C E dX10_count_116 (rfl) (by decide) (by decide) (⟨by first | (simp only [zCount, if_neg s1_0, if_neg s1_1, if_neg s1_2, if_neg s1_3, if_neg s1_4, if_neg s1_5, if_pos s1_6, eck]; done) | (simp only [zCount, if_neg s1_0, if_neg s1_1, if_neg s1_2, if_neg s1_3, if_neg s1_4, if_neg s1_5, if_pos s1_6]; done) | (subst_vars; simp only [zCount, if_neg s1_0, if_neg s1_1, if_neg s1_2, if_neg s1_3, if_neg s1_4, if_neg s1_5, if_pos s1_6]; done), rfl, rfl, rfl⟩)
  by_cases s1_7 : w = nI 7
  · skip
    refine j_tableIn C 7 117 dX10_count_1 (by rw [s1_7]; decide) (by decide) rfl (by decide) ?_
    refine j_aload_n C dX10_count_117 rfl ?_
    refine j_getR C fl_X10_7 (by assumption) dX10_count_118 (by decide) rfl (by assumption) ?_
    refine j_bipush C (nI 6) dX10_count_121 (by decide) ?_
    refine j_iload_n C dX10_count_123 rfl ?_
    first | refine j_top (nI 7) s1_7 ?_ | refine j_top (nI 8) s1_8 ?_ | refine j_top (nI 9) s1_9 ?_ | refine j_top (nI 10) s1_10 ?_ | refine j_top (nI 11) s1_11 ?_
    first | with_reducible refine j_iaddN C dX10_count_124 ?_ | refine j_iadd C dX10_count_124 ?_
    refine j_bipush C (nI 7) dX10_count_125 (by decide) ?_
    refine j_isubN C dX10_count_127 (by decide) ?_
    refine j_ialdN C (by assumption) dX10_count_128 (by omega) (by decide) ?_
    exact j_ireturn C E dX10_count_129 (rfl) (by decide) (by decide) (⟨by first | (simp only [zCount, if_neg s1_0, if_neg s1_1, if_neg s1_2, if_neg s1_3, if_neg s1_4, if_neg s1_5, if_neg s1_6, if_pos s1_7, eck]; done) | (simp only [zCount, if_neg s1_0, if_neg s1_1, if_neg s1_2, if_neg s1_3, if_neg s1_4, if_neg s1_5, if_neg s1_6, if_pos s1_7]; done) | (subst_vars; simp only [zCount, if_neg s1_0, if_neg s1_1, if_neg s1_2, if_neg s1_3, if_neg s1_4, if_neg s1_5, if_neg s1_6, if_pos s1_7]; done), rfl, rfl, rfl⟩)
  by_cases s1_8 : w = nI 8
  · skip
    refine j_tableIn C 8 117 dX10_count_1 (by rw [s1_8]; decide) (by decide) rfl (by decide) ?_
    refine j_aload_n C dX10_count_117 rfl ?_
    refine j_getR C fl_X10_7 (by assumption) dX10_count_118 (by decide) rfl (by assumption) ?_
    refine j_bipush C (nI 6) dX10_count_121 (by decide) ?_
    refine j_iload_n C dX10_count_123 rfl ?_
    first | refine j_top (nI 7) s1_7 ?_ | refine j_top (nI 8) s1_8 ?_ | refine j_top (nI 9) s1_9 ?_ | refine j_top (nI 10) s1_10 ?_ | refine j_top (nI 11) s1_11 ?_
    first | with_reducible refine j_iaddN C dX10_count_124 ?_ | refine j_iadd C dX10_count_124 ?_
    refine j_bipush C (nI 7) dX10_count_125 (by decide) ?_
    refine j_isubN C dX10_count_127 (by decide) ?_
    refine j_ialdN C (by assumption) dX10_count_128 (by omega) (by decide) ?_
    exact j_ireturn C E dX10_count_129 (rfl) (by decide) (by decide) (⟨by first | (simp only [zCount, if_neg s1_0, if_neg s1_1, if_neg s1_2, if_neg s1_3, if_neg s1_4, if_neg s1_5, if_neg s1_6, if_neg s1_7, if_pos s1_8, eck]; done) | (simp only [zCount, if_neg s1_0, if_neg s1_1, if_neg s1_2, if_neg s1_3, if_neg s1_4, if_neg s1_5, if_neg s1_6, if_neg s1_7, if_pos s1_8]; done) | (subst_vars; simp only [zCount, if_neg s1_0, if_neg s1_1, if_neg s1_2, if_neg s1_3, if_neg s1_4, if_neg s1_5, if_neg s1_6, if_neg s1_7, if_pos s1_8]; done), rfl, rfl, rfl⟩)
  by_cases s1_9 : w = nI 9
  · skip
    refine j_tableIn C 9 117 dX10_count_1 (by rw [s1_9]; decide) (by decide) rfl (by decide) ?_
    refine j_aload_n C dX10_count_117 rfl ?_
    refine j_getR C fl_X10_7 (by assumption) dX10_count_118 (by decide) rfl (by assumption) ?_
    refine j_bipush C (nI 6) dX10_count_121 (by decide) ?_
    refine j_iload_n C dX10_count_123 rfl ?_
    first | refine j_top (nI 7) s1_7 ?_ | refine j_top (nI 8) s1_8 ?_ | refine j_top (nI 9) s1_9 ?_ | refine j_top (nI 10) s1_10 ?_ | refine j_top (nI 11) s1_11 ?_
    first | with_reducible refine j_iaddN C dX10_count_124 ?_ | refine j_iadd C dX10_count_124 ?_
    refine j_bipush C (nI 7) dX10_count_125 (by decide) ?_
    refine j_isubN C dX10_count_127 (by decide) ?_
    refine j_ialdN C (by assumption) dX10_count_128 (by omega) (by decide) ?_
    exact j_ireturn C E dX10_count_129 (rfl) (by decide) (by decide) (⟨by first | (simp only [zCount, if_neg s1_0, if_neg s1_1, if_neg s1_2, if_neg s1_3, if_neg s1_4, if_neg s1_5, if_neg s1_6, if_neg s1_7, if_neg s1_8, if_pos s1_9, eck]; done) | (simp only [zCount, if_neg s1_0, if_neg s1_1, if_neg s1_2, if_neg s1_3, if_neg s1_4, if_neg s1_5, if_neg s1_6, if_neg s1_7, if_neg s1_8, if_pos s1_9]; done) | (subst_vars; simp only [zCount, if_neg s1_0, if_neg s1_1, if_neg s1_2, if_neg s1_3, if_neg s1_4, if_neg s1_5, if_neg s1_6, if_neg s1_7, if_neg s1_8, if_pos s1_9]; done), rfl, rfl, rfl⟩)
  by_cases s1_10 : w = nI 10
  · skip
    refine j_tableIn C 10 117 dX10_count_1 (by rw [s1_10]; decide) (by decide) rfl (by decide) ?_
    refine j_aload_n C dX10_count_117 rfl ?_
    refine j_getR C fl_X10_7 (by assumption) dX10_count_118 (by decide) rfl (by assumption) ?_
    refine j_bipush C (nI 6) dX10_count_121 (by decide) ?_
    refine j_iload_n C dX10_count_123 rfl ?_
    first | refine j_top (nI 7) s1_7 ?_ | refine j_top (nI 8) s1_8 ?_ | refine j_top (nI 9) s1_9 ?_ | refine j_top (nI 10) s1_10 ?_ | refine j_top (nI 11) s1_11 ?_
    first | with_reducible refine j_iaddN C dX10_count_124 ?_ | refine j_iadd C dX10_count_124 ?_
    refine j_bipush C (nI 7) dX10_count_125 (by decide) ?_
    refine j_isubN C dX10_count_127 (by decide) ?_
    refine j_ialdN C (by assumption) dX10_count_128 (by omega) (by decide) ?_
    exact j_ireturn C E dX10_count_129 (rfl) (by decide) (by decide) (⟨by first | (simp only [zCount, if_neg s1_0, if_neg s1_1, if_neg s1_2, if_neg s1_3, if_neg s1_4, if_neg s1_5, if_neg s1_6, if_neg s1_7, if_neg s1_8, if_neg s1_9, if_pos s1_10, eck]; done) | (simp only [zCount, if_neg s1_0, if_neg s1_1, if_neg s1_2, if_neg s1_3, if_neg s1_4, if_neg s1_5, if_neg s1_6, if_neg s1_7, if_neg s1_8, if_neg s1_9, if_pos s1_10]; done) | (subst_vars; simp only [zCount, if_neg s1_0, if_neg s1_1, if_neg s1_2, if_neg s1_3, if_neg s1_4, if_neg s1_5, if_neg s1_6, if_neg s1_7, if_neg s1_8, if_neg s1_9, if_pos s1_10]; done), rfl, rfl, rfl⟩)
  by_cases s1_11 : w = nI 11
  · skip
    refine j_tableIn C 11 117 dX10_count_1 (by rw [s1_11]; decide) (by decide) rfl (by decide) ?_
    refine j_aload_n C dX10_count_117 rfl ?_
    refine j_getR C fl_X10_7 (by assumption) dX10_count_118 (by decide) rfl (by assumption) ?_
    refine j_bipush C (nI 6) dX10_count_121 (by decide) ?_
    refine j_iload_n C dX10_count_123 rfl ?_
    first | refine j_top (nI 7) s1_7 ?_ | refine j_top (nI 8) s1_8 ?_ | refine j_top (nI 9) s1_9 ?_ | refine j_top (nI 10) s1_10 ?_ | refine j_top (nI 11) s1_11 ?_
    first | with_reducible refine j_iaddN C dX10_count_124 ?_ | refine j_iadd C dX10_count_124 ?_
    refine j_bipush C (nI 7) dX10_count_125 (by decide) ?_
    refine j_isubN C dX10_count_127 (by decide) ?_
    refine j_ialdN C (by assumption) dX10_count_128 (by omega) (by decide) ?_
    exact j_ireturn C E dX10_count_129 (rfl) (by decide) (by decide) (⟨by first | (simp only [zCount, if_neg s1_0, if_neg s1_1, if_neg s1_2, if_neg s1_3, if_neg s1_4, if_neg s1_5, if_neg s1_6, if_neg s1_7, if_neg s1_8, if_neg s1_9, if_neg s1_10, if_pos s1_11, eck]; done) | (simp only [zCount, if_neg s1_0, if_neg s1_1, if_neg s1_2, if_neg s1_3, if_neg s1_4, if_neg s1_5, if_neg s1_6, if_neg s1_7, if_neg s1_8, if_neg s1_9, if_neg s1_10, if_pos s1_11]; done) | (subst_vars; simp only [zCount, if_neg s1_0, if_neg s1_1, if_neg s1_2, if_neg s1_3, if_neg s1_4, if_neg s1_5, if_neg s1_6, if_neg s1_7, if_neg s1_8, if_neg s1_9, if_neg s1_10, if_pos s1_11]; done), rfl, rfl, rfl⟩)
  by_cases s1_12 : w = nI 12
  · skip
    refine j_tableIn C 12 130 dX10_count_1 (by rw [s1_12]; decide) (by decide) rfl (by decide) ?_
    refine j_aload_n C dX10_count_130 rfl ?_
    refine j_getI C fl_X10_22 (by assumption) dX10_count_131 (by decide) rfl ?_
    exact j_ireturn C E dX10_count_134 (rfl) (by decide) (by decide) (⟨by first | (simp only [zCount, if_neg s1_0, if_neg s1_1, if_neg s1_2, if_neg s1_3, if_neg s1_4, if_neg s1_5, if_neg s1_6, if_neg s1_7, if_neg s1_8, if_neg s1_9, if_neg s1_10, if_neg s1_11, if_pos s1_12, eck]; done) | (simp only [zCount, if_neg s1_0, if_neg s1_1, if_neg s1_2, if_neg s1_3, if_neg s1_4, if_neg s1_5, if_neg s1_6, if_neg s1_7, if_neg s1_8, if_neg s1_9, if_neg s1_10, if_neg s1_11, if_pos s1_12]; done) | (subst_vars; simp only [zCount, if_neg s1_0, if_neg s1_1, if_neg s1_2, if_neg s1_3, if_neg s1_4, if_neg s1_5, if_neg s1_6, if_neg s1_7, if_neg s1_8, if_neg s1_9, if_neg s1_10, if_neg s1_11, if_pos s1_12]; done), rfl, rfl, rfl⟩)
  by_cases s1_13 : w = nI 13
  · skip
    refine j_tableIn C 13 135 dX10_count_1 (by rw [s1_13]; decide) (by decide) rfl (by decide) ?_
    refine j_aload_n C dX10_count_135 rfl ?_
    refine j_getI C fl_X10_64 (by assumption) dX10_count_136 (by decide) rfl ?_
    exact j_ireturn C E dX10_count_139 (rfl) (by decide) (by decide) (⟨by first | (simp only [zCount, if_neg s1_0, if_neg s1_1, if_neg s1_2, if_neg s1_3, if_neg s1_4, if_neg s1_5, if_neg s1_6, if_neg s1_7, if_neg s1_8, if_neg s1_9, if_neg s1_10, if_neg s1_11, if_neg s1_12, if_pos s1_13, eck]; done) | (simp only [zCount, if_neg s1_0, if_neg s1_1, if_neg s1_2, if_neg s1_3, if_neg s1_4, if_neg s1_5, if_neg s1_6, if_neg s1_7, if_neg s1_8, if_neg s1_9, if_neg s1_10, if_neg s1_11, if_neg s1_12, if_pos s1_13]; done) | (subst_vars; simp only [zCount, if_neg s1_0, if_neg s1_1, if_neg s1_2, if_neg s1_3, if_neg s1_4, if_neg s1_5, if_neg s1_6, if_neg s1_7, if_neg s1_8, if_neg s1_9, if_neg s1_10, if_neg s1_11, if_neg s1_12, if_pos s1_13]; done), rfl, rfl, rfl⟩)
  refine j_tableOut C 140 dX10_count_1 (sw_out 13 (w) (by intro j hj; match j, hj with | 0, _ => exact s1_0 | 1, _ => exact s1_1 | 2, _ => exact s1_2 | 3, _ => exact s1_3 | 4, _ => exact s1_4 | 5, _ => exact s1_5 | 6, _ => exact s1_6 | 7, _ => exact s1_7 | 8, _ => exact s1_8 | 9, _ => exact s1_9 | 10, _ => exact s1_10 | 11, _ => exact s1_11 | 12, _ => exact s1_12 | 13, _ => exact s1_13 | n + 14, h => exact absurd h (by omega))) (by decide) ?_
  refine j_iload_n C dX10_count_140 rfl ?_
  refine j_bipush C (nI 20) dX10_count_141 (by decide) ?_
  refine j_bipush C (nI 24) dX10_count_143 (by decide) ?_
  refine j_cSi C (c_X10_in _ _ _ _ _ _ _ _) yc_X10_in mn_X10_26 st_X10_in dX10_count_145 rfl rfl (Nat.le_of_ble_eq_true rfl) (by decide) ?_
  refine j_if_eq C 166 dX10_count_148 (by decide) (fun h148 => ?_) (fun h148 => ?_)
  · skip
    refine j_iconst C (-1) dX10_count_166 (by decide) ?_
    exact j_ireturn C E dX10_count_167 (rfl) (by decide) (by decide) (⟨by first | (simp only [zCount, if_neg s1_0, if_neg s1_1, if_neg s1_2, if_neg s1_3, if_neg s1_4, if_neg s1_5, if_neg s1_6, if_neg s1_7, if_neg s1_8, if_neg s1_9, if_neg s1_10, if_neg s1_11, if_neg s1_12, if_neg s1_13, if_pos h148, eck]; done) | (simp only [zCount, if_neg s1_0, if_neg s1_1, if_neg s1_2, if_neg s1_3, if_neg s1_4, if_neg s1_5, if_neg s1_6, if_neg s1_7, if_neg s1_8, if_neg s1_9, if_neg s1_10, if_neg s1_11, if_neg s1_12, if_neg s1_13, if_pos h148]; done) | (subst_vars; simp only [zCount, if_neg s1_0, if_neg s1_1, if_neg s1_2, if_neg s1_3, if_neg s1_4, if_neg s1_5, if_neg s1_6, if_neg s1_7, if_neg s1_8, if_neg s1_9, if_neg s1_10, if_neg s1_11, if_neg s1_12, if_neg s1_13, if_pos h148]; done), rfl, rfl, rfl⟩)
  · skip
    refine j_aload_n C dX10_count_151 rfl ?_
    refine j_getR C fl_X10_7 (by assumption) dX10_count_152 (by decide) rfl (by assumption) ?_
    refine j_bipush C (nI 11) dX10_count_155 (by decide) ?_
    obtain ⟨k, hk, ek, hk2⟩ := rIn_Na (by decide) (by decide) h148
    have eck : w.toNatClampNeg = k := by rw [ek]; exact nI_clamp (by omega)
    refine j_iload_n C dX10_count_157 rfl ?_
    refine j_top (nI k) ek ?_
    first | with_reducible refine j_iaddN C dX10_count_158 ?_ | refine j_iadd C dX10_count_158 ?_
    refine j_bipush C (nI 20) dX10_count_159 (by decide) ?_
    refine j_isubN C dX10_count_161 (by omega) ?_
    refine j_ialdN C (by assumption) dX10_count_162 (by omega) (by decide) ?_
    refine j_goto C 167 dX10_count_163 (by decide) ?_
    exact j_ireturn C E dX10_count_167 (rfl) (by decide) (by decide) (⟨by first | (simp only [zCount, if_neg s1_0, if_neg s1_1, if_neg s1_2, if_neg s1_3, if_neg s1_4, if_neg s1_5, if_neg s1_6, if_neg s1_7, if_neg s1_8, if_neg s1_9, if_neg s1_10, if_neg s1_11, if_neg s1_12, if_neg s1_13, if_neg h148, eck]; done) | (simp only [zCount, if_neg s1_0, if_neg s1_1, if_neg s1_2, if_neg s1_3, if_neg s1_4, if_neg s1_5, if_neg s1_6, if_neg s1_7, if_neg s1_8, if_neg s1_9, if_neg s1_10, if_neg s1_11, if_neg s1_12, if_neg s1_13, if_neg h148]; done) | (subst_vars; simp only [zCount, if_neg s1_0, if_neg s1_1, if_neg s1_2, if_neg s1_3, if_neg s1_4, if_neg s1_5, if_neg s1_6, if_neg s1_7, if_neg s1_8, if_neg s1_9, if_neg s1_10, if_neg s1_11, if_neg s1_12, if_neg s1_13, if_neg h148]; done), rfl, rfl, rfl⟩)
