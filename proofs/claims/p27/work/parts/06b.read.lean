set_option maxHeartbeats 4000000 in
set_option maxRecDepth 100000 in
theorem c_X5_hasCondition (l : Launch) (ω : jW) (γ : jG) (M : jM) (R : jR) {t : Nat} (g : gStm ω γ t) (k : Int32) : Ct l ω yX5_hasCondition cX5_hasCondition 2 (some .boolean) 1 0 0 [.ref t, .int k] γ M R (jx γ (some (.int (rHasC M t k))) M R) := by
  refine Ct_of (by decide) (Nat.le_of_ble_eq_true rfl) rfl (jcat_of rfl) ?_
  intro X C E hnm hxl hxn
  subst hxl
  obtain ⟨g0, g1, g2, g3, g4⟩ := g
  refine j_iload_n C dX5_hasCondition_0 rfl ?_
  refine j_if_lt C 16 dX5_hasCondition_1 (by decide) (fun h1 => ?_) (fun h1 => ?_)
  · skip
    refine j_iconst C (nI 0) dX5_hasCondition_16 (by decide) ?_
    exact j_ireturn C E dX5_hasCondition_17 (by decide) (by decide) (by decide) (⟨by simp only [rHasC, if_pos h1], rfl, rfl, rfl⟩)
  · skip
    refine j_iload_n C dX5_hasCondition_4 rfl ?_
    refine j_aload_n C dX5_hasCondition_5 rfl ?_
    refine j_getI C fl_X5_18 (by assumption) dX5_hasCondition_6 (by decide) rfl ?_
    refine j_icmp_ge C 16 dX5_hasCondition_9 (by decide) (fun h9 => ?_) (fun h9 => ?_)
    · skip
      refine j_iconst C (nI 0) dX5_hasCondition_16 (by decide) ?_
      exact j_ireturn C E dX5_hasCondition_17 (by decide) (by decide) (by decide) (⟨by simp only [rHasC, if_neg h1, if_pos h9], rfl, rfl, rfl⟩)
    · skip
      refine j_iconst C (nI 1) dX5_hasCondition_12 (by decide) ?_
      refine j_goto C 17 dX5_hasCondition_13 (by decide) ?_
      exact j_ireturn C E dX5_hasCondition_17 (by decide) (by decide) (by decide) (⟨by simp only [rHasC, if_neg h1, if_neg h9], rfl, rfl, rfl⟩)

set_option maxHeartbeats 4000000 in
set_option maxRecDepth 100000 in
theorem c_X5_columnAt (l : Launch) (ω : jW) (γ : jG) (M : jM) (R : jR) {t : Nat} (g : gStm ω γ t) (k : Int32) : Ct l ω yX5_columnAt cX5_columnAt 2 (some .int) 2 0 0 [.ref t, .int k] γ M R (jx γ (some (.int (rCol M t k))) M R) := by
  refine Ct_of (by decide) (Nat.le_of_ble_eq_true rfl) rfl (jcat_of rfl) ?_
  intro X C E hnm hxl hxn
  subst hxl
  obtain ⟨g0, g1, g2, g3, g4⟩ := g
  refine j_aload_n C dX5_columnAt_0 rfl ?_
  refine j_getR C fl_X5_9 (by assumption) dX5_columnAt_1 (by decide) rfl (by assumption) ?_
  refine j_iload_n C dX5_columnAt_4 rfl ?_
  refine j_cSi C (c_X9_at _ _ _ _ _ (by assumption) (by decide) _) yc_X9_at mn_X5_22 st_X9_at dX5_columnAt_5 rfl rfl (Nat.le_of_ble_eq_true rfl) (by decide) ?_
  exact j_ireturn C E dX5_columnAt_8 (rfl) (by decide) (by decide) (⟨rfl, rfl, rfl, rfl⟩)

set_option maxHeartbeats 4000000 in
set_option maxRecDepth 100000 in
theorem c_X5_operatorAt (l : Launch) (ω : jW) (γ : jG) (M : jM) (R : jR) {t : Nat} (g : gStm ω γ t) (k : Int32) : Ct l ω yX5_operatorAt cX5_operatorAt 2 (some .int) 2 0 0 [.ref t, .int k] γ M R (jx γ (some (.int (rOp M t k))) M R) := by
  refine Ct_of (by decide) (Nat.le_of_ble_eq_true rfl) rfl (jcat_of rfl) ?_
  intro X C E hnm hxl hxn
  subst hxl
  obtain ⟨g0, g1, g2, g3, g4⟩ := g
  refine j_aload_n C dX5_operatorAt_0 rfl ?_
  refine j_getR C fl_X5_15 (by assumption) dX5_operatorAt_1 (by decide) rfl (by assumption) ?_
  refine j_iload_n C dX5_operatorAt_4 rfl ?_
  refine j_cSi C (c_X9_at _ _ _ _ _ (by assumption) (by decide) _) yc_X9_at mn_X5_22 st_X9_at dX5_operatorAt_5 rfl rfl (Nat.le_of_ble_eq_true rfl) (by decide) ?_
  exact j_ireturn C E dX5_operatorAt_8 (rfl) (by decide) (by decide) (⟨rfl, rfl, rfl, rfl⟩)

set_option maxHeartbeats 4000000 in
set_option maxRecDepth 100000 in
theorem c_X5_takes (l : Launch) (ω : jW) (γ : jG) (M : jM) (R : jR) {t : Nat} (g : gStm ω γ t) (k v : Int32) : Ct l ω yX5_takes cX5_takes 3 (some .boolean) 3 0 0 [.ref t, .int k, .int v] γ M R (jx γ (some (.int (rTakes M t k v))) M R) := by
  refine Ct_of (by decide) (Nat.le_of_ble_eq_true rfl) rfl (jcat_of rfl) ?_
  intro X C E hnm hxl hxn
  subst hxl
  have g0 := g.1
  refine j_aload_n C dX5_takes_0 rfl ?_
  refine j_iload_n C dX5_takes_1 rfl ?_
  refine j_cVi C (c_X5_hasCondition _ _ _ _ _ (by assumption) _) yc_X5_hasCondition mn_X5_26 im_X5_hasCondition se_X5_hasCondition rfl rfl dX5_takes_2 rfl rfl (by assumption) (by decide) (Nat.le_of_ble_eq_true rfl) (by decide) ?_
  refine j_if_eq C 15 dX5_takes_5 (by decide) (fun h5 => ?_) (fun h5 => ?_)
  · skip
    refine j_iload_n C dX5_takes_15 rfl ?_
    refine j_if_ne C 23 dX5_takes_16 (by decide) (fun h16 => ?_) (fun h16 => ?_)
    · skip
      refine j_iconst C (nI 0) dX5_takes_23 (by decide) ?_
      exact j_ireturn C E dX5_takes_24 (by first | exact nb0 | exact nb1 | exact (rIn_B _ _ _).nar) (by decide) (by decide) (⟨by simp only [rTakes, if_pos h5, if_neg h16], rfl, rfl, rfl⟩)
    · skip
      refine j_iconst C (nI 1) dX5_takes_19 (by decide) ?_
      refine j_goto C 24 dX5_takes_20 (by decide) ?_
      exact j_ireturn C E dX5_takes_24 (by first | exact nb0 | exact nb1 | exact (rIn_B _ _ _).nar) (by decide) (by decide) (⟨by simp only [rTakes, if_pos h5, if_pos h16], rfl, rfl, rfl⟩)
  · skip
    refine j_iload_n C dX5_takes_8 rfl ?_
    refine j_cSi C (c_X9_isValue _ _ _ _ _ _) yc_X9_isValue mn_X5_30 st_X9_isValue dX5_takes_9 rfl rfl (Nat.le_of_ble_eq_true rfl) (by decide) ?_
    refine j_goto C 24 dX5_takes_12 (by decide) ?_
    exact j_ireturn C E dX5_takes_24 (by first | exact nb0 | exact nb1 | exact (rIn_B _ _ _).nar) (by decide) (by decide) (⟨by simp only [rTakes, if_neg h5], rfl, rfl, rfl⟩)

set_option maxHeartbeats 4000000 in
set_option maxRecDepth 100000 in
theorem c_X9_cost (l : Launch) (ω : jW) (γ : jG) (M : jM) (R : jR) {b t v : Nat} (g : gSums ω γ b) (gt : gStm ω γ t) (gv : jArr ω γ v 12 4) (w : Int32) : Ct l ω yX9_cost cX9_cost 4 (some .int) 3 0 0 [.ref b, .ref t, .ref v, .int w] γ M R (jx γ (some (.int (rCost M b t v w))) M R) := by
  refine Ct_of (by decide) (Nat.le_of_ble_eq_true rfl) rfl (jcat_of rfl) ?_
  intro X C E hnm hxl hxn
  subst hxl
  have g0 := g.1
  have gt0 := gt.1
  refine j_iload_n C dX9_cost_0 rfl ?_
  refine j_bipush C (nI 9) dX9_cost_1 (by decide) ?_
  refine j_icmp_ne C 11 dX9_cost_3 (by decide) (fun h3 => ?_) (fun h3 => ?_)
  · skip
    refine j_bipush C (nI 10) dX9_cost_11 (by decide) ?_
    refine j_aload_n C dX9_cost_13 rfl ?_
    refine j_aload_n C dX9_cost_14 rfl ?_
    refine j_iload_n C dX9_cost_15 rfl ?_
    refine j_cVi C (c_X5_columnAt _ _ _ _ _ (by assumption) _) yc_X5_columnAt mn_X9_147 im_X5_columnAt se_X5_columnAt rfl rfl dX9_cost_16 rfl rfl (by assumption) (by decide) (Nat.le_of_ble_eq_true rfl) (by decide) ?_
    refine j_aload_n C dX9_cost_19 rfl ?_
    refine j_iload_n C dX9_cost_20 rfl ?_
    refine j_cVi C (c_X5_operatorAt _ _ _ _ _ (by assumption) _) yc_X5_operatorAt mn_X9_150 im_X5_operatorAt se_X5_operatorAt rfl rfl dX9_cost_21 rfl rfl (by assumption) (by decide) (Nat.le_of_ble_eq_true rfl) (by decide) ?_
    refine j_aload_n C dX9_cost_24 rfl ?_
    refine j_iload_n C dX9_cost_25 rfl ?_
    refine j_cSi C (c_X9_at _ _ _ _ _ (by assumption) (by decide) _) yc_X9_at mn_X9_194 st_X9_at dX9_cost_26 rfl rfl (Nat.le_of_ble_eq_true rfl) (by decide) ?_
    refine j_cVi C (c_X6_weightWhere _ _ _ _ _ (by assumption) _ _ _) yc_X6_weightWhere mn_X9_282 im_X6_weightWhere se_X6_weightWhere rfl rfl dX9_cost_29 rfl rfl (by assumption) (by decide) (Nat.le_of_ble_eq_true rfl) (by decide) ?_
    first | with_reducible refine j_iaddN C dX9_cost_32 ?_ | refine j_iadd C dX9_cost_32 ?_
    exact j_ireturn C E dX9_cost_33 (rfl) (by decide) (by decide) (⟨by simp only [rCost, if_neg h3], rfl, rfl, rfl⟩)
  · skip
    refine j_aload_n C dX9_cost_6 rfl ?_
    refine j_getI C fl_X9_96 (by assumption) dX9_cost_7 (by decide) rfl ?_
    exact j_ireturn C E dX9_cost_10 (rfl) (by decide) (by decide) (⟨by simp only [rCost, if_pos h3], rfl, rfl, rfl⟩)

set_option maxHeartbeats 4000000 in
set_option maxRecDepth 100000 in
theorem c_X4_isIndexed (l : Launch) (ω : jW) (γ : jG) (M : jM) (R : jR) {a : Nat} (g : jAt ω γ a 4) (c : Int32) : Ct l ω yX4_isIndexed cX4_isIndexed 2 (some .boolean) 1 0 0 [.ref a, .int c] γ M R (jx γ (some (.int (rIdx M a c))) M R) := by
  refine Ct_of (by decide) (Nat.le_of_ble_eq_true rfl) rfl (jcat_of rfl) ?_
  intro X C E hnm hxl hxn
  subst hxl
  refine j_aload_n C dX4_isIndexed_0 rfl ?_
  refine j_getI C fl_X4_54 (by assumption) dX4_isIndexed_1 (by decide) rfl ?_
  refine j_iload_n C dX4_isIndexed_4 rfl ?_
  refine j_ishr C dX4_isIndexed_5 ?_
  refine j_iconst C (nI 1) dX4_isIndexed_6 (by decide) ?_
  refine j_iand C dX4_isIndexed_7 ?_
  refine j_iconst C (nI 1) dX4_isIndexed_8 (by decide) ?_
  refine j_icmp_ne C 16 dX4_isIndexed_9 (by decide) (fun h9 => ?_) (fun h9 => ?_)
  · skip
    refine j_iconst C (nI 0) dX4_isIndexed_16 (by decide) ?_
    exact j_ireturn C E dX4_isIndexed_17 (by decide) (by decide) (by decide) (⟨by simp only [rIdx, if_neg h9], rfl, rfl, rfl⟩)
  · skip
    refine j_iconst C (nI 1) dX4_isIndexed_12 (by decide) ?_
    refine j_goto C 17 dX4_isIndexed_13 (by decide) ?_
    exact j_ireturn C E dX4_isIndexed_17 (by decide) (by decide) (by decide) (⟨by simp only [rIdx, if_pos h9], rfl, rfl, rfl⟩)

set_option maxHeartbeats 4000000 in
set_option maxRecDepth 100000 in
theorem c_X4_hasStatement (l : Launch) (ω : jW) (γ : jG) (M : jM) (R : jR) {a : Nat} (g : jAt ω γ a 4) (p : Int32) : Ct l ω yX4_hasStatement cX4_hasStatement 2 (some .boolean) 1 0 0 [.ref a, .int p] γ M R (jx γ (some (.int (rHasS M a p))) M R) := by
  refine Ct_of (by decide) (Nat.le_of_ble_eq_true rfl) rfl (jcat_of rfl) ?_
  intro X C E hnm hxl hxn
  subst hxl
  refine j_iload_n C dX4_hasStatement_0 rfl ?_
  refine j_if_lt C 16 dX4_hasStatement_1 (by decide) (fun h1 => ?_) (fun h1 => ?_)
  · skip
    refine j_iconst C (nI 0) dX4_hasStatement_16 (by decide) ?_
    exact j_ireturn C E dX4_hasStatement_17 (by decide) (by decide) (by decide) (⟨by simp only [rHasS, if_pos h1], rfl, rfl, rfl⟩)
  · skip
    refine j_iload_n C dX4_hasStatement_4 rfl ?_
    refine j_aload_n C dX4_hasStatement_5 rfl ?_
    refine j_getI C fl_X4_93 (by assumption) dX4_hasStatement_6 (by decide) rfl ?_
    refine j_icmp_ge C 16 dX4_hasStatement_9 (by decide) (fun h9 => ?_) (fun h9 => ?_)
    · skip
      refine j_iconst C (nI 0) dX4_hasStatement_16 (by decide) ?_
      exact j_ireturn C E dX4_hasStatement_17 (by decide) (by decide) (by decide) (⟨by simp only [rHasS, if_neg h1, if_pos h9], rfl, rfl, rfl⟩)
    · skip
      refine j_iconst C (nI 1) dX4_hasStatement_12 (by decide) ?_
      refine j_goto C 17 dX4_hasStatement_13 (by decide) ?_
      exact j_ireturn C E dX4_hasStatement_17 (by decide) (by decide) (by decide) (⟨by simp only [rHasS, if_neg h1, if_neg h9], rfl, rfl, rfl⟩)

set_option maxHeartbeats 4000000 in
set_option maxRecDepth 100000 in
theorem c_X4_statementAt (l : Launch) (ω : jW) (γ : jG) (M : jM) (R : jR) {a : Nat} (g : gState ω γ a) (hs : SS R a) (p : Int32) : Ct l ω yX4_statementAt cX4_statementAt 3 (some (.object "PlanShelves$Statement")) 1 0 0 [.ref a, .int p] γ M R (jx γ (some (.ref (rSA a p))) M R) := by
  refine Ct_of (by decide) (Nat.le_of_ble_eq_true rfl) rfl (jcat_of rfl) ?_
  intro X C E hnm hxl hxn
  subst hxl
  have g0 := g.1
  have g1 := g.2.2.2.2.2.1
  have g2 := g.2.2.2.2.2.2.1
  have g3 := g.2.2.2.2.2.2.2.1
  refine j_iload_n C dX4_statementAt_0 rfl ?_
  refine j_if_lt C 13 dX4_statementAt_1 (by decide) (fun h1 => ?_) (fun h1 => ?_)
  · skip
    refine j_aload_n C dX4_statementAt_13 rfl ?_
    refine j_getR C fl_X4_32 (by assumption) dX4_statementAt_14 (by decide) rfl (by assumption) ?_
    exact j_areturn C E dX4_statementAt_17 (by first | exact Or.inl ⟨_, rfl⟩ | exact Or.inr ⟨_, rfl⟩) (by decide) (by decide) (⟨by simp only [rSA, if_pos h1], rfl, rfl, rfl⟩)
  · skip
    refine j_iload_n C dX4_statementAt_4 rfl ?_
    refine j_aload_n C dX4_statementAt_5 rfl ?_
    refine j_getR C fl_X4_27 (by assumption) dX4_statementAt_6 (by decide) rfl (by assumption) ?_
    refine j_alen C (by assumption) rfl (by decide) dX4_statementAt_9 ?_
    refine j_icmp_lt C 18 dX4_statementAt_10 (by decide) (fun h10 => ?_) (fun h10 => ?_)
    · skip
      refine j_aload_n C dX4_statementAt_18 rfl ?_
      refine j_getR C fl_X4_27 (by assumption) dX4_statementAt_19 (by decide) rfl (by assumption) ?_
      refine j_iload_n C dX4_statementAt_22 rfl ?_
      refine j_aald C (by assumption) (by decide) rfl (in_of' h1 h10 (by decide)) (hs _ (lt_of_in (in_of' h1 h10 (by decide)))) dX4_statementAt_23 ?_
      refine j_astore_n C dX4_statementAt_24 (by rw [hxn]; decide) ?_
      refine j_aload_n C dX4_statementAt_25 rfl ?_
      refine j_ifnonnull C 36 dX4_statementAt_26 (by decide) ?_
      refine j_aload_n C dX4_statementAt_36 rfl ?_
      exact j_areturn C E dX4_statementAt_37 (by first | exact Or.inl ⟨_, rfl⟩ | exact Or.inr ⟨_, rfl⟩) (by decide) (by decide) (⟨by simp only [rSA, if_neg h1, if_pos h10], rfl, rfl, rfl⟩)
    · skip
      refine j_aload_n C dX4_statementAt_13 rfl ?_
      refine j_getR C fl_X4_32 (by assumption) dX4_statementAt_14 (by decide) rfl (by assumption) ?_
      exact j_areturn C E dX4_statementAt_17 (by first | exact Or.inl ⟨_, rfl⟩ | exact Or.inr ⟨_, rfl⟩) (by decide) (by decide) (⟨by simp only [rSA, if_neg h1, if_neg h10], rfl, rfl, rfl⟩)

set_option maxHeartbeats 4000000 in
set_option maxRecDepth 100000 in
theorem c_X3_planAt (l : Launch) (ω : jW) (γ : jG) (M : jM) (R : jR) {b : Nat} (g : gShelf ω γ b) (hs : SR R b) (p : Int32) : Ct l ω yX3_planAt cX3_planAt 3 (some (.object "PlanShelves$Plan")) 1 0 0 [.ref b, .int p] γ M R (jx γ (some (.ref (rPA R b p))) M R) := by
  refine Ct_of (by decide) (Nat.le_of_ble_eq_true rfl) rfl (jcat_of rfl) ?_
  intro X C E hnm hxl hxn
  subst hxl
  have g0 := g.1
  have g1 := g.2.1
  have g2 := g.2.2.1
  have g3 := g.2.2.2.1
  refine j_iload_n C dX3_planAt_0 rfl ?_
  refine j_if_lt C 13 dX3_planAt_1 (by decide) (fun h1 => ?_) (fun h1 => ?_)
  · skip
    refine j_aload_n C dX3_planAt_13 rfl ?_
    refine j_getR C fl_X3_18 (by assumption) dX3_planAt_14 (by decide) rfl (by assumption) ?_
    exact j_areturn C E dX3_planAt_17 (by first | exact Or.inl ⟨_, rfl⟩ | exact Or.inr ⟨_, rfl⟩) (by decide) (by decide) (⟨by simp only [rPA, if_pos h1], rfl, rfl, rfl⟩)
  · skip
    refine j_iload_n C dX3_planAt_4 rfl ?_
    refine j_aload_n C dX3_planAt_5 rfl ?_
    refine j_getR C fl_X3_11 (by assumption) dX3_planAt_6 (by decide) rfl (by assumption) ?_
    refine j_alen C (by assumption) rfl (by decide) dX3_planAt_9 ?_
    refine j_icmp_lt C 18 dX3_planAt_10 (by decide) (fun h10 => ?_) (fun h10 => ?_)
    · skip
      refine j_aload_n C dX3_planAt_18 rfl ?_
      refine j_getR C fl_X3_11 (by assumption) dX3_planAt_19 (by decide) rfl (by assumption) ?_
      refine j_iload_n C dX3_planAt_22 rfl ?_
      refine j_aald C (by assumption) (by decide) rfl (in_of' h1 h10 (by decide)) (hs.at (lt_of_in (in_of' h1 h10 (by decide)))) dX3_planAt_23 ?_
      refine j_astore_n C dX3_planAt_24 (by rw [hxn]; decide) ?_
      refine j_aload_n C dX3_planAt_25 rfl ?_
      refine j_ifnonnull C 36 dX3_planAt_26 (by decide) ?_
      refine j_aload_n C dX3_planAt_36 rfl ?_
      exact j_areturn C E dX3_planAt_37 (by first | exact Or.inl ⟨_, rfl⟩ | exact Or.inr ⟨_, rfl⟩) (by decide) (by decide) (⟨by simp only [rPA, if_neg h1, if_pos h10], rfl, rfl, rfl⟩)
    · skip
      refine j_aload_n C dX3_planAt_13 rfl ?_
      refine j_getR C fl_X3_18 (by assumption) dX3_planAt_14 (by decide) rfl (by assumption) ?_
      exact j_areturn C E dX3_planAt_17 (by first | exact Or.inl ⟨_, rfl⟩ | exact Or.inr ⟨_, rfl⟩) (by decide) (by decide) (⟨by simp only [rPA, if_neg h1, if_neg h10], rfl, rfl, rfl⟩)

theorem c_X3_planAtN (l : Launch) (ω : jW) (γ : jG) (M : jM) (R : jR) {b : Nat} (g : gShelf ω γ b) (hs : SR R b) {k : Nat} (hk : k < 8) : Ct l ω yX3_planAt cX3_planAt 3 (some (.object "PlanShelves$Plan")) 1 0 0 [.ref b, .int (nI k)] γ M R (jx γ (some (.ref (pa R b k))) M R) := by
  have h := c_X3_planAt l ω γ M R g hs (nI k)
  rw [rPA_N R b hk] at h
  exact h
theorem c_X4_statementAtN (l : Launch) (ω : jW) (γ : jG) (M : jM) (R : jR) {a : Nat} (g : gState ω γ a) (hs : SS R a) {k : Nat} (hk : k < 6) : Ct l ω yX4_statementAt cX4_statementAt 3 (some (.object "PlanShelves$Statement")) 1 0 0 [.ref a, .int (nI k)] γ M R (jx γ (some (.ref (a + 25 + 3 * k))) M R) := by
  have h := c_X4_statementAt l ω γ M R g hs (nI k)
  rw [rSA_N a hk] at h
  exact h

set_option maxHeartbeats 4000000 in
set_option maxRecDepth 100000 in
theorem c_X3_numberAt (l : Launch) (ω : jW) (γ : jG) (M : jM) (R : jR) {b : Nat} (g : gShelf ω γ b) (hs : SR R b) (p : Int32) : Ct l ω yX3_numberAt cX3_numberAt 2 (some .int) 2 0 0 [.ref b, .int p] γ M R (jx γ (some (.int (rNum M R b p))) M R) := by
  refine Ct_of (by decide) (Nat.le_of_ble_eq_true rfl) rfl (jcat_of rfl) ?_
  intro X C E hnm hxl hxn
  subst hxl
  have g0 := g.1
  refine j_iload_n C dX3_numberAt_0 rfl ?_
  refine j_if_lt C 12 dX3_numberAt_1 (by decide) (fun h1 => ?_) (fun h1 => ?_)
  · skip
    refine j_bipush C (-4) dX3_numberAt_12 (by decide) ?_
    refine j_goto C 25 dX3_numberAt_14 (by decide) ?_
    exact j_ireturn C E dX3_numberAt_25 (rfl) (by decide) (by decide) (⟨by simp only [rNum, if_pos h1], rfl, rfl, rfl⟩)
  · skip
    refine j_iload_n C dX3_numberAt_4 rfl ?_
    refine j_aload_n C dX3_numberAt_5 rfl ?_
    refine j_getI C fl_X3_22 (by assumption) dX3_numberAt_6 (by decide) rfl ?_
    refine j_icmp_lt C 17 dX3_numberAt_9 (by decide) (fun h9 => ?_) (fun h9 => ?_)
    · skip
      refine j_aload_n C dX3_numberAt_17 rfl ?_
      refine j_iload_n C dX3_numberAt_18 rfl ?_
      refine j_cVr C (c_X3_planAt _ _ _ _ _ (by assumption) (by assumption) _) yc_X3_planAt mn_X3_26 im_X3_planAt se_X3_planAt rfl rfl dX3_numberAt_19 rfl rfl (by assumption) (by decide) (Nat.le_of_ble_eq_true rfl) (by decide) ?_
      refine j_getI C fl_X3_30 (rPA_at hs g _) dX3_numberAt_22 (by decide) rfl ?_
      exact j_ireturn C E dX3_numberAt_25 (rfl) (by decide) (by decide) (⟨by simp only [rNum, if_neg h1, if_pos h9], rfl, rfl, rfl⟩)
    · skip
      refine j_bipush C (-4) dX3_numberAt_12 (by decide) ?_
      refine j_goto C 25 dX3_numberAt_14 (by decide) ?_
      exact j_ireturn C E dX3_numberAt_25 (rfl) (by decide) (by decide) (⟨by simp only [rNum, if_neg h1, if_neg h9], rfl, rfl, rfl⟩)

set_option maxHeartbeats 4000000 in
set_option maxRecDepth 100000 in
theorem c_X2_dropsAheadOf (l : Launch) (ω : jW) (γ : jG) (M : jM) (R : jR) {p q : Nat} (hp : jAt ω γ p 2) (hq : jAt ω γ q 2) : Ct l ω yX2_dropsAheadOf cX2_dropsAheadOf 2 (some .boolean) 1 0 0 [.ref p, .ref q] γ M R (jx γ (some (.int (rAhead M p q))) M R) := by
  refine Ct_of (by decide) (Nat.le_of_ble_eq_true rfl) rfl (jcat_of rfl) ?_
  intro X C E hnm hxl hxn
  subst hxl
  refine j_aload_n C dX2_dropsAheadOf_0 rfl ?_
  refine j_getI C fl_X2_21 (by assumption) dX2_dropsAheadOf_1 (by decide) rfl ?_
  refine j_aload_n C dX2_dropsAheadOf_4 rfl ?_
  refine j_getI C fl_X2_21 (by assumption) dX2_dropsAheadOf_5 (by decide) rfl ?_
  refine j_icmp_eq C 30 dX2_dropsAheadOf_8 (by decide) (fun h8 => ?_) (fun h8 => ?_)
  · skip
    refine j_aload_n C dX2_dropsAheadOf_30 rfl ?_
    refine j_getI C fl_X2_31 (by assumption) dX2_dropsAheadOf_31 (by decide) rfl ?_
    refine j_aload_n C dX2_dropsAheadOf_34 rfl ?_
    refine j_getI C fl_X2_31 (by assumption) dX2_dropsAheadOf_35 (by decide) rfl ?_
    refine j_icmp_ge C 45 dX2_dropsAheadOf_38 (by decide) (fun h38 => ?_) (fun h38 => ?_)
    · skip
      refine j_iconst C (nI 0) dX2_dropsAheadOf_45 (by decide) ?_
      exact j_ireturn C E dX2_dropsAheadOf_46 (by decide) (by decide) (by decide) (⟨by simp only [rAhead, if_pos h8, if_pos h38], rfl, rfl, rfl⟩)
    · skip
      refine j_iconst C (nI 1) dX2_dropsAheadOf_41 (by decide) ?_
      refine j_goto C 46 dX2_dropsAheadOf_42 (by decide) ?_
      exact j_ireturn C E dX2_dropsAheadOf_46 (by decide) (by decide) (by decide) (⟨by simp only [rAhead, if_pos h8, if_neg h38], rfl, rfl, rfl⟩)
  · skip
    refine j_aload_n C dX2_dropsAheadOf_11 rfl ?_
    refine j_getI C fl_X2_21 (by assumption) dX2_dropsAheadOf_12 (by decide) rfl ?_
    refine j_aload_n C dX2_dropsAheadOf_15 rfl ?_
    refine j_getI C fl_X2_21 (by assumption) dX2_dropsAheadOf_16 (by decide) rfl ?_
    refine j_icmp_ge C 26 dX2_dropsAheadOf_19 (by decide) (fun h19 => ?_) (fun h19 => ?_)
    · skip
      refine j_iconst C (nI 0) dX2_dropsAheadOf_26 (by decide) ?_
      refine j_goto C 46 dX2_dropsAheadOf_27 (by decide) ?_
      exact j_ireturn C E dX2_dropsAheadOf_46 (by decide) (by decide) (by decide) (⟨by simp only [rAhead, if_neg h8, if_pos h19], rfl, rfl, rfl⟩)
    · skip
      refine j_iconst C (nI 1) dX2_dropsAheadOf_22 (by decide) ?_
      refine j_goto C 46 dX2_dropsAheadOf_23 (by decide) ?_
      exact j_ireturn C E dX2_dropsAheadOf_46 (by decide) (by decide) (by decide) (⟨by simp only [rAhead, if_neg h8, if_neg h19], rfl, rfl, rfl⟩)

set_option maxHeartbeats 4000000 in
set_option maxRecDepth 100000 in
theorem c_X2_tell (l : Launch) (ω : jW) (γ : jG) (M : jM) (R : jR) {p : Nat} (hp : jAt ω γ p 2) (w r : Int32) : Ct l ω yX2_tell cX2_tell 3 (some .int) 1 0 0 [.ref p, .int w, .int r] γ M R (jx γ (some (.int (rPTell M p w r))) M R) := by
  refine Ct_of (by decide) (Nat.le_of_ble_eq_true rfl) rfl (jcat_of rfl) ?_
  intro X C E hnm hxl hxn
  subst hxl
  refine j_iload_n C dX2_tell_0 rfl ?_
  by_cases s1_0 : w = nI 0
  · skip
    refine j_tableIn C 0 44 dX2_tell_1 (by rw [s1_0]; decide) (by decide) rfl (by decide) ?_
    refine j_aload_n C dX2_tell_44 rfl ?_
    refine j_getI C fl_X2_15 (by assumption) dX2_tell_45 (by decide) rfl ?_
    exact j_ireturn C E dX2_tell_48 (rfl) (by decide) (by decide) (⟨by simp only [rPTell, if_pos s1_0], rfl, rfl, rfl⟩)
  by_cases s1_1 : w = nI 1
  · skip
    refine j_tableIn C 1 49 dX2_tell_1 (by rw [s1_1]; decide) (by decide) rfl (by decide) ?_
    refine j_aload_n C dX2_tell_49 rfl ?_
    refine j_getI C fl_X2_18 (by assumption) dX2_tell_50 (by decide) rfl ?_
    exact j_ireturn C E dX2_tell_53 (rfl) (by decide) (by decide) (⟨by simp only [rPTell, if_neg s1_0, if_pos s1_1], rfl, rfl, rfl⟩)
  by_cases s1_2 : w = nI 2
  · skip
    refine j_tableIn C 2 54 dX2_tell_1 (by rw [s1_2]; decide) (by decide) rfl (by decide) ?_
    refine j_aload_n C dX2_tell_54 rfl ?_
    refine j_getI C fl_X2_34 (by assumption) dX2_tell_55 (by decide) rfl ?_
    exact j_ireturn C E dX2_tell_58 (rfl) (by decide) (by decide) (⟨by simp only [rPTell, if_neg s1_0, if_neg s1_1, if_pos s1_2], rfl, rfl, rfl⟩)
  by_cases s1_3 : w = nI 3
  · skip
    refine j_tableIn C 3 59 dX2_tell_1 (by rw [s1_3]; decide) (by decide) rfl (by decide) ?_
    refine j_aload_n C dX2_tell_59 rfl ?_
    refine j_getI C fl_X2_37 (by assumption) dX2_tell_60 (by decide) rfl ?_
    exact j_ireturn C E dX2_tell_63 (rfl) (by decide) (by decide) (⟨by simp only [rPTell, if_neg s1_0, if_neg s1_1, if_neg s1_2, if_pos s1_3], rfl, rfl, rfl⟩)
  by_cases s1_4 : w = nI 4
  · skip
    refine j_tableIn C 4 64 dX2_tell_1 (by rw [s1_4]; decide) (by decide) rfl (by decide) ?_
    refine j_aload_n C dX2_tell_64 rfl ?_
    refine j_getI C fl_X2_21 (by assumption) dX2_tell_65 (by decide) rfl ?_
    exact j_ireturn C E dX2_tell_68 (rfl) (by decide) (by decide) (⟨by simp only [rPTell, if_neg s1_0, if_neg s1_1, if_neg s1_2, if_neg s1_3, if_pos s1_4], rfl, rfl, rfl⟩)
  by_cases s1_5 : w = nI 5
  · skip
    refine j_tableIn C 5 69 dX2_tell_1 (by rw [s1_5]; decide) (by decide) rfl (by decide) ?_
    refine j_aload_n C dX2_tell_69 rfl ?_
    refine j_getI C fl_X2_24 (by assumption) dX2_tell_70 (by decide) rfl ?_
    exact j_ireturn C E dX2_tell_73 (rfl) (by decide) (by decide) (⟨by simp only [rPTell, if_neg s1_0, if_neg s1_1, if_neg s1_2, if_neg s1_3, if_neg s1_4, if_pos s1_5], rfl, rfl, rfl⟩)
  by_cases s1_6 : w = nI 6
  · skip
    refine j_tableIn C 6 74 dX2_tell_1 (by rw [s1_6]; decide) (by decide) rfl (by decide) ?_
    refine j_aload_n C dX2_tell_74 rfl ?_
    refine j_getI C fl_X2_27 (by assumption) dX2_tell_75 (by decide) rfl ?_
    refine j_if_eq C 85 dX2_tell_78 (by decide) (fun h78 => ?_) (fun h78 => ?_)
    · skip
      refine j_iconst C (nI 0) dX2_tell_85 (by decide) ?_
      exact j_ireturn C E dX2_tell_86 (rfl) (by decide) (by decide) (⟨by simp only [rPTell, if_neg s1_0, if_neg s1_1, if_neg s1_2, if_neg s1_3, if_neg s1_4, if_neg s1_5, if_pos s1_6, if_pos h78], rfl, rfl, rfl⟩)
    · skip
      refine j_iconst C (nI 1) dX2_tell_81 (by decide) ?_
      refine j_goto C 86 dX2_tell_82 (by decide) ?_
      exact j_ireturn C E dX2_tell_86 (rfl) (by decide) (by decide) (⟨by simp only [rPTell, if_neg s1_0, if_neg s1_1, if_neg s1_2, if_neg s1_3, if_neg s1_4, if_neg s1_5, if_pos s1_6, if_neg h78], rfl, rfl, rfl⟩)
  refine j_tableOut C 87 dX2_tell_1 (sw_out 6 (w) (by intro j hj; match j, hj with | 0, _ => exact s1_0 | 1, _ => exact s1_1 | 2, _ => exact s1_2 | 3, _ => exact s1_3 | 4, _ => exact s1_4 | 5, _ => exact s1_5 | 6, _ => exact s1_6 | n + 7, h => exact absurd h (by omega))) (by decide) ?_
  refine j_iload_n C dX2_tell_87 rfl ?_
  refine j_aload_n C dX2_tell_88 rfl ?_
  refine j_getI C fl_X2_31 (by assumption) dX2_tell_89 (by decide) rfl ?_
  refine j_isub C dX2_tell_92 ?_
  exact j_ireturn C E dX2_tell_93 (rfl) (by decide) (by decide) (⟨by simp only [rPTell, if_neg s1_0, if_neg s1_1, if_neg s1_2, if_neg s1_3, if_neg s1_4, if_neg s1_5, if_neg s1_6], rfl, rfl, rfl⟩)

set_option maxHeartbeats 4000000 in
set_option maxRecDepth 100000 in
theorem c_X1_tell (l : Launch) (ω : jW) (γ : jG) (M : jM) (R : jR) {b : Nat} (g0 : jAt ω γ b 1) (w : Int32) : Ct l ω yX1_tell cX1_tell 2 (some .int) 1 0 0 [.ref b, .int w] γ M R (jx γ (some (.int (rLTell M b w))) M R) := by
  refine Ct_of (by decide) (Nat.le_of_ble_eq_true rfl) rfl (jcat_of rfl) ?_
  intro X C E hnm hxl hxn
  subst hxl
  refine j_aload_n C dX1_tell_0 rfl ?_
  refine j_getI C fl_X1_15 (by assumption) dX1_tell_1 (by decide) rfl ?_
  refine j_if_ne C 10 dX1_tell_4 (by decide) (fun h4 => ?_) (fun h4 => ?_)
  · skip
    refine j_iload_n C dX1_tell_10 rfl ?_
    by_cases s11_0 : w = nI 0
    · skip
      refine j_tableIn C 0 52 dX1_tell_11 (by rw [s11_0]; decide) (by decide) rfl (by decide) ?_
      refine j_aload_n C dX1_tell_52 rfl ?_
      refine j_getI C fl_X1_27 (by assumption) dX1_tell_53 (by decide) rfl ?_
      exact j_ireturn C E dX1_tell_56 (rfl) (by decide) (by decide) (⟨by simp only [rLTell, if_neg h4, if_pos s11_0], rfl, rfl, rfl⟩)
    by_cases s11_1 : w = nI 1
    · skip
      refine j_tableIn C 1 57 dX1_tell_11 (by rw [s11_1]; decide) (by decide) rfl (by decide) ?_
      refine j_aload_n C dX1_tell_57 rfl ?_
      refine j_getI C fl_X1_33 (by assumption) dX1_tell_58 (by decide) rfl ?_
      exact j_ireturn C E dX1_tell_61 (rfl) (by decide) (by decide) (⟨by simp only [rLTell, if_neg h4, if_neg s11_0, if_pos s11_1], rfl, rfl, rfl⟩)
    by_cases s11_2 : w = nI 2
    · skip
      refine j_tableIn C 2 62 dX1_tell_11 (by rw [s11_2]; decide) (by decide) rfl (by decide) ?_
      refine j_aload_n C dX1_tell_62 rfl ?_
      refine j_getI C fl_X1_36 (by assumption) dX1_tell_63 (by decide) rfl ?_
      exact j_ireturn C E dX1_tell_66 (rfl) (by decide) (by decide) (⟨by simp only [rLTell, if_neg h4, if_neg s11_0, if_neg s11_1, if_pos s11_2], rfl, rfl, rfl⟩)
    by_cases s11_3 : w = nI 3
    · skip
      refine j_tableIn C 3 67 dX1_tell_11 (by rw [s11_3]; decide) (by decide) rfl (by decide) ?_
      refine j_aload_n C dX1_tell_67 rfl ?_
      refine j_getI C fl_X1_39 (by assumption) dX1_tell_68 (by decide) rfl ?_
      exact j_ireturn C E dX1_tell_71 (rfl) (by decide) (by decide) (⟨by simp only [rLTell, if_neg h4, if_neg s11_0, if_neg s11_1, if_neg s11_2, if_pos s11_3], rfl, rfl, rfl⟩)
    by_cases s11_4 : w = nI 4
    · skip
      refine j_tableIn C 4 72 dX1_tell_11 (by rw [s11_4]; decide) (by decide) rfl (by decide) ?_
      refine j_aload_n C dX1_tell_72 rfl ?_
      refine j_getI C fl_X1_42 (by assumption) dX1_tell_73 (by decide) rfl ?_
      exact j_ireturn C E dX1_tell_76 (rfl) (by decide) (by decide) (⟨by simp only [rLTell, if_neg h4, if_neg s11_0, if_neg s11_1, if_neg s11_2, if_neg s11_3, if_pos s11_4], rfl, rfl, rfl⟩)
    by_cases s11_5 : w = nI 5
    · skip
      refine j_tableIn C 5 77 dX1_tell_11 (by rw [s11_5]; decide) (by decide) rfl (by decide) ?_
      refine j_aload_n C dX1_tell_77 rfl ?_
      refine j_getI C fl_X1_45 (by assumption) dX1_tell_78 (by decide) rfl ?_
      exact j_ireturn C E dX1_tell_81 (rfl) (by decide) (by decide) (⟨by simp only [rLTell, if_neg h4, if_neg s11_0, if_neg s11_1, if_neg s11_2, if_neg s11_3, if_neg s11_4, if_pos s11_5], rfl, rfl, rfl⟩)
    by_cases s11_6 : w = nI 6
    · skip
      refine j_tableIn C 6 82 dX1_tell_11 (by rw [s11_6]; decide) (by decide) rfl (by decide) ?_
      refine j_aload_n C dX1_tell_82 rfl ?_
      refine j_getI C fl_X1_48 (by assumption) dX1_tell_83 (by decide) rfl ?_
      refine j_if_eq C 93 dX1_tell_86 (by decide) (fun h86 => ?_) (fun h86 => ?_)
      · skip
        refine j_iconst C (nI 0) dX1_tell_93 (by decide) ?_
        exact j_ireturn C E dX1_tell_94 (rfl) (by decide) (by decide) (⟨by simp only [rLTell, if_neg h4, if_neg s11_0, if_neg s11_1, if_neg s11_2, if_neg s11_3, if_neg s11_4, if_neg s11_5, if_pos s11_6, if_pos h86], rfl, rfl, rfl⟩)
      · skip
        refine j_iconst C (nI 1) dX1_tell_89 (by decide) ?_
        refine j_goto C 94 dX1_tell_90 (by decide) ?_
        exact j_ireturn C E dX1_tell_94 (rfl) (by decide) (by decide) (⟨by simp only [rLTell, if_neg h4, if_neg s11_0, if_neg s11_1, if_neg s11_2, if_neg s11_3, if_neg s11_4, if_neg s11_5, if_pos s11_6, if_neg h86], rfl, rfl, rfl⟩)
    refine j_tableOut C 95 dX1_tell_11 (sw_out 6 (w) (by intro j hj; match j, hj with | 0, _ => exact s11_0 | 1, _ => exact s11_1 | 2, _ => exact s11_2 | 3, _ => exact s11_3 | 4, _ => exact s11_4 | 5, _ => exact s11_5 | 6, _ => exact s11_6 | n + 7, h => exact absurd h (by omega))) (by decide) ?_
    refine j_aload_n C dX1_tell_95 rfl ?_
    refine j_getI C fl_X1_30 (by assumption) dX1_tell_96 (by decide) rfl ?_
    exact j_ireturn C E dX1_tell_99 (rfl) (by decide) (by decide) (⟨by simp only [rLTell, if_neg h4, if_neg s11_0, if_neg s11_1, if_neg s11_2, if_neg s11_3, if_neg s11_4, if_neg s11_5, if_neg s11_6], rfl, rfl, rfl⟩)
  · skip
    refine j_bipush C (-4) dX1_tell_7 (by decide) ?_
    exact j_ireturn C E dX1_tell_9 (rfl) (by decide) (by decide) (⟨by simp only [rLTell, if_pos h4], rfl, rfl, rfl⟩)

set_option maxHeartbeats 4000000 in
set_option maxRecDepth 100000 in
theorem c_X7_hasRow (l : Launch) (ω : jW) (γ : jG) (M : jM) (R : jR) {b : Nat} (g : jAt ω γ b 7) (p : Int32) : Ct l ω yX7_hasRow cX7_hasRow 2 (some .boolean) 1 0 0 [.ref b, .int p] γ M R (jx γ (some (.int (rHasR M b p))) M R) := by
  refine Ct_of (by decide) (Nat.le_of_ble_eq_true rfl) rfl (jcat_of rfl) ?_
  intro X C E hnm hxl hxn
  subst hxl
  refine j_iload_n C dX7_hasRow_0 rfl ?_
  refine j_if_lt C 16 dX7_hasRow_1 (by decide) (fun h1 => ?_) (fun h1 => ?_)
  · skip
    refine j_iconst C (nI 0) dX7_hasRow_16 (by decide) ?_
    exact j_ireturn C E dX7_hasRow_17 (by decide) (by decide) (by decide) (⟨by simp only [rHasR, if_pos h1], rfl, rfl, rfl⟩)
  · skip
    refine j_iload_n C dX7_hasRow_4 rfl ?_
    refine j_aload_n C dX7_hasRow_5 rfl ?_
    refine j_getI C fl_X7_22 (by assumption) dX7_hasRow_6 (by decide) rfl ?_
    refine j_icmp_ge C 16 dX7_hasRow_9 (by decide) (fun h9 => ?_) (fun h9 => ?_)
    · skip
      refine j_iconst C (nI 0) dX7_hasRow_16 (by decide) ?_
      exact j_ireturn C E dX7_hasRow_17 (by decide) (by decide) (by decide) (⟨by simp only [rHasR, if_neg h1, if_pos h9], rfl, rfl, rfl⟩)
    · skip
      refine j_iconst C (nI 1) dX7_hasRow_12 (by decide) ?_
      refine j_goto C 17 dX7_hasRow_13 (by decide) ?_
      exact j_ireturn C E dX7_hasRow_17 (by decide) (by decide) (by decide) (⟨by simp only [rHasR, if_neg h1, if_neg h9], rfl, rfl, rfl⟩)

set_option maxHeartbeats 4000000 in
set_option maxRecDepth 100000 in
theorem c_X7_cellAt (l : Launch) (ω : jW) (γ : jG) (M : jM) (R : jR) {b : Nat} (g : gTable ω γ b) (r w : Int32) : Ct l ω yX7_cellAt cX7_cellAt 3 (some .int) 2 0 0 [.ref b, .int r, .int w] γ M R (jx γ (some (.int (rCell M b r w))) M R) := by
  refine Ct_of (by decide) (Nat.le_of_ble_eq_true rfl) rfl (jcat_of rfl) ?_
  intro X C E hnm hxl hxn
  subst hxl
  have g0 := g.1
  have g1 := g.2.1
  have g2 := g.2.2.1
  refine j_aload_n C dX7_cellAt_0 rfl ?_
  refine j_getR C fl_X7_11 (by assumption) dX7_cellAt_1 (by decide) rfl (by assumption) ?_
  refine j_iload_n C dX7_cellAt_4 rfl ?_
  refine j_iconst C (nI 5) dX7_cellAt_5 (by decide) ?_
  first | with_reducible refine j_imulN C dX7_cellAt_6 ?_ | refine j_imul C dX7_cellAt_6 ?_
  refine j_iload_n C dX7_cellAt_7 rfl ?_
  first | with_reducible refine j_iaddN C dX7_cellAt_8 ?_ | refine j_iadd C dX7_cellAt_8 ?_
  refine j_cSi C (c_X9_at _ _ _ _ _ (by assumption) (by decide) _) yc_X9_at mn_X7_26 st_X9_at dX7_cellAt_9 rfl rfl (Nat.le_of_ble_eq_true rfl) (by decide) ?_
  exact j_ireturn C E dX7_cellAt_12 (rfl) (by decide) (by decide) (⟨rfl, rfl, rfl, rfl⟩)

set_option maxHeartbeats 4000000 in
set_option maxRecDepth 100000 in
theorem c_X4_classOfShare (l : Launch) (ω : jW) (γ : jG) (M : jM) (R : jR) {a : Nat} (g : gState ω γ a) (s : Int32) : Ct l ω yX4_classOfShare cX4_classOfShare 2 (some .int) 2 0 0 [.ref a, .int s] γ M R (jx γ (some (.int (rShare M a s))) M R) := by
  refine Ct_of (by decide) (Nat.le_of_ble_eq_true rfl) rfl (jcat_of rfl) ?_
  intro X C E hnm hxl hxn
  subst hxl
  have g0 := g.1
  have g1 := g.2.2.2.2.2.2.2.2.2.2.2.2.2.1
  have g2 := g.2.2.2.2.2.2.2.2.2.2.2.2.2.2.1
  refine j_iload_n C dX4_classOfShare_0 rfl ?_
  refine j_aload_n C dX4_classOfShare_1 rfl ?_
  refine j_getR C fl_X4_50 (by assumption) dX4_classOfShare_2 (by decide) rfl (by assumption) ?_
  refine j_iconst C (nI 0) dX4_classOfShare_5 (by decide) ?_
  refine j_cSi C (c_X9_at _ _ _ _ _ (by assumption) (by decide) _) yc_X9_at mn_X4_85 st_X9_at dX4_classOfShare_6 rfl rfl (Nat.le_of_ble_eq_true rfl) (by decide) ?_
  refine j_top (M (a + 24) 0) (rAt_N _ (by decide) (by decide)) ?_
  refine j_icmp_ge C 14 dX4_classOfShare_9 (by decide) (fun h9 => ?_) (fun h9 => ?_)
  · skip
    refine j_iload_n C dX4_classOfShare_14 rfl ?_
    refine j_aload_n C dX4_classOfShare_15 rfl ?_
    refine j_getR C fl_X4_50 (by assumption) dX4_classOfShare_16 (by decide) rfl (by assumption) ?_
    refine j_iconst C (nI 1) dX4_classOfShare_19 (by decide) ?_
    refine j_cSi C (c_X9_at _ _ _ _ _ (by assumption) (by decide) _) yc_X9_at mn_X4_85 st_X9_at dX4_classOfShare_20 rfl rfl (Nat.le_of_ble_eq_true rfl) (by decide) ?_
    refine j_top (M (a + 24) 1) (rAt_N _ (by decide) (by decide)) ?_
    refine j_icmp_ge C 30 dX4_classOfShare_23 (by decide) (fun h23 => ?_) (fun h23 => ?_)
    · skip
      refine j_iconst C (nI 2) dX4_classOfShare_30 (by decide) ?_
      exact j_ireturn C E dX4_classOfShare_31 (rfl) (by decide) (by decide) (⟨by simp only [rShare, if_pos h9, if_pos h23], rfl, rfl, rfl⟩)
    · skip
      refine j_iconst C (nI 1) dX4_classOfShare_26 (by decide) ?_
      refine j_goto C 31 dX4_classOfShare_27 (by decide) ?_
      exact j_ireturn C E dX4_classOfShare_31 (rfl) (by decide) (by decide) (⟨by simp only [rShare, if_pos h9, if_neg h23], rfl, rfl, rfl⟩)
  · skip
    refine j_iconst C (nI 0) dX4_classOfShare_12 (by decide) ?_
    exact j_ireturn C E dX4_classOfShare_13 (rfl) (by decide) (by decide) (⟨by simp only [rShare, if_neg h9], rfl, rfl, rfl⟩)

set_option maxHeartbeats 4000000 in
set_option maxRecDepth 100000 in
theorem c_X3_placeOf (l : Launch) (ω : jW) (γ : jG) (M : jM) (R : jR) {b n : Nat} (g : gShelf ω γ b) (hs : SR R b) (hkp : M b 2 = nI n) (hn : n ≤ 8) (x : Int32) : Ct l ω yX3_placeOf cX3_placeOf 3 (some .int) 2 0 0 [.ref b, .int x] γ M R (jx γ (some (.int (rFirst (qNum M R b x) n))) M R) := by
  refine Ct_of (by decide) (Nat.le_of_ble_eq_true rfl) rfl (jcat_of rfl) ?_
  intro X C E hnm hxl hxn
  subst hxl
  have g0 := g.1
  refine j_iconst C (nI 0) dX3_placeOf_0 (by decide) ?_
  refine j_istore_n C dX3_placeOf_1 (by rw [hxn]; decide) ?_
  refine j_loop n (fun k => [(0, .ref b), (1, .int x), (2, .int (nI k))]) (fun _ => M) (fun _ => R) (fun k => ∀ j, j < k → (qNum M R b x) j = false) (fun j hj => absurd hj (Nat.not_lt_zero j)) (fun k hk hI ih => ?_) (fun hI => ?_)
  · skip
    refine j_iload_n C dX3_placeOf_2 rfl ?_
    refine j_aload_n C dX3_placeOf_3 rfl ?_
    refine j_getI C fl_X3_22 (by assumption) dX3_placeOf_4 (by decide) rfl ?_
    refine j_top (nI n) (hkp) ?_
    refine j_icmp_ge C 30 dX3_placeOf_7 (by decide) (fun h => absurd h (nI_ge hk (by omega))) (fun _ => ?_)
    refine j_aload_n C dX3_placeOf_10 rfl ?_
    refine j_iload_n C dX3_placeOf_11 rfl ?_
    refine j_cVr C (c_X3_planAtN _ ω γ M R g hs (show k < 8 by omega)) yc_X3_planAt mn_X3_26 im_X3_planAt se_X3_planAt rfl rfl dX3_placeOf_12 rfl rfl (by assumption) (by decide) (Nat.le_of_ble_eq_true rfl) (by decide) ?_
    refine j_getI C fl_X3_30 (hs.pl g (by omega)) dX3_placeOf_15 (by decide) rfl ?_
    refine j_iload_n C dX3_placeOf_18 rfl ?_
    refine j_icmp_ne C 24 dX3_placeOf_19 (by decide) (fun h19 => ?_) (fun h19 => ?_)
    · skip
      first | refine j_iinc1 C dX3_placeOf_24 rfl (by rw [hxn]; decide) ?_ | refine j_iinc C _ dX3_placeOf_24 rfl rfl (by rw [hxn]; decide) ?_
      refine j_goto C 2 dX3_placeOf_27 (by decide) ?_
      exact ih (lt_s hI (by simpa [qNum] using h19))
    · skip
      refine j_iload_n C dX3_placeOf_22 rfl ?_
      exact j_ireturn C E dX3_placeOf_23 (rfl) (by decide) (by decide) (⟨by rw [rFirst_yes hk (by simp [qNum, h19]) hI], rfl, rfl, rfl⟩)
  · skip
    refine j_iload_n C dX3_placeOf_2 rfl ?_
    refine j_aload_n C dX3_placeOf_3 rfl ?_
    refine j_getI C fl_X3_22 (by assumption) dX3_placeOf_4 (by decide) rfl ?_
    refine j_top (nI n) (hkp) ?_
    refine j_icmp_ge C 30 dX3_placeOf_7 (by decide) (fun _ => ?_) (fun h => absurd (Int32.le_refl _) h)
    refine j_iconst C (-1) dX3_placeOf_30 (by decide) ?_
    exact j_ireturn C E dX3_placeOf_31 (rfl) (by decide) (by decide) (⟨by rw [rFirst_no hI], rfl, rfl, rfl⟩)

set_option maxHeartbeats 4000000 in
set_option maxRecDepth 100000 in
theorem c_X3_placeFor (l : Launch) (ω : jW) (γ : jG) (M : jM) (R : jR) {b n : Nat} (g : gShelf ω γ b) (hs : SR R b) (hkp : M b 2 = nI n) (hn : n ≤ 8) (s c : Int32) : Ct l ω yX3_placeFor cX3_placeFor 5 (some .int) 2 0 0 [.ref b, .int s, .int c] γ M R (jx γ (some (.int (rFirst (qFor M R b s c) n))) M R) := by
  refine Ct_of (by decide) (Nat.le_of_ble_eq_true rfl) rfl (jcat_of rfl) ?_
  intro X C E hnm hxl hxn
  subst hxl
  have g0 := g.1
  refine j_iconst C (nI 0) dX3_placeFor_0 (by decide) ?_
  refine j_istore_n C dX3_placeFor_1 (by rw [hxn]; decide) ?_
  refine j_loop n (fun k => [(0, .ref b), (1, .int s), (2, .int c), (3, .int (nI k))]) (fun _ => M) (fun _ => R) (fun k => ∀ j, j < k → (qFor M R b s c) j = false) (fun j hj => absurd hj (Nat.not_lt_zero j)) (fun k hk hI ih => ?_) (fun hI => ?_)
  · skip
    refine j_iload_n C dX3_placeFor_2 rfl ?_
    refine j_aload_n C dX3_placeFor_3 rfl ?_
    refine j_getI C fl_X3_22 (by assumption) dX3_placeFor_4 (by decide) rfl ?_
    refine j_top (nI n) (hkp) ?_
    refine j_icmp_ge C 43 dX3_placeFor_7 (by decide) (fun h => absurd h (nI_ge hk (by omega))) (fun _ => ?_)
    refine j_aload_n C dX3_placeFor_10 rfl ?_
    refine j_iload_n C dX3_placeFor_11 rfl ?_
    refine j_cVr C (c_X3_planAtN _ ω γ M R g hs (show k < 8 by omega)) yc_X3_planAt mn_X3_26 im_X3_planAt se_X3_planAt rfl rfl dX3_placeFor_12 rfl rfl (by assumption) (by decide) (Nat.le_of_ble_eq_true rfl) (by decide) ?_
    refine j_astore C dX3_placeFor_15 (by rw [hxn]; decide) ?_
    refine j_aload C dX3_placeFor_17 rfl ?_
    refine j_getI C fl_X3_33 (hs.pl g (by omega)) dX3_placeFor_19 (by decide) rfl ?_
    refine j_iload_n C dX3_placeFor_22 rfl ?_
    refine j_icmp_ne C 37 dX3_placeFor_23 (by decide) (fun h23 => ?_) (fun h23 => ?_)
    · skip
      first | refine j_iinc1 C dX3_placeFor_37 rfl (by rw [hxn]; decide) ?_ | refine j_iinc C _ dX3_placeFor_37 rfl rfl (by rw [hxn]; decide) ?_
      refine j_goto C 2 dX3_placeFor_40 (by decide) ?_
      refine j_locs [0, 1, 2, 3] rfl ?_
      exact ih (lt_s hI (by simp_all [qFor]))
    · skip
      refine j_aload C dX3_placeFor_26 rfl ?_
      refine j_getI C fl_X3_36 (hs.pl g (by omega)) dX3_placeFor_28 (by decide) rfl ?_
      refine j_iload_n C dX3_placeFor_31 rfl ?_
      refine j_icmp_ne C 37 dX3_placeFor_32 (by decide) (fun h32 => ?_) (fun h32 => ?_)
      · skip
        first | refine j_iinc1 C dX3_placeFor_37 rfl (by rw [hxn]; decide) ?_ | refine j_iinc C _ dX3_placeFor_37 rfl rfl (by rw [hxn]; decide) ?_
        refine j_goto C 2 dX3_placeFor_40 (by decide) ?_
        refine j_locs [0, 1, 2, 3] rfl ?_
        exact ih (lt_s hI (by simp_all [qFor]))
      · skip
        refine j_iload_n C dX3_placeFor_35 rfl ?_
        exact j_ireturn C E dX3_placeFor_36 (rfl) (by decide) (by decide) (⟨by rw [rFirst_yes hk (by simp [qFor, h23, h32]) hI], rfl, rfl, rfl⟩)
  · skip
    refine j_iload_n C dX3_placeFor_2 rfl ?_
    refine j_aload_n C dX3_placeFor_3 rfl ?_
    refine j_getI C fl_X3_22 (by assumption) dX3_placeFor_4 (by decide) rfl ?_
    refine j_top (nI n) (hkp) ?_
    refine j_icmp_ge C 43 dX3_placeFor_7 (by decide) (fun _ => ?_) (fun h => absurd (Int32.le_refl _) h)
    refine j_iconst C (-1) dX3_placeFor_43 (by decide) ?_
    exact j_ireturn C E dX3_placeFor_44 (rfl) (by decide) (by decide) (⟨by rw [rFirst_no hI], rfl, rfl, rfl⟩)

set_option maxHeartbeats 4000000 in
set_option maxRecDepth 100000 in
theorem c_X3_keptFor (l : Launch) (ω : jW) (γ : jG) (M : jM) (R : jR) {b n : Nat} (g : gShelf ω γ b) (hs : SR R b) (hkp : M b 2 = nI n) (hn : n ≤ 8) (s : Int32) : Ct l ω yX3_keptFor cX3_keptFor 4 (some .int) 2 0 0 [.ref b, .int s] γ M R (jx γ (some (.int (nI (rCnt (qOf M R b s) n)))) M R) := by
  refine Ct_of (by decide) (Nat.le_of_ble_eq_true rfl) rfl (jcat_of rfl) ?_
  intro X C E hnm hxl hxn
  subst hxl
  have g0 := g.1
  refine j_iconst C (nI 0) dX3_keptFor_0 (by decide) ?_
  refine j_istore_n C dX3_keptFor_1 (by rw [hxn]; decide) ?_
  refine j_iconst C (nI 0) dX3_keptFor_2 (by decide) ?_
  refine j_istore_n C dX3_keptFor_3 (by rw [hxn]; decide) ?_
  refine j_loop n (fun k => [(0, .ref b), (1, .int s), (2, .int (nI (rCnt (qOf M R b s) k))), (3, .int (nI k))]) (fun _ => M) (fun _ => R) (fun _ => True) trivial (fun k hk _ ih => ?_) (fun _ => ?_)
  · skip
    refine j_iload_n C dX3_keptFor_4 rfl ?_
    refine j_aload_n C dX3_keptFor_5 rfl ?_
    refine j_getI C fl_X3_22 (by assumption) dX3_keptFor_6 (by decide) rfl ?_
    refine j_top (nI n) (hkp) ?_
    refine j_icmp_ge C 33 dX3_keptFor_9 (by decide) (fun h => absurd h (nI_ge hk (by omega))) (fun _ => ?_)
    refine j_aload_n C dX3_keptFor_12 rfl ?_
    refine j_iload_n C dX3_keptFor_13 rfl ?_
    refine j_cVr C (c_X3_planAtN _ ω γ M R g hs (show k < 8 by omega)) yc_X3_planAt mn_X3_26 im_X3_planAt se_X3_planAt rfl rfl dX3_keptFor_14 rfl rfl (by assumption) (by decide) (Nat.le_of_ble_eq_true rfl) (by decide) ?_
    refine j_getI C fl_X3_33 (hs.pl g (by omega)) dX3_keptFor_17 (by decide) rfl ?_
    refine j_iload_n C dX3_keptFor_20 rfl ?_
    refine j_icmp_ne C 27 dX3_keptFor_21 (by decide) (fun h21 => ?_) (fun h21 => ?_)
    · skip
      rw [show rCnt (qOf M R b s) k = rCnt (qOf M R b s) (k + 1) from by simp_all [rCnt, qOf]]
      first | refine j_iinc1 C dX3_keptFor_27 rfl (by rw [hxn]; decide) ?_ | refine j_iinc C _ dX3_keptFor_27 rfl rfl (by rw [hxn]; decide) ?_
      refine j_goto C 4 dX3_keptFor_30 (by decide) ?_
      exact ih trivial
    · skip
      have e9 : rCnt (qOf M R b s) (k + 1) = rCnt (qOf M R b s) k + 1 := by simp_all [rCnt, qOf]
      refine j_iinc1 C dX3_keptFor_24 rfl (by rw [hxn]; decide) ?_
      rw [← e9]
      first | refine j_iinc1 C dX3_keptFor_27 rfl (by rw [hxn]; decide) ?_ | refine j_iinc C _ dX3_keptFor_27 rfl rfl (by rw [hxn]; decide) ?_
      refine j_goto C 4 dX3_keptFor_30 (by decide) ?_
      exact ih trivial
  · skip
    refine j_iload_n C dX3_keptFor_4 rfl ?_
    refine j_aload_n C dX3_keptFor_5 rfl ?_
    refine j_getI C fl_X3_22 (by assumption) dX3_keptFor_6 (by decide) rfl ?_
    refine j_top (nI n) (hkp) ?_
    refine j_icmp_ge C 33 dX3_keptFor_9 (by decide) (fun _ => ?_) (fun h => absurd (Int32.le_refl _) h)
    refine j_iload_n C dX3_keptFor_33 rfl ?_
    exact j_ireturn C E dX3_keptFor_34 (rfl) (by decide) (by decide) (⟨rfl, rfl, rfl, rfl⟩)

set_option maxHeartbeats 4000000 in
set_option maxRecDepth 100000 in
theorem c_X3_pinned (l : Launch) (ω : jW) (γ : jG) (M : jM) (R : jR) {b n : Nat} (g : gShelf ω γ b) (hs : SR R b) (hkp : M b 2 = nI n) (hn : n ≤ 8)  : Ct l ω yX3_pinned cX3_pinned 3 (some .int) 2 0 0 [.ref b] γ M R (jx γ (some (.int (nI (rCnt (qPin M R b) n)))) M R) := by
  refine Ct_of (by decide) (Nat.le_of_ble_eq_true rfl) rfl (jcat_of rfl) ?_
  intro X C E hnm hxl hxn
  subst hxl
  have g0 := g.1
  refine j_iconst C (nI 0) dX3_pinned_0 (by decide) ?_
  refine j_istore_n C dX3_pinned_1 (by rw [hxn]; decide) ?_
  refine j_iconst C (nI 0) dX3_pinned_2 (by decide) ?_
  refine j_istore_n C dX3_pinned_3 (by rw [hxn]; decide) ?_
  refine j_loop n (fun k => [(0, .ref b), (1, .int (nI (rCnt (qPin M R b) k))), (2, .int (nI k))]) (fun _ => M) (fun _ => R) (fun _ => True) trivial (fun k hk _ ih => ?_) (fun _ => ?_)
  · skip
    refine j_iload_n C dX3_pinned_4 rfl ?_
    refine j_aload_n C dX3_pinned_5 rfl ?_
    refine j_getI C fl_X3_22 (by assumption) dX3_pinned_6 (by decide) rfl ?_
    refine j_top (nI n) (hkp) ?_
    refine j_icmp_ge C 32 dX3_pinned_9 (by decide) (fun h => absurd h (nI_ge hk (by omega))) (fun _ => ?_)
    refine j_aload_n C dX3_pinned_12 rfl ?_
    refine j_iload_n C dX3_pinned_13 rfl ?_
    refine j_cVr C (c_X3_planAtN _ ω γ M R g hs (show k < 8 by omega)) yc_X3_planAt mn_X3_26 im_X3_planAt se_X3_planAt rfl rfl dX3_pinned_14 rfl rfl (by assumption) (by decide) (Nat.le_of_ble_eq_true rfl) (by decide) ?_
    refine j_getI C fl_X3_39 (hs.pl g (by omega)) dX3_pinned_17 (by decide) rfl ?_
    refine j_if_eq C 26 dX3_pinned_20 (by decide) (fun h20 => ?_) (fun h20 => ?_)
    · skip
      rw [show rCnt (qPin M R b) k = rCnt (qPin M R b) (k + 1) from by simp_all [rCnt, qPin]]
      first | refine j_iinc1 C dX3_pinned_26 rfl (by rw [hxn]; decide) ?_ | refine j_iinc C _ dX3_pinned_26 rfl rfl (by rw [hxn]; decide) ?_
      refine j_goto C 4 dX3_pinned_29 (by decide) ?_
      exact ih trivial
    · skip
      have e9 : rCnt (qPin M R b) (k + 1) = rCnt (qPin M R b) k + 1 := by simp_all [rCnt, qPin]
      refine j_iinc1 C dX3_pinned_23 rfl (by rw [hxn]; decide) ?_
      rw [← e9]
      first | refine j_iinc1 C dX3_pinned_26 rfl (by rw [hxn]; decide) ?_ | refine j_iinc C _ dX3_pinned_26 rfl rfl (by rw [hxn]; decide) ?_
      refine j_goto C 4 dX3_pinned_29 (by decide) ?_
      exact ih trivial
  · skip
    refine j_iload_n C dX3_pinned_4 rfl ?_
    refine j_aload_n C dX3_pinned_5 rfl ?_
    refine j_getI C fl_X3_22 (by assumption) dX3_pinned_6 (by decide) rfl ?_
    refine j_top (nI n) (hkp) ?_
    refine j_icmp_ge C 32 dX3_pinned_9 (by decide) (fun _ => ?_) (fun h => absurd (Int32.le_refl _) h)
    refine j_iload_n C dX3_pinned_32 rfl ?_
    exact j_ireturn C E dX3_pinned_33 (rfl) (by decide) (by decide) (⟨rfl, rfl, rfl, rfl⟩)

set_option maxHeartbeats 4000000 in
set_option maxRecDepth 100000 in
theorem c_X3_droppedAheadOf (l : Launch) (ω : jW) (γ : jG) (M : jM) (R : jR) {b n : Nat} (g : gShelf ω γ b) (hs : SR R b) (hkp : M b 2 = nI n) (hn : n ≤ 8) {q : Nat} (hq : jAt ω γ q 2) : Ct l ω yX3_droppedAheadOf cX3_droppedAheadOf 5 (some .int) 3 0 0 [.ref b, .ref q] γ M R (jx γ (some (.int (nI (rCnt (qAhd M R b q) n)))) M R) := by
  refine Ct_of (by decide) (Nat.le_of_ble_eq_true rfl) rfl (jcat_of rfl) ?_
  intro X C E hnm hxl hxn
  subst hxl
  have g0 := g.1
  refine j_iconst C (nI 0) dX3_droppedAheadOf_0 (by decide) ?_
  refine j_istore_n C dX3_droppedAheadOf_1 (by rw [hxn]; decide) ?_
  refine j_iconst C (nI 0) dX3_droppedAheadOf_2 (by decide) ?_
  refine j_istore_n C dX3_droppedAheadOf_3 (by rw [hxn]; decide) ?_
  refine j_loop n (fun k => [(0, .ref b), (1, .ref q), (2, .int (nI (rCnt (qAhd M R b q) k))), (3, .int (nI k))]) (fun _ => M) (fun _ => R) (fun _ => True) trivial (fun k hk _ ih => ?_) (fun _ => ?_)
  · skip
    refine j_iload_n C dX3_droppedAheadOf_4 rfl ?_
    refine j_aload_n C dX3_droppedAheadOf_5 rfl ?_
    refine j_getI C fl_X3_22 (by assumption) dX3_droppedAheadOf_6 (by decide) rfl ?_
    refine j_top (nI n) (hkp) ?_
    refine j_icmp_ge C 45 dX3_droppedAheadOf_9 (by decide) (fun h => absurd h (nI_ge hk (by omega))) (fun _ => ?_)
    refine j_aload_n C dX3_droppedAheadOf_12 rfl ?_
    refine j_iload_n C dX3_droppedAheadOf_13 rfl ?_
    refine j_cVr C (c_X3_planAtN _ ω γ M R g hs (show k < 8 by omega)) yc_X3_planAt mn_X3_26 im_X3_planAt se_X3_planAt rfl rfl dX3_droppedAheadOf_14 rfl rfl (by assumption) (by decide) (Nat.le_of_ble_eq_true rfl) (by decide) ?_
    refine j_astore C dX3_droppedAheadOf_17 (by rw [hxn]; decide) ?_
    refine j_aload C dX3_droppedAheadOf_19 rfl ?_
    refine j_getI C fl_X3_39 (hs.pl g (by omega)) dX3_droppedAheadOf_21 (by decide) rfl ?_
    refine j_if_ne C 39 dX3_droppedAheadOf_24 (by decide) (fun h24 => ?_) (fun h24 => ?_)
    · skip
      rw [show rCnt (qAhd M R b q) k = rCnt (qAhd M R b q) (k + 1) from by simp_all [rCnt, qAhd]]
      first | refine j_iinc1 C dX3_droppedAheadOf_39 rfl (by rw [hxn]; decide) ?_ | refine j_iinc C _ dX3_droppedAheadOf_39 rfl rfl (by rw [hxn]; decide) ?_
      refine j_goto C 4 dX3_droppedAheadOf_42 (by decide) ?_
      refine j_locs [0, 1, 2, 3] rfl ?_
      exact ih trivial
    · skip
      refine j_aload C dX3_droppedAheadOf_27 rfl ?_
      refine j_aload_n C dX3_droppedAheadOf_29 rfl ?_
      refine j_cVi C (c_X2_dropsAheadOf _ ω γ M R (hs.pl g (show k < 8 by omega)) hq) yc_X2_dropsAheadOf mn_X3_47 im_X2_dropsAheadOf se_X2_dropsAheadOf rfl rfl dX3_droppedAheadOf_30 rfl rfl (hs.pl g (by omega)) (by decide) (Nat.le_of_ble_eq_true rfl) (by decide) ?_
      refine j_if_eq C 39 dX3_droppedAheadOf_33 (by decide) (fun h33 => ?_) (fun h33 => ?_)
      · skip
        rw [show rCnt (qAhd M R b q) k = rCnt (qAhd M R b q) (k + 1) from by simp_all [rCnt, qAhd]]
        first | refine j_iinc1 C dX3_droppedAheadOf_39 rfl (by rw [hxn]; decide) ?_ | refine j_iinc C _ dX3_droppedAheadOf_39 rfl rfl (by rw [hxn]; decide) ?_
        refine j_goto C 4 dX3_droppedAheadOf_42 (by decide) ?_
        refine j_locs [0, 1, 2, 3] rfl ?_
        exact ih trivial
      · skip
        have e9 : rCnt (qAhd M R b q) (k + 1) = rCnt (qAhd M R b q) k + 1 := by simp_all [rCnt, qAhd]
        refine j_iinc1 C dX3_droppedAheadOf_36 rfl (by rw [hxn]; decide) ?_
        rw [← e9]
        first | refine j_iinc1 C dX3_droppedAheadOf_39 rfl (by rw [hxn]; decide) ?_ | refine j_iinc C _ dX3_droppedAheadOf_39 rfl rfl (by rw [hxn]; decide) ?_
        refine j_goto C 4 dX3_droppedAheadOf_42 (by decide) ?_
        refine j_locs [0, 1, 2, 3] rfl ?_
        exact ih trivial
  · skip
    refine j_iload_n C dX3_droppedAheadOf_4 rfl ?_
    refine j_aload_n C dX3_droppedAheadOf_5 rfl ?_
    refine j_getI C fl_X3_22 (by assumption) dX3_droppedAheadOf_6 (by decide) rfl ?_
    refine j_top (nI n) (hkp) ?_
    refine j_icmp_ge C 45 dX3_droppedAheadOf_9 (by decide) (fun _ => ?_) (fun h => absurd (Int32.le_refl _) h)
    refine j_iload_n C dX3_droppedAheadOf_45 rfl ?_
    exact j_ireturn C E dX3_droppedAheadOf_46 (rfl) (by decide) (by decide) (⟨rfl, rfl, rfl, rfl⟩)

set_option maxHeartbeats 4000000 in
set_option maxRecDepth 100000 in
theorem c_X3_placeToDrop (l : Launch) (ω : jW) (γ : jG) (M : jM) (R : jR) {b n : Nat} (g : gShelf ω γ b) (hs : SR R b) (hkp : M b 2 = nI n) (hn : n ≤ 8) (x : Int32) : Ct l ω yX3_placeToDrop cX3_placeToDrop 3 (some .int) 4 0 0 [.ref b, .int x] γ M R (jx γ (some (.int (rFirst (qDrp M R b n x) n))) M R) := by
  refine Ct_of (by decide) (Nat.le_of_ble_eq_true rfl) rfl (jcat_of rfl) ?_
  intro X C E hnm hxl hxn
  subst hxl
  have g0 := g.1
  refine j_iconst C (nI 0) dX3_placeToDrop_0 (by decide) ?_
  refine j_istore_n C dX3_placeToDrop_1 (by rw [hxn]; decide) ?_
  refine j_loop n (fun k => [(0, .ref b), (1, .int x), (2, .int (nI k))]) (fun _ => M) (fun _ => R) (fun k => ∀ j, j < k → (qDrp M R b n x) j = false) (fun j hj => absurd hj (Nat.not_lt_zero j)) (fun k hk hI ih => ?_) (fun hI => ?_)
  · skip
    refine j_iload_n C dX3_placeToDrop_2 rfl ?_
    refine j_aload_n C dX3_placeToDrop_3 rfl ?_
    refine j_getI C fl_X3_22 (by assumption) dX3_placeToDrop_4 (by decide) rfl ?_
    refine j_top (nI n) (hkp) ?_
    refine j_icmp_ge C 42 dX3_placeToDrop_7 (by decide) (fun h => absurd h (nI_ge hk (by omega))) (fun _ => ?_)
    refine j_aload_n C dX3_placeToDrop_10 rfl ?_
    refine j_iload_n C dX3_placeToDrop_11 rfl ?_
    refine j_cVr C (c_X3_planAtN _ ω γ M R g hs (show k < 8 by omega)) yc_X3_planAt mn_X3_26 im_X3_planAt se_X3_planAt rfl rfl dX3_placeToDrop_12 rfl rfl (by assumption) (by decide) (Nat.le_of_ble_eq_true rfl) (by decide) ?_
    refine j_getI C fl_X3_39 (hs.pl g (by omega)) dX3_placeToDrop_15 (by decide) rfl ?_
    refine j_if_ne C 36 dX3_placeToDrop_18 (by decide) (fun h18 => ?_) (fun h18 => ?_)
    · skip
      first | refine j_iinc1 C dX3_placeToDrop_36 rfl (by rw [hxn]; decide) ?_ | refine j_iinc C _ dX3_placeToDrop_36 rfl rfl (by rw [hxn]; decide) ?_
      refine j_goto C 2 dX3_placeToDrop_39 (by decide) ?_
      exact ih (lt_s hI (by simp_all [qDrp]))
    · skip
      refine j_aload_n C dX3_placeToDrop_21 rfl ?_
      refine j_aload_n C dX3_placeToDrop_22 rfl ?_
      refine j_iload_n C dX3_placeToDrop_23 rfl ?_
      refine j_cVr C (c_X3_planAtN _ ω γ M R g hs (show k < 8 by omega)) yc_X3_planAt mn_X3_26 im_X3_planAt se_X3_planAt rfl rfl dX3_placeToDrop_24 rfl rfl (by assumption) (by decide) (Nat.le_of_ble_eq_true rfl) (by decide) ?_
      refine j_cVi C (c_X3_droppedAheadOf _ ω γ M R g hs hkp hn (hs.pl g (show k < 8 by omega))) yc_X3_droppedAheadOf mn_X3_43 im_X3_droppedAheadOf se_X3_droppedAheadOf rfl rfl dX3_placeToDrop_27 rfl rfl (by assumption) (by decide) (Nat.le_of_ble_eq_true rfl) (by decide) ?_
      refine j_iload_n C dX3_placeToDrop_30 rfl ?_
      refine j_icmp_ne C 36 dX3_placeToDrop_31 (by decide) (fun h31 => ?_) (fun h31 => ?_)
      · skip
        first | refine j_iinc1 C dX3_placeToDrop_36 rfl (by rw [hxn]; decide) ?_ | refine j_iinc C _ dX3_placeToDrop_36 rfl rfl (by rw [hxn]; decide) ?_
        refine j_goto C 2 dX3_placeToDrop_39 (by decide) ?_
        exact ih (lt_s hI (by simp_all [qDrp]))
      · skip
        refine j_iload_n C dX3_placeToDrop_34 rfl ?_
        exact j_ireturn C E dX3_placeToDrop_35 (rfl) (by decide) (by decide) (⟨by rw [rFirst_yes hk (by simp [qDrp, h18, h31]) hI], rfl, rfl, rfl⟩)
  · skip
    refine j_iload_n C dX3_placeToDrop_2 rfl ?_
    refine j_aload_n C dX3_placeToDrop_3 rfl ?_
    refine j_getI C fl_X3_22 (by assumption) dX3_placeToDrop_4 (by decide) rfl ?_
    refine j_top (nI n) (hkp) ?_
    refine j_icmp_ge C 42 dX3_placeToDrop_7 (by decide) (fun _ => ?_) (fun h => absurd (Int32.le_refl _) h)
    refine j_iconst C (-1) dX3_placeToDrop_42 (by decide) ?_
    exact j_ireturn C E dX3_placeToDrop_43 (rfl) (by decide) (by decide) (⟨by rw [rFirst_no hI], rfl, rfl, rfl⟩)

set_option maxHeartbeats 4000000 in
set_option maxRecDepth 100000 in
theorem c_X7_fits (l : Launch) (ω : jW) (γ : jG) (M : jM) (R : jR) {b t v n : Nat} (g : gTable ω γ b) (gt : gStm ω γ t) (gv : jArr ω γ v 12 4) (hc : M t 2 = nI n) (hn : n ≤ 4) (r : Int32) : Ct l ω yX7_fits cX7_fits 6 (some .boolean) 3 0 0 [.ref b, .int r, .ref t, .ref v] γ M R (jx γ (some (.int (rFit M b t v r n))) M R) := by
  refine Ct_of (by decide) (Nat.le_of_ble_eq_true rfl) rfl (jcat_of rfl) ?_
  intro X C E hnm hxl hxn
  subst hxl
  have g0 := g.1
  have gt0 := gt.1
  refine j_iconst C (nI 0) dX7_fits_0 (by decide) ?_
  refine j_istore C dX7_fits_1 (by rw [hxn]; decide) ?_
  refine j_loop n (fun k => [(0, .ref b), (1, .int r), (2, .ref t), (3, .ref v), (4, .int (nI k))]) (fun _ => M) (fun _ => R) (fun k => ∀ j, j < k → rFitK M b t v r j = true) (fun j hj => absurd hj (Nat.not_lt_zero j)) (fun k hk hI ih => ?_) (fun hI => ?_)
  · skip
    refine j_iload C dX7_fits_3 rfl ?_
    refine j_aload_n C dX7_fits_5 rfl ?_
    refine j_getI C fl_X7_46 (by assumption) dX7_fits_6 (by decide) rfl ?_
    refine j_top (nI n) (hc) ?_
    refine j_icmp_ge C 53 dX7_fits_9 (by decide) (fun h => absurd h (nI_ge hk (by omega))) (fun _ => ?_)
    refine j_aload_n C dX7_fits_12 rfl ?_
    refine j_iload_n C dX7_fits_13 rfl ?_
    refine j_aload_n C dX7_fits_14 rfl ?_
    refine j_iload C dX7_fits_15 rfl ?_
    refine j_cVi C (c_X5_columnAt _ _ _ _ _ (by assumption) _) yc_X5_columnAt mn_X7_51 im_X5_columnAt se_X5_columnAt rfl rfl dX7_fits_17 rfl rfl (by assumption) (by decide) (Nat.le_of_ble_eq_true rfl) (by decide) ?_
    refine j_cVi C (c_X7_cellAt _ _ _ _ _ (by assumption) _ _) yc_X7_cellAt mn_X7_38 im_X7_cellAt se_X7_cellAt rfl rfl dX7_fits_20 rfl rfl (by assumption) (by decide) (Nat.le_of_ble_eq_true rfl) (by decide) ?_
    refine j_istore C dX7_fits_23 (by rw [hxn]; decide) ?_
    refine j_iload C dX7_fits_25 rfl ?_
    refine j_aload_n C dX7_fits_27 rfl ?_
    refine j_iload C dX7_fits_28 rfl ?_
    refine j_cVi C (c_X5_operatorAt _ _ _ _ _ (by assumption) _) yc_X5_operatorAt mn_X7_55 im_X5_operatorAt se_X5_operatorAt rfl rfl dX7_fits_30 rfl rfl (by assumption) (by decide) (Nat.le_of_ble_eq_true rfl) (by decide) ?_
    refine j_aload_n C dX7_fits_33 rfl ?_
    refine j_iload C dX7_fits_34 rfl ?_
    refine j_cSi C (c_X9_at _ _ _ _ _ (by assumption) (by decide) _) yc_X9_at mn_X7_26 st_X9_at dX7_fits_36 rfl rfl (Nat.le_of_ble_eq_true rfl) (by decide) ?_
    refine j_cSi C (c_X9_holds _ _ _ _ _ _ _ _) yc_X9_holds mn_X7_58 st_X9_holds dX7_fits_39 rfl rfl (Nat.le_of_ble_eq_true rfl) (by decide) ?_
    refine j_if_ne C 47 dX7_fits_42 (by decide) (fun h42 => ?_) (fun h42 => ?_)
    · skip
      first | refine j_iinc1 C dX7_fits_47 rfl (by rw [hxn]; decide) ?_ | refine j_iinc C _ dX7_fits_47 rfl rfl (by rw [hxn]; decide) ?_
      refine j_goto C 3 dX7_fits_50 (by decide) ?_
      refine j_locs [0, 1, 2, 3, 4] rfl ?_
      exact ih (lt_s hI (by simp [rFitK, h42]))
    · skip
      refine j_iconst C (nI 0) dX7_fits_45 (by decide) ?_
      exact j_ireturn C E dX7_fits_46 (by decide) (by decide) (by decide) (⟨by rw [rFit_no hk (by simp [rFitK, h42])], rfl, rfl, rfl⟩)
  · skip
    refine j_iload C dX7_fits_3 rfl ?_
    refine j_aload_n C dX7_fits_5 rfl ?_
    refine j_getI C fl_X7_46 (by assumption) dX7_fits_6 (by decide) rfl ?_
    refine j_top (nI n) (hc) ?_
    refine j_icmp_ge C 53 dX7_fits_9 (by decide) (fun _ => ?_) (fun h => absurd (Int32.le_refl _) h)
    refine j_iconst C (nI 1) dX7_fits_53 (by decide) ?_
    exact j_ireturn C E dX7_fits_54 (by decide) (by decide) (by decide) (⟨by rw [rFit_yes hI], rfl, rfl, rfl⟩)

set_option maxHeartbeats 4000000 in
set_option maxRecDepth 100000 in
theorem c_X7_weightWhere (l : Launch) (ω : jW) (γ : jG) (M : jM) (R : jR) {b t v n r : Nat} (g : gTable ω γ b) (gt : gStm ω γ t) (gv : jArr ω γ v 12 4) (hc : M t 2 = nI n) (hn : n ≤ 4) (hr : M b 2 = nI r) (hr2 : r ≤ 30) : Ct l ω yX7_weightWhere cX7_weightWhere 5 (some .int) 4 0 0 [.ref b, .ref t, .ref v] γ M R (jx γ (some (.int (sI (rTWF M b t v n) r))) M R) := by
  refine Ct_of (by decide) (Nat.le_of_ble_eq_true rfl) rfl (jcat_of rfl) ?_
  intro X C E hnm hxl hxn
  subst hxl
  have g0 := g.1
  refine j_iconst C (nI 0) dX7_weightWhere_0 (by decide) ?_
  refine j_istore_n C dX7_weightWhere_1 (by rw [hxn]; decide) ?_
  refine j_iconst C (nI 0) dX7_weightWhere_2 (by decide) ?_
  refine j_istore C dX7_weightWhere_3 (by rw [hxn]; decide) ?_
  refine j_loop r (fun k => [(0, .ref b), (1, .ref t), (2, .ref v), (3, .int (sI (rTWF M b t v n) k)), (4, .int (nI k))]) (fun _ => M) (fun _ => R) (fun _ => True) trivial (fun k hk _ ih => ?_) (fun _ => ?_)
  · skip
    refine j_iload C dX7_weightWhere_5 rfl ?_
    refine j_aload_n C dX7_weightWhere_7 rfl ?_
    refine j_getI C fl_X7_22 (by assumption) dX7_weightWhere_8 (by decide) rfl ?_
    refine j_top (nI r) (hr) ?_
    refine j_icmp_ge C 41 dX7_weightWhere_11 (by decide) (fun h => absurd h (nI_ge hk (by omega))) (fun _ => ?_)
    refine j_aload_n C dX7_weightWhere_14 rfl ?_
    refine j_iload C dX7_weightWhere_15 rfl ?_
    refine j_aload_n C dX7_weightWhere_17 rfl ?_
    refine j_aload_n C dX7_weightWhere_18 rfl ?_
    refine j_cVi C (c_X7_fits _ _ _ _ _ (by assumption) (by assumption) (by assumption) (by assumption) (by assumption) _) yc_X7_fits mn_X7_42 im_X7_fits se_X7_fits rfl rfl dX7_weightWhere_19 rfl rfl (by assumption) (by decide) (Nat.le_of_ble_eq_true rfl) (by decide) ?_
    refine j_if_eq C 35 dX7_weightWhere_22 (by decide) (fun h22 => ?_) (fun h22 => ?_)
    · skip
      rw [show sI (rTWF M b t v n) k = sI (rTWF M b t v n) (k + 1) from by simp [sI, rTWF, h22]]
      first | refine j_iinc1 C dX7_weightWhere_35 rfl (by rw [hxn]; decide) ?_ | refine j_iinc C _ dX7_weightWhere_35 rfl rfl (by rw [hxn]; decide) ?_
      refine j_goto C 5 dX7_weightWhere_38 (by decide) ?_
      exact ih trivial
    · skip
      refine j_iload_n C dX7_weightWhere_25 rfl ?_
      refine j_aload_n C dX7_weightWhere_26 rfl ?_
      refine j_iload C dX7_weightWhere_27 rfl ?_
      refine j_iconst C (nI 4) dX7_weightWhere_29 (by decide) ?_
      refine j_cVi C (c_X7_cellAt _ _ _ _ _ (by assumption) _ _) yc_X7_cellAt mn_X7_38 im_X7_cellAt se_X7_cellAt rfl rfl dX7_weightWhere_30 rfl rfl (by assumption) (by decide) (Nat.le_of_ble_eq_true rfl) (by decide) ?_
      first | with_reducible refine j_iaddN C dX7_weightWhere_33 ?_ | refine j_iadd C dX7_weightWhere_33 ?_
      refine j_top (sI (rTWF M b t v n) (k + 1)) (by simp [sI, rTWF, h22]) ?_
      refine j_istore_n C dX7_weightWhere_34 (by rw [hxn]; decide) ?_
      first | refine j_iinc1 C dX7_weightWhere_35 rfl (by rw [hxn]; decide) ?_ | refine j_iinc C _ dX7_weightWhere_35 rfl rfl (by rw [hxn]; decide) ?_
      refine j_goto C 5 dX7_weightWhere_38 (by decide) ?_
      exact ih trivial
  · skip
    refine j_iload C dX7_weightWhere_5 rfl ?_
    refine j_aload_n C dX7_weightWhere_7 rfl ?_
    refine j_getI C fl_X7_22 (by assumption) dX7_weightWhere_8 (by decide) rfl ?_
    refine j_top (nI r) (hr) ?_
    refine j_icmp_ge C 41 dX7_weightWhere_11 (by decide) (fun _ => ?_) (fun h => absurd (Int32.le_refl _) h)
    refine j_iload_n C dX7_weightWhere_41 rfl ?_
    exact j_ireturn C E dX7_weightWhere_42 (rfl) (by decide) (by decide) (⟨rfl, rfl, rfl, rfl⟩)

set_option maxHeartbeats 4000000 in
set_option maxRecDepth 100000 in
theorem c_X4_classWith (l : Launch) (ω : jW) (γ : jG) (M : jM) (R : jR) {a t v n : Nat} (g : gState ω γ a) (gt : gStm ω γ t) (gv : jArr ω γ v 12 4) (hc : M t 2 = nI n) (hn : n ≤ 4) : Ct l ω yX4_classWith cX4_classWith 7 (some .int) 4 0 0 [.ref a, .ref t, .ref v] γ M R (jx γ (some (.int (rCls M a t v n))) M R) := by
  refine Ct_of (by decide) (Nat.le_of_ble_eq_true rfl) rfl (jcat_of rfl) ?_
  intro X C E hnm hxl hxn
  subst hxl
  have g0 := g.1
  have gs1 := g.2.2.2.1
  have gs2 := g.2.2.2.2.1
  have gs3 := gs2.1
  have gt0 := gt.1
  refine j_iconst C (nI 0) dX4_classWith_0 (by decide) ?_
  refine j_istore_n C dX4_classWith_1 (by rw [hxn]; decide) ?_
  refine j_iconst C (nI 1) dX4_classWith_2 (by decide) ?_
  refine j_istore C dX4_classWith_3 (by rw [hxn]; decide) ?_
  refine j_iconst C (nI 0) dX4_classWith_5 (by decide) ?_
  refine j_istore C dX4_classWith_6 (by rw [hxn]; decide) ?_
  refine j_loop n (fun k => [(0, .ref a), (1, .ref t), (2, .ref v), (3, .int (rCls M a t v k)), (4, .int (rWorth k)), (5, .int (nI k))]) (fun _ => M) (fun _ => R) (fun _ => True) trivial (fun k hk _ ih => ?_) (fun _ => ?_)
  · skip
    refine j_iload C dX4_classWith_8 rfl ?_
    refine j_aload_n C dX4_classWith_10 rfl ?_
    refine j_getI C fl_X4_104 (by assumption) dX4_classWith_11 (by decide) rfl ?_
    refine j_top (nI n) (hc) ?_
    refine j_icmp_ge C 94 dX4_classWith_14 (by decide) (fun h => absurd h (nI_ge hk (by omega))) (fun _ => ?_)
    refine j_aload_n C dX4_classWith_17 rfl ?_
    refine j_getR C fl_X4_21 (by assumption) dX4_classWith_18 (by decide) rfl (by assumption) ?_
    refine j_aload_n C dX4_classWith_21 rfl ?_
    refine j_iload C dX4_classWith_22 rfl ?_
    refine j_cVi C (c_X5_columnAt _ _ _ _ _ (by assumption) _) yc_X5_columnAt mn_X4_77 im_X5_columnAt se_X5_columnAt rfl rfl dX4_classWith_24 rfl rfl (by assumption) (by decide) (Nat.le_of_ble_eq_true rfl) (by decide) ?_
    refine j_aload_n C dX4_classWith_27 rfl ?_
    refine j_iload C dX4_classWith_28 rfl ?_
    refine j_cVi C (c_X5_operatorAt _ _ _ _ _ (by assumption) _) yc_X5_operatorAt mn_X4_107 im_X5_operatorAt se_X5_operatorAt rfl rfl dX4_classWith_30 rfl rfl (by assumption) (by decide) (Nat.le_of_ble_eq_true rfl) (by decide) ?_
    refine j_aload_n C dX4_classWith_33 rfl ?_
    refine j_iload C dX4_classWith_34 rfl ?_
    refine j_cSi C (c_X9_at _ _ _ _ _ (by assumption) (by decide) _) yc_X9_at mn_X4_85 st_X9_at dX4_classWith_36 rfl rfl (Nat.le_of_ble_eq_true rfl) (by decide) ?_
    refine j_cVi C (c_X6_weightWhere _ _ _ _ _ (by assumption) _ _ _) yc_X6_weightWhere mn_X4_110 im_X6_weightWhere se_X6_weightWhere rfl rfl dX4_classWith_39 rfl rfl (by assumption) (by decide) (Nat.le_of_ble_eq_true rfl) (by decide) ?_
    refine j_istore C dX4_classWith_42 (by rw [hxn]; decide) ?_
    refine j_iload_n C dX4_classWith_44 rfl ?_
    refine j_iload C dX4_classWith_45 rfl ?_
    refine j_aload_n C dX4_classWith_47 rfl ?_
    refine j_aload_n C dX4_classWith_48 rfl ?_
    refine j_getR C fl_X4_21 (by assumption) dX4_classWith_49 (by decide) rfl (by assumption) ?_
    refine j_getI C fl_X4_114 (by assumption) dX4_classWith_52 (by decide) rfl ?_
    refine j_if_ne C 62 dX4_classWith_55 (by decide) (fun h55 => ?_) (fun h55 => ?_)
    · skip
      refine j_sipush C (nI 1000) dX4_classWith_62 (by decide) ?_
      refine j_iload C dX4_classWith_65 rfl ?_
      first | with_reducible refine j_imulN C dX4_classWith_67 ?_ | refine j_imul C dX4_classWith_67 ?_
      refine j_aload_n C dX4_classWith_68 rfl ?_
      refine j_getR C fl_X4_21 (by assumption) dX4_classWith_69 (by decide) rfl (by assumption) ?_
      refine j_getI C fl_X4_114 (by assumption) dX4_classWith_72 (by decide) rfl ?_
      refine j_idiv C dX4_classWith_75 (h55) ?_
      refine j_top (rShr M a t v k) (by simp [rShr, h55]) ?_
      refine j_cVi C (c_X4_classOfShare _ _ _ _ _ (by assumption) _) yc_X4_classOfShare mn_X4_117 im_X4_classOfShare se_X4_classOfShare rfl rfl dX4_classWith_76 rfl rfl (by assumption) (by decide) (Nat.le_of_ble_eq_true rfl) (by decide) ?_
      first | with_reducible refine j_imulN C dX4_classWith_79 ?_ | refine j_imul C dX4_classWith_79 ?_
      first | with_reducible refine j_iaddN C dX4_classWith_80 ?_ | refine j_iadd C dX4_classWith_80 ?_
      refine j_istore_n C dX4_classWith_81 (by rw [hxn]; decide) ?_
      refine j_iload C dX4_classWith_82 rfl ?_
      refine j_iconst C (nI 3) dX4_classWith_84 (by decide) ?_
      first | with_reducible refine j_imulN C dX4_classWith_85 ?_ | refine j_imul C dX4_classWith_85 ?_
      refine j_istore C dX4_classWith_86 (by rw [hxn]; decide) ?_
      first | refine j_iinc1 C dX4_classWith_88 rfl (by rw [hxn]; decide) ?_ | refine j_iinc C _ dX4_classWith_88 rfl rfl (by rw [hxn]; decide) ?_
      refine j_goto C 8 dX4_classWith_91 (by decide) ?_
      refine j_locs [0, 1, 2, 3, 4, 5] rfl ?_
      exact ih trivial
    · skip
      refine j_iconst C (nI 0) dX4_classWith_58 (by decide) ?_
      refine j_goto C 76 dX4_classWith_59 (by decide) ?_
      refine j_top (rShr M a t v k) (by simp [rShr, h55]) ?_
      refine j_cVi C (c_X4_classOfShare _ _ _ _ _ (by assumption) _) yc_X4_classOfShare mn_X4_117 im_X4_classOfShare se_X4_classOfShare rfl rfl dX4_classWith_76 rfl rfl (by assumption) (by decide) (Nat.le_of_ble_eq_true rfl) (by decide) ?_
      first | with_reducible refine j_imulN C dX4_classWith_79 ?_ | refine j_imul C dX4_classWith_79 ?_
      first | with_reducible refine j_iaddN C dX4_classWith_80 ?_ | refine j_iadd C dX4_classWith_80 ?_
      refine j_istore_n C dX4_classWith_81 (by rw [hxn]; decide) ?_
      refine j_iload C dX4_classWith_82 rfl ?_
      refine j_iconst C (nI 3) dX4_classWith_84 (by decide) ?_
      first | with_reducible refine j_imulN C dX4_classWith_85 ?_ | refine j_imul C dX4_classWith_85 ?_
      refine j_istore C dX4_classWith_86 (by rw [hxn]; decide) ?_
      first | refine j_iinc1 C dX4_classWith_88 rfl (by rw [hxn]; decide) ?_ | refine j_iinc C _ dX4_classWith_88 rfl rfl (by rw [hxn]; decide) ?_
      refine j_goto C 8 dX4_classWith_91 (by decide) ?_
      refine j_locs [0, 1, 2, 3, 4, 5] rfl ?_
      exact ih trivial
  · skip
    refine j_iload C dX4_classWith_8 rfl ?_
    refine j_aload_n C dX4_classWith_10 rfl ?_
    refine j_getI C fl_X4_104 (by assumption) dX4_classWith_11 (by decide) rfl ?_
    refine j_top (nI n) (hc) ?_
    refine j_icmp_ge C 94 dX4_classWith_14 (by decide) (fun _ => ?_) (fun h => absurd (Int32.le_refl _) h)
    refine j_iload_n C dX4_classWith_94 rfl ?_
    exact j_ireturn C E dX4_classWith_95 (rfl) (by decide) (by decide) (⟨rfl, rfl, rfl, rfl⟩)

set_option maxHeartbeats 4000000 in
set_option maxRecDepth 100000 in
theorem c_X4_bestWay (l : Launch) (ω : jW) (γ : jG) (M : jM) (R : jR) {a b t v n : Nat} (g0 : jAt ω γ a 4) (gb : gSums ω γ b) (gt : gStm ω γ t) (gv : jArr ω γ v 12 4) (hc : M t 2 = nI n) (hn : n ≤ 4) : Ct l ω yX4_bestWay cX4_bestWay 8 (some .int) 4 0 0 [.ref a, .ref b, .ref t, .ref v] γ M R (jx γ (some (.int (rBest M a b t v n))) M R) := by
  refine Ct_of (by decide) (Nat.le_of_ble_eq_true rfl) rfl (jcat_of rfl) ?_
  intro X C E hnm hxl hxn
  subst hxl
  have gt0 := gt.1
  have gb0 := gb.1
  refine j_bipush C (nI 9) dX4_bestWay_0 (by decide) ?_
  refine j_istore C dX4_bestWay_2 (by rw [hxn]; decide) ?_
  refine j_iconst C (nI 0) dX4_bestWay_4 (by decide) ?_
  refine j_istore C dX4_bestWay_5 (by rw [hxn]; decide) ?_
  refine j_iconst C (nI 0) dX4_bestWay_7 (by decide) ?_
  refine j_istore C dX4_bestWay_8 (by rw [hxn]; decide) ?_
  refine j_loop n (fun k => [(0, .ref a), (1, .ref b), (2, .ref t), (3, .ref v), (4, .int (rBW M a b t v k).1), (5, .int (rBW M a b t v k).2), (6, .int (nI k))]) (fun _ => M) (fun _ => R) (fun _ => True) trivial (fun k hk _ ih => ?_) (fun _ => ?_)
  · skip
    refine j_iload C dX4_bestWay_10 rfl ?_
    refine j_aload_n C dX4_bestWay_12 rfl ?_
    refine j_getI C fl_X4_104 (by assumption) dX4_bestWay_13 (by decide) rfl ?_
    refine j_top (nI n) (hc) ?_
    refine j_icmp_ge C 70 dX4_bestWay_16 (by decide) (fun h => absurd h (nI_ge hk (by omega))) (fun _ => ?_)
    refine j_aload_n C dX4_bestWay_19 rfl ?_
    refine j_aload_n C dX4_bestWay_20 rfl ?_
    refine j_iload C dX4_bestWay_21 rfl ?_
    refine j_cVi C (c_X5_columnAt _ _ _ _ _ (by assumption) _) yc_X5_columnAt mn_X4_77 im_X5_columnAt se_X5_columnAt rfl rfl dX4_bestWay_23 rfl rfl (by assumption) (by decide) (Nat.le_of_ble_eq_true rfl) (by decide) ?_
    refine j_cVi C (c_X4_isIndexed _ _ _ _ _ (by assumption) _) yc_X4_isIndexed mn_X4_120 im_X4_isIndexed se_X4_isIndexed rfl rfl dX4_bestWay_26 rfl rfl (by assumption) (by decide) (Nat.le_of_ble_eq_true rfl) (by decide) ?_
    refine j_if_eq C 64 dX4_bestWay_29 (by decide) (fun h29 => ?_) (fun h29 => ?_)
    · skip
      have e : rBW M a b t v (k + 1) = rBW M a b t v k := by simp [rBW, h29]
      first | refine j_iinc1 C dX4_bestWay_64 rfl (by rw [hxn]; decide) ?_ | refine j_iinc C _ dX4_bestWay_64 rfl rfl (by rw [hxn]; decide) ?_
      refine j_goto C 10 dX4_bestWay_67 (by decide) ?_
      have hI := ih trivial
      rw [e] at hI
      first | exact hI | (refine j_locs [0, 1, 2, 3, 4, 5, 6] rfl ?_; exact hI)
    · skip
      refine j_aload_n C dX4_bestWay_32 rfl ?_
      refine j_aload_n C dX4_bestWay_33 rfl ?_
      refine j_aload_n C dX4_bestWay_34 rfl ?_
      refine j_iload C dX4_bestWay_35 rfl ?_
      refine j_cSi C (c_X9_cost _ _ _ _ _ (by assumption) (by assumption) (by assumption) _) yc_X9_cost mn_X4_124 st_X9_cost dX4_bestWay_37 rfl rfl (Nat.le_of_ble_eq_true rfl) (by decide) ?_
      refine j_istore C dX4_bestWay_40 (by rw [hxn]; decide) ?_
      refine j_iload C dX4_bestWay_42 rfl ?_
      refine j_bipush C (nI 9) dX4_bestWay_44 (by decide) ?_
      refine j_icmp_eq C 56 dX4_bestWay_46 (by decide) (fun h46 => ?_) (fun h46 => ?_)
      · skip
        have e : rBW M a b t v (k + 1) = (nI k, rCost M b t v (nI k)) := by simp [rBW, h29, h46]
        refine j_iload C dX4_bestWay_56 rfl ?_
        refine j_istore C dX4_bestWay_58 (by rw [hxn]; decide) ?_
        refine j_iload C dX4_bestWay_60 rfl ?_
        refine j_istore C dX4_bestWay_62 (by rw [hxn]; decide) ?_
        first | refine j_iinc1 C dX4_bestWay_64 rfl (by rw [hxn]; decide) ?_ | refine j_iinc C _ dX4_bestWay_64 rfl rfl (by rw [hxn]; decide) ?_
        refine j_goto C 10 dX4_bestWay_67 (by decide) ?_
        have hI := ih trivial
        rw [e] at hI
        first | exact hI | (refine j_locs [0, 1, 2, 3, 4, 5, 6] rfl ?_; exact hI)
      · skip
        refine j_iload C dX4_bestWay_49 rfl ?_
        refine j_iload C dX4_bestWay_51 rfl ?_
        refine j_icmp_ge C 64 dX4_bestWay_53 (by decide) (fun h53 => ?_) (fun h53 => ?_)
        · skip
          have e : rBW M a b t v (k + 1) = rBW M a b t v k := by simp [rBW, h29, h46, h53]
          first | refine j_iinc1 C dX4_bestWay_64 rfl (by rw [hxn]; decide) ?_ | refine j_iinc C _ dX4_bestWay_64 rfl rfl (by rw [hxn]; decide) ?_
          refine j_goto C 10 dX4_bestWay_67 (by decide) ?_
          have hI := ih trivial
          rw [e] at hI
          first | exact hI | (refine j_locs [0, 1, 2, 3, 4, 5, 6] rfl ?_; exact hI)
        · skip
          have e : rBW M a b t v (k + 1) = (nI k, rCost M b t v (nI k)) := by simp [rBW, h29, h46, h53]
          refine j_iload C dX4_bestWay_56 rfl ?_
          refine j_istore C dX4_bestWay_58 (by rw [hxn]; decide) ?_
          refine j_iload C dX4_bestWay_60 rfl ?_
          refine j_istore C dX4_bestWay_62 (by rw [hxn]; decide) ?_
          first | refine j_iinc1 C dX4_bestWay_64 rfl (by rw [hxn]; decide) ?_ | refine j_iinc C _ dX4_bestWay_64 rfl rfl (by rw [hxn]; decide) ?_
          refine j_goto C 10 dX4_bestWay_67 (by decide) ?_
          have hI := ih trivial
          rw [e] at hI
          first | exact hI | (refine j_locs [0, 1, 2, 3, 4, 5, 6] rfl ?_; exact hI)
  · skip
    refine j_iload C dX4_bestWay_10 rfl ?_
    refine j_aload_n C dX4_bestWay_12 rfl ?_
    refine j_getI C fl_X4_104 (by assumption) dX4_bestWay_13 (by decide) rfl ?_
    refine j_top (nI n) (hc) ?_
    refine j_icmp_ge C 70 dX4_bestWay_16 (by decide) (fun _ => ?_) (fun h => absurd (Int32.le_refl _) h)
    refine j_aload_n C dX4_bestWay_70 rfl ?_
    refine j_getI C fl_X4_114 (by assumption) dX4_bestWay_71 (by decide) rfl ?_
    refine j_iload C dX4_bestWay_74 rfl ?_
    refine j_icmp_ge C 84 dX4_bestWay_76 (by decide) (fun h76 => ?_) (fun h76 => ?_)
    · skip
      refine j_iload C dX4_bestWay_84 rfl ?_
      exact j_ireturn C E dX4_bestWay_86 (rfl) (by decide) (by decide) (⟨by simp only [rBest, if_pos h76], rfl, rfl, rfl⟩)
    · skip
      refine j_bipush C (nI 9) dX4_bestWay_79 (by decide) ?_
      refine j_goto C 86 dX4_bestWay_81 (by decide) ?_
      exact j_ireturn C E dX4_bestWay_86 (rfl) (by decide) (by decide) (⟨by simp only [rBest, if_neg h76], rfl, rfl, rfl⟩)
