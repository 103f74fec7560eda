set_option maxHeartbeats 4000000 in
set_option maxRecDepth 100000 in
theorem c_X9_rowOf (l : Launch) (ω : jW) (γ : jG) (M : jM) (R : jR) {x a h T v : Nat} (g : gX ω γ x a h T v) {nh n c r len : Nat} (H : CB M R a h T nh n c r len) (p w : Int32) : Ct l ω yX9_rowOf cX9_rowOf 3 (some .int) 5 0 0 [.ref x, .int p, .int w] γ M R (jx γ (some (.int (fRowOf M a p w))) M R) := by
  refine Ct_of (by decide) (Nat.le_of_ble_eq_true rfl) rfl (jcat_of rfl) ?_
  intro X C E hnm hxl hxn
  subst hxl
  have g0g := g
  obtain ⟨x0, xa, ga, xh, gh, xT, gT, xv, gv, d1, d2, d3, d4⟩ := g
  have ga0 := ga.1
  have gh0 := gh.1
  have gT0 := gT.1
  have p0 : jP γ a 0 = some (a + 1) := ga.2.1
  have gt : gTable ω γ (a + 1) := ga.2.2.1
  have gt0 := gt.1
  have p1 : jP γ a 1 = some (a + 5) := ga.2.2.2.1
  have gs : gSums ω γ (a + 5) := ga.2.2.2.2.1
  have gs0 := gs.1
  have p4 : jP γ a 4 = some (a + 11) := ga.2.2.2.2.2.2.2.2.2.1
  have gS : gShelf ω γ (a + 11) := ga.2.2.2.2.2.2.2.2.2.2.1
  have gS0 := gS.1
  have p5 : jP γ a 5 = some (a + 22) := ga.2.2.2.2.2.2.2.2.2.2.2.1
  have gl : gLast ω γ (a + 22) := ga.2.2.2.2.2.2.2.2.2.2.2.2.1
  have gl0 := gl.1
  have gl1 : jP γ (a + 22) 0 = some (a + 23) := gl.2.1
  have gl2 : jArr ω γ (a + 23) 12 4 := gl.2.2
  have p6 : jP γ a 6 = some (a + 24) := ga.2.2.2.2.2.2.2.2.2.2.2.2.2.1
  have gc : jArr ω γ (a + 24) 12 5 := ga.2.2.2.2.2.2.2.2.2.2.2.2.2.2.1
  have gtp : jP γ (a + 1) 1 = some (a + 3) := gt.2.2.2.1
  have gu : gSums ω γ (a + 3) := gt.2.2.2.2
  have gu0 := gu.1
  obtain ⟨HI, hkp, hn, hc, hc6, hr, hr30, hT, hl, hl30, hcs, hlr⟩ := H
  have ss := HI.2.2.2.1.1
  have hs := HI.2.2.2.1.2.1
  refine j_aload_n C dX9_rowOf_0 rfl ?_
  refine j_getR C fl_X9_10 (by assumption) dX9_rowOf_1 (by decide) rfl (by assumption) ?_
  refine j_getR C fl_X9_42 (by assumption) dX9_rowOf_4 (by decide) rfl (by assumption) ?_
  refine j_iload_n C dX9_rowOf_7 rfl ?_
  refine j_cVi C (c_X7_hasRow _ _ _ _ _ (by assumption) _) yc_X7_hasRow mn_X9_63 im_X7_hasRow se_X7_hasRow rfl rfl dX9_rowOf_8 rfl rfl (by assumption) (by decide) (Nat.le_of_ble_eq_true rfl) (by decide) ?_
  refine j_if_eq C 23 dX9_rowOf_11 (by decide) (fun h11 => ?_) (fun h11 => ?_)
  · skip
    refine j_iconst C (-1) dX9_rowOf_23 (by decide) ?_
    exact j_ireturn C E dX9_rowOf_24 (rfl) (by decide) (by decide) (⟨by simp only [fRowOf, if_pos h11], rfl, rfl, rfl⟩)
  · skip
    refine j_iload_n C dX9_rowOf_14 rfl ?_
    refine j_iconst C (nI 0) dX9_rowOf_15 (by decide) ?_
    refine j_iconst C (nI 4) dX9_rowOf_16 (by decide) ?_
    refine j_cSi C (c_X9_within _ _ _ _ _ _ _ _) yc_X9_within mn_X9_38 st_X9_within dX9_rowOf_17 rfl rfl (Nat.le_of_ble_eq_true rfl) (by decide) ?_
    refine j_if_ne C 25 dX9_rowOf_20 (by decide) (fun h20 => ?_) (fun h20 => ?_)
    · skip
      refine j_aload_n C dX9_rowOf_25 rfl ?_
      refine j_getR C fl_X9_10 (by assumption) dX9_rowOf_26 (by decide) rfl (by assumption) ?_
      refine j_getR C fl_X9_42 (by assumption) dX9_rowOf_29 (by decide) rfl (by assumption) ?_
      refine j_iload_n C dX9_rowOf_32 rfl ?_
      refine j_iload_n C dX9_rowOf_33 rfl ?_
      refine j_cVi C (c_X7_cellAt _ _ _ _ _ (by assumption) _ _) yc_X7_cellAt mn_X9_99 im_X7_cellAt se_X7_cellAt rfl rfl dX9_rowOf_34 rfl rfl (by assumption) (by decide) (Nat.le_of_ble_eq_true rfl) (by decide) ?_
      exact j_ireturn C E dX9_rowOf_37 (rfl) (by decide) (by decide) (⟨by simp only [fRowOf, if_neg h11, if_neg h20], rfl, rfl, rfl⟩)
    · skip
      refine j_iconst C (-1) dX9_rowOf_23 (by decide) ?_
      exact j_ireturn C E dX9_rowOf_24 (rfl) (by decide) (by decide) (⟨by simp only [fRowOf, if_neg h11, if_pos h20], rfl, rfl, rfl⟩)

set_option maxHeartbeats 4000000 in
set_option maxRecDepth 100000 in
theorem c_X9_known (l : Launch) (ω : jW) (γ : jG) (M : jM) (R : jR) {x a h T v : Nat} (g : gX ω γ x a h T v) {nh n c r len : Nat} (H : CB M R a h T nh n c r len) (c9 w : Int32) : Ct l ω yX9_known cX9_known 3 (some .int) 5 0 0 [.ref x, .int c9, .int w] γ M R (jx γ (some (.int (fKnown M a c9 w))) M R) := by
  refine Ct_of (by decide) (Nat.le_of_ble_eq_true rfl) rfl (jcat_of rfl) ?_
  intro X C E hnm hxl hxn
  subst hxl
  have g0g := g
  obtain ⟨x0, xa, ga, xh, gh, xT, gT, xv, gv, d1, d2, d3, d4⟩ := g
  have ga0 := ga.1
  have gh0 := gh.1
  have gT0 := gT.1
  have p0 : jP γ a 0 = some (a + 1) := ga.2.1
  have gt : gTable ω γ (a + 1) := ga.2.2.1
  have gt0 := gt.1
  have p1 : jP γ a 1 = some (a + 5) := ga.2.2.2.1
  have gs : gSums ω γ (a + 5) := ga.2.2.2.2.1
  have gs0 := gs.1
  have p4 : jP γ a 4 = some (a + 11) := ga.2.2.2.2.2.2.2.2.2.1
  have gS : gShelf ω γ (a + 11) := ga.2.2.2.2.2.2.2.2.2.2.1
  have gS0 := gS.1
  have p5 : jP γ a 5 = some (a + 22) := ga.2.2.2.2.2.2.2.2.2.2.2.1
  have gl : gLast ω γ (a + 22) := ga.2.2.2.2.2.2.2.2.2.2.2.2.1
  have gl0 := gl.1
  have gl1 : jP γ (a + 22) 0 = some (a + 23) := gl.2.1
  have gl2 : jArr ω γ (a + 23) 12 4 := gl.2.2
  have p6 : jP γ a 6 = some (a + 24) := ga.2.2.2.2.2.2.2.2.2.2.2.2.2.1
  have gc : jArr ω γ (a + 24) 12 5 := ga.2.2.2.2.2.2.2.2.2.2.2.2.2.2.1
  have gtp : jP γ (a + 1) 1 = some (a + 3) := gt.2.2.2.1
  have gu : gSums ω γ (a + 3) := gt.2.2.2.2
  have gu0 := gu.1
  obtain ⟨HI, hkp, hn, hc, hc6, hr, hr30, hT, hl, hl30, hcs, hlr⟩ := H
  have ss := HI.2.2.2.1.1
  have hs := HI.2.2.2.1.2.1
  refine j_iload_n C dX9_known_0 rfl ?_
  refine j_cSi C (c_X9_isColumn _ _ _ _ _ _) yc_X9_isColumn mn_X9_70 st_X9_isColumn dX9_known_1 rfl rfl (Nat.le_of_ble_eq_true rfl) (by decide) ?_
  refine j_if_eq C 14 dX9_known_4 (by decide) (fun h4 => ?_) (fun h4 => ?_)
  · skip
    refine j_iconst C (-1) dX9_known_14 (by decide) ?_
    exact j_ireturn C E dX9_known_15 (rfl) (by decide) (by decide) (⟨by simp only [fKnown, if_pos h4], rfl, rfl, rfl⟩)
  · skip
    refine j_iload_n C dX9_known_7 rfl ?_
    refine j_cSi C (c_X9_isValue _ _ _ _ _ _) yc_X9_isValue mn_X9_34 st_X9_isValue dX9_known_8 rfl rfl (Nat.le_of_ble_eq_true rfl) (by decide) ?_
    refine j_if_ne C 16 dX9_known_11 (by decide) (fun h11 => ?_) (fun h11 => ?_)
    · skip
      refine j_aload_n C dX9_known_16 rfl ?_
      refine j_getR C fl_X9_10 (by assumption) dX9_known_17 (by decide) rfl (by assumption) ?_
      refine j_getR C fl_X9_83 (by assumption) dX9_known_20 (by decide) rfl (by assumption) ?_
      refine j_iload_n C dX9_known_23 rfl ?_
      refine j_iload_n C dX9_known_24 rfl ?_
      refine j_cVi C (c_X6_weightOf _ _ _ _ _ (by assumption) _ _) yc_X6_weightOf mn_X9_103 im_X6_weightOf se_X6_weightOf rfl rfl dX9_known_25 rfl rfl (by assumption) (by decide) (Nat.le_of_ble_eq_true rfl) (by decide) ?_
      exact j_ireturn C E dX9_known_28 (rfl) (by decide) (by decide) (⟨by simp only [fKnown, if_neg h4, if_neg h11], rfl, rfl, rfl⟩)
    · skip
      refine j_iconst C (-1) dX9_known_14 (by decide) ?_
      exact j_ireturn C E dX9_known_15 (rfl) (by decide) (by decide) (⟨by simp only [fKnown, if_neg h4, if_pos h11], rfl, rfl, rfl⟩)

set_option maxHeartbeats 4000000 in
set_option maxRecDepth 100000 in
theorem c_X9_statementOf (l : Launch) (ω : jW) (γ : jG) (M : jM) (R : jR) {x a h T v : Nat} (g : gX ω γ x a h T v) {nh n c r len : Nat} (H : CB M R a h T nh n c r len) (s w : Int32) : Ct l ω yX9_statementOf cX9_statementOf 4 (some .int) 5 0 0 [.ref x, .int s, .int w] γ M R (jx γ (some (.int (fStOf M R a n s w))) M R) := by
  refine Ct_of (by decide) (Nat.le_of_ble_eq_true rfl) rfl (jcat_of rfl) ?_
  intro X C E hnm hxl hxn
  subst hxl
  have g0g := g
  obtain ⟨x0, xa, ga, xh, gh, xT, gT, xv, gv, d1, d2, d3, d4⟩ := g
  have ga0 := ga.1
  have gh0 := gh.1
  have gT0 := gT.1
  have p0 : jP γ a 0 = some (a + 1) := ga.2.1
  have gt : gTable ω γ (a + 1) := ga.2.2.1
  have gt0 := gt.1
  have p1 : jP γ a 1 = some (a + 5) := ga.2.2.2.1
  have gs : gSums ω γ (a + 5) := ga.2.2.2.2.1
  have gs0 := gs.1
  have p4 : jP γ a 4 = some (a + 11) := ga.2.2.2.2.2.2.2.2.2.1
  have gS : gShelf ω γ (a + 11) := ga.2.2.2.2.2.2.2.2.2.2.1
  have gS0 := gS.1
  have p5 : jP γ a 5 = some (a + 22) := ga.2.2.2.2.2.2.2.2.2.2.2.1
  have gl : gLast ω γ (a + 22) := ga.2.2.2.2.2.2.2.2.2.2.2.2.1
  have gl0 := gl.1
  have gl1 : jP γ (a + 22) 0 = some (a + 23) := gl.2.1
  have gl2 : jArr ω γ (a + 23) 12 4 := gl.2.2
  have p6 : jP γ a 6 = some (a + 24) := ga.2.2.2.2.2.2.2.2.2.2.2.2.2.1
  have gc : jArr ω γ (a + 24) 12 5 := ga.2.2.2.2.2.2.2.2.2.2.2.2.2.2.1
  have gtp : jP γ (a + 1) 1 = some (a + 3) := gt.2.2.2.1
  have gu : gSums ω γ (a + 3) := gt.2.2.2.2
  have gu0 := gu.1
  obtain ⟨HI, hkp, hn, hc, hc6, hr, hr30, hT, hl, hl30, hcs, hlr⟩ := H
  have ss := HI.2.2.2.1.1
  have hs := HI.2.2.2.1.2.1
  have gk := rSA_g ga s
  have gk0 := gk.1
  refine j_aload_n C dX9_statementOf_0 rfl ?_
  refine j_getR C fl_X9_10 (by assumption) dX9_statementOf_1 (by decide) rfl (by assumption) ?_
  refine j_iload_n C dX9_statementOf_4 rfl ?_
  refine j_cVi C (c_X4_hasStatement _ _ _ _ _ (by assumption) _) yc_X4_hasStatement mn_X9_120 im_X4_hasStatement se_X4_hasStatement rfl rfl dX9_statementOf_5 rfl rfl (by assumption) (by decide) (Nat.le_of_ble_eq_true rfl) (by decide) ?_
  refine j_if_ne C 13 dX9_statementOf_8 (by decide) (fun h8 => ?_) (fun h8 => ?_)
  · skip
    refine j_aload_n C dX9_statementOf_13 rfl ?_
    refine j_getR C fl_X9_10 (by assumption) dX9_statementOf_14 (by decide) rfl (by assumption) ?_
    refine j_iload_n C dX9_statementOf_17 rfl ?_
    refine j_cVr C (c_X4_statementAt _ _ _ _ _ (by assumption) (by assumption) _) yc_X4_statementAt mn_X9_123 im_X4_statementAt se_X4_statementAt rfl rfl dX9_statementOf_18 rfl rfl (by assumption) (by decide) (Nat.le_of_ble_eq_true rfl) (by decide) ?_
    refine j_astore_n C dX9_statementOf_21 (by rw [hxn]; decide) ?_
    refine j_iload_n C dX9_statementOf_22 rfl ?_
    by_cases s23_0 : w = nI 0
    · skip
      refine j_tableIn C 0 132 dX9_statementOf_23 (by rw [s23_0]; decide) (by decide) rfl (by decide) ?_
      refine j_aload_n C dX9_statementOf_132 rfl ?_
      refine j_getI C fl_X9_127 (by assumption) dX9_statementOf_133 (by decide) rfl ?_
      exact j_ireturn C E dX9_statementOf_136 (rfl) (by decide) (by decide) (⟨by simp only [fStOf, if_neg h8, if_pos s23_0], rfl, rfl, rfl⟩)
    by_cases s23_1 : w = nI 1
    · skip
      refine j_tableIn C 1 137 dX9_statementOf_23 (by rw [s23_1]; decide) (by decide) rfl (by decide) ?_
      refine j_aload_n C dX9_statementOf_137 rfl ?_
      refine j_getR C fl_X9_10 (by assumption) dX9_statementOf_138 (by decide) rfl (by assumption) ?_
      refine j_getR C fl_X9_132 (by assumption) dX9_statementOf_141 (by decide) rfl (by assumption) ?_
      refine j_iload_n C dX9_statementOf_144 rfl ?_
      refine j_cVi C (c_X3_keptFor _ ω γ M R gS hs hkp hn s) yc_X3_keptFor mn_X9_136 im_X3_keptFor se_X3_keptFor rfl rfl dX9_statementOf_145 rfl rfl (by assumption) (by decide) (Nat.le_of_ble_eq_true rfl) (by decide) ?_
      exact j_ireturn C E dX9_statementOf_148 (rfl) (by decide) (by decide) (⟨by simp only [fStOf, if_neg h8, if_neg s23_0, if_pos s23_1], rfl, rfl, rfl⟩)
    by_cases s23_2 : w = nI 2
    · skip
      refine j_tableIn C 2 149 dX9_statementOf_23 (by rw [s23_2]; decide) (by decide) rfl (by decide) ?_
      refine j_aload_n C dX9_statementOf_149 rfl ?_
      refine j_getI C fl_X9_141 (by assumption) dX9_statementOf_150 (by decide) rfl ?_
      exact j_ireturn C E dX9_statementOf_153 (rfl) (by decide) (by decide) (⟨by simp only [fStOf, if_neg h8, if_neg s23_0, if_neg s23_1, if_pos s23_2], rfl, rfl, rfl⟩)
    by_cases s23_3 : w = nI 3
    · skip
      refine j_tableIn C 3 204 dX9_statementOf_23 (by rw [s23_3]; decide) (by decide) rfl (by decide) ?_
      refine j_iconst C (-1) dX9_statementOf_204 (by decide) ?_
      exact j_ireturn C E dX9_statementOf_205 (rfl) (by decide) (by decide) (⟨by simp only [fStOf, if_neg h8, if_neg s23_0, if_neg s23_1, if_neg s23_2, if_pos s23_3], rfl, rfl, rfl⟩)
    by_cases s23_4 : w = nI 4
    · skip
      refine j_tableIn C 4 204 dX9_statementOf_23 (by rw [s23_4]; decide) (by decide) rfl (by decide) ?_
      refine j_iconst C (-1) dX9_statementOf_204 (by decide) ?_
      exact j_ireturn C E dX9_statementOf_205 (rfl) (by decide) (by decide) (⟨by simp only [fStOf, if_neg h8, if_neg s23_0, if_neg s23_1, if_neg s23_2, if_neg s23_3, if_pos s23_4], rfl, rfl, rfl⟩)
    by_cases s23_5 : w = nI 5
    · skip
      refine j_tableIn C 5 204 dX9_statementOf_23 (by rw [s23_5]; decide) (by decide) rfl (by decide) ?_
      refine j_iconst C (-1) dX9_statementOf_204 (by decide) ?_
      exact j_ireturn C E dX9_statementOf_205 (rfl) (by decide) (by decide) (⟨by simp only [fStOf, if_neg h8, if_neg s23_0, if_neg s23_1, if_neg s23_2, if_neg s23_3, if_neg s23_4, if_pos s23_5], rfl, rfl, rfl⟩)
    by_cases s23_6 : w = nI 6
    · skip
      refine j_tableIn C 6 204 dX9_statementOf_23 (by rw [s23_6]; decide) (by decide) rfl (by decide) ?_
      refine j_iconst C (-1) dX9_statementOf_204 (by decide) ?_
      exact j_ireturn C E dX9_statementOf_205 (rfl) (by decide) (by decide) (⟨by simp only [fStOf, if_neg h8, if_neg s23_0, if_neg s23_1, if_neg s23_2, if_neg s23_3, if_neg s23_4, if_neg s23_5, if_pos s23_6], rfl, rfl, rfl⟩)
    by_cases s23_7 : w = nI 7
    · skip
      refine j_tableIn C 7 204 dX9_statementOf_23 (by rw [s23_7]; decide) (by decide) rfl (by decide) ?_
      refine j_iconst C (-1) dX9_statementOf_204 (by decide) ?_
      exact j_ireturn C E dX9_statementOf_205 (rfl) (by decide) (by decide) (⟨by simp only [fStOf, if_neg h8, if_neg s23_0, if_neg s23_1, if_neg s23_2, if_neg s23_3, if_neg s23_4, if_neg s23_5, if_neg s23_6, if_pos s23_7], rfl, rfl, rfl⟩)
    by_cases s23_8 : w = nI 8
    · skip
      refine j_tableIn C 8 204 dX9_statementOf_23 (by rw [s23_8]; decide) (by decide) rfl (by decide) ?_
      refine j_iconst C (-1) dX9_statementOf_204 (by decide) ?_
      exact j_ireturn C E dX9_statementOf_205 (rfl) (by decide) (by decide) (⟨by simp only [fStOf, if_neg h8, if_neg s23_0, if_neg s23_1, if_neg s23_2, if_neg s23_3, if_neg s23_4, if_neg s23_5, if_neg s23_6, if_neg s23_7, if_pos s23_8], rfl, rfl, rfl⟩)
    by_cases s23_9 : w = nI 9
    · skip
      refine j_tableIn C 9 204 dX9_statementOf_23 (by rw [s23_9]; decide) (by decide) rfl (by decide) ?_
      refine j_iconst C (-1) dX9_statementOf_204 (by decide) ?_
      exact j_ireturn C E dX9_statementOf_205 (rfl) (by decide) (by decide) (⟨by simp only [fStOf, if_neg h8, if_neg s23_0, if_neg s23_1, if_neg s23_2, if_neg s23_3, if_neg s23_4, if_neg s23_5, if_neg s23_6, if_neg s23_7, if_neg s23_8, if_pos s23_9], rfl, rfl, rfl⟩)
    by_cases s23_10 : w = nI 10
    · skip
      refine j_tableIn C 10 154 dX9_statementOf_23 (by rw [s23_10]; decide) (by decide) rfl (by decide) ?_
      refine j_aload_n C dX9_statementOf_154 rfl ?_
      refine j_iload_n C dX9_statementOf_155 rfl ?_
      refine j_bipush C (nI 10) dX9_statementOf_156 (by decide) ?_
      refine j_isub C dX9_statementOf_158 ?_
      refine j_cVi C (c_X5_hasCondition _ _ _ _ _ (by assumption) _) yc_X5_hasCondition mn_X9_144 im_X5_hasCondition se_X5_hasCondition rfl rfl dX9_statementOf_159 rfl rfl (by assumption) (by decide) (Nat.le_of_ble_eq_true rfl) (by decide) ?_
      refine j_if_eq C 176 dX9_statementOf_162 (by decide) (fun h162 => ?_) (fun h162 => ?_)
      · skip
        refine j_bipush C (-4) dX9_statementOf_176 (by decide) ?_
        exact j_ireturn C E dX9_statementOf_178 (rfl) (by decide) (by decide) (⟨by simp only [fStOf, if_neg h8, if_neg s23_0, if_neg s23_1, if_neg s23_2, if_neg s23_3, if_neg s23_4, if_neg s23_5, if_neg s23_6, if_neg s23_7, if_neg s23_8, if_neg s23_9, if_pos s23_10, if_pos h162], rfl, rfl, rfl⟩)
      · skip
        refine j_aload_n C dX9_statementOf_165 rfl ?_
        refine j_iload_n C dX9_statementOf_166 rfl ?_
        refine j_bipush C (nI 10) dX9_statementOf_167 (by decide) ?_
        refine j_isub C dX9_statementOf_169 ?_
        refine j_cVi C (c_X5_columnAt _ _ _ _ _ (by assumption) _) yc_X5_columnAt mn_X9_147 im_X5_columnAt se_X5_columnAt rfl rfl dX9_statementOf_170 rfl rfl (by assumption) (by decide) (Nat.le_of_ble_eq_true rfl) (by decide) ?_
        refine j_goto C 178 dX9_statementOf_173 (by decide) ?_
        exact j_ireturn C E dX9_statementOf_178 (rfl) (by decide) (by decide) (⟨by simp only [fStOf, if_neg h8, if_neg s23_0, if_neg s23_1, if_neg s23_2, if_neg s23_3, if_neg s23_4, if_neg s23_5, if_neg s23_6, if_neg s23_7, if_neg s23_8, if_neg s23_9, if_pos s23_10, if_neg h162], rfl, rfl, rfl⟩)
    by_cases s23_11 : w = nI 11
    · skip
      refine j_tableIn C 11 154 dX9_statementOf_23 (by rw [s23_11]; decide) (by decide) rfl (by decide) ?_
      refine j_aload_n C dX9_statementOf_154 rfl ?_
      refine j_iload_n C dX9_statementOf_155 rfl ?_
      refine j_bipush C (nI 10) dX9_statementOf_156 (by decide) ?_
      refine j_isub C dX9_statementOf_158 ?_
      refine j_cVi C (c_X5_hasCondition _ _ _ _ _ (by assumption) _) yc_X5_hasCondition mn_X9_144 im_X5_hasCondition se_X5_hasCondition rfl rfl dX9_statementOf_159 rfl rfl (by assumption) (by decide) (Nat.le_of_ble_eq_true rfl) (by decide) ?_
      refine j_if_eq C 176 dX9_statementOf_162 (by decide) (fun h162 => ?_) (fun h162 => ?_)
      · skip
        refine j_bipush C (-4) dX9_statementOf_176 (by decide) ?_
        exact j_ireturn C E dX9_statementOf_178 (rfl) (by decide) (by decide) (⟨by simp only [fStOf, if_neg h8, if_neg s23_0, if_neg s23_1, if_neg s23_2, if_neg s23_3, if_neg s23_4, if_neg s23_5, if_neg s23_6, if_neg s23_7, if_neg s23_8, if_neg s23_9, if_neg s23_10, if_pos s23_11, if_pos h162], rfl, rfl, rfl⟩)
      · skip
        refine j_aload_n C dX9_statementOf_165 rfl ?_
        refine j_iload_n C dX9_statementOf_166 rfl ?_
        refine j_bipush C (nI 10) dX9_statementOf_167 (by decide) ?_
        refine j_isub C dX9_statementOf_169 ?_
        refine j_cVi C (c_X5_columnAt _ _ _ _ _ (by assumption) _) yc_X5_columnAt mn_X9_147 im_X5_columnAt se_X5_columnAt rfl rfl dX9_statementOf_170 rfl rfl (by assumption) (by decide) (Nat.le_of_ble_eq_true rfl) (by decide) ?_
        refine j_goto C 178 dX9_statementOf_173 (by decide) ?_
        exact j_ireturn C E dX9_statementOf_178 (rfl) (by decide) (by decide) (⟨by simp only [fStOf, if_neg h8, if_neg s23_0, if_neg s23_1, if_neg s23_2, if_neg s23_3, if_neg s23_4, if_neg s23_5, if_neg s23_6, if_neg s23_7, if_neg s23_8, if_neg s23_9, if_neg s23_10, if_pos s23_11, if_neg h162], rfl, rfl, rfl⟩)
    by_cases s23_12 : w = nI 12
    · skip
      refine j_tableIn C 12 154 dX9_statementOf_23 (by rw [s23_12]; decide) (by decide) rfl (by decide) ?_
      refine j_aload_n C dX9_statementOf_154 rfl ?_
      refine j_iload_n C dX9_statementOf_155 rfl ?_
      refine j_bipush C (nI 10) dX9_statementOf_156 (by decide) ?_
      refine j_isub C dX9_statementOf_158 ?_
      refine j_cVi C (c_X5_hasCondition _ _ _ _ _ (by assumption) _) yc_X5_hasCondition mn_X9_144 im_X5_hasCondition se_X5_hasCondition rfl rfl dX9_statementOf_159 rfl rfl (by assumption) (by decide) (Nat.le_of_ble_eq_true rfl) (by decide) ?_
      refine j_if_eq C 176 dX9_statementOf_162 (by decide) (fun h162 => ?_) (fun h162 => ?_)
      · skip
        refine j_bipush C (-4) dX9_statementOf_176 (by decide) ?_
        exact j_ireturn C E dX9_statementOf_178 (rfl) (by decide) (by decide) (⟨by simp only [fStOf, if_neg h8, if_neg s23_0, if_neg s23_1, if_neg s23_2, if_neg s23_3, if_neg s23_4, if_neg s23_5, if_neg s23_6, if_neg s23_7, if_neg s23_8, if_neg s23_9, if_neg s23_10, if_neg s23_11, if_pos s23_12, if_pos h162], rfl, rfl, rfl⟩)
      · skip
        refine j_aload_n C dX9_statementOf_165 rfl ?_
        refine j_iload_n C dX9_statementOf_166 rfl ?_
        refine j_bipush C (nI 10) dX9_statementOf_167 (by decide) ?_
        refine j_isub C dX9_statementOf_169 ?_
        refine j_cVi C (c_X5_columnAt _ _ _ _ _ (by assumption) _) yc_X5_columnAt mn_X9_147 im_X5_columnAt se_X5_columnAt rfl rfl dX9_statementOf_170 rfl rfl (by assumption) (by decide) (Nat.le_of_ble_eq_true rfl) (by decide) ?_
        refine j_goto C 178 dX9_statementOf_173 (by decide) ?_
        exact j_ireturn C E dX9_statementOf_178 (rfl) (by decide) (by decide) (⟨by simp only [fStOf, if_neg h8, if_neg s23_0, if_neg s23_1, if_neg s23_2, if_neg s23_3, if_neg s23_4, if_neg s23_5, if_neg s23_6, if_neg s23_7, if_neg s23_8, if_neg s23_9, if_neg s23_10, if_neg s23_11, if_pos s23_12, if_neg h162], rfl, rfl, rfl⟩)
    by_cases s23_13 : w = nI 13
    · skip
      refine j_tableIn C 13 154 dX9_statementOf_23 (by rw [s23_13]; decide) (by decide) rfl (by decide) ?_
      refine j_aload_n C dX9_statementOf_154 rfl ?_
      refine j_iload_n C dX9_statementOf_155 rfl ?_
      refine j_bipush C (nI 10) dX9_statementOf_156 (by decide) ?_
      refine j_isub C dX9_statementOf_158 ?_
      refine j_cVi C (c_X5_hasCondition _ _ _ _ _ (by assumption) _) yc_X5_hasCondition mn_X9_144 im_X5_hasCondition se_X5_hasCondition rfl rfl dX9_statementOf_159 rfl rfl (by assumption) (by decide) (Nat.le_of_ble_eq_true rfl) (by decide) ?_
      refine j_if_eq C 176 dX9_statementOf_162 (by decide) (fun h162 => ?_) (fun h162 => ?_)
      · skip
        refine j_bipush C (-4) dX9_statementOf_176 (by decide) ?_
        exact j_ireturn C E dX9_statementOf_178 (rfl) (by decide) (by decide) (⟨by simp only [fStOf, if_neg h8, if_neg s23_0, if_neg s23_1, if_neg s23_2, if_neg s23_3, if_neg s23_4, if_neg s23_5, if_neg s23_6, if_neg s23_7, if_neg s23_8, if_neg s23_9, if_neg s23_10, if_neg s23_11, if_neg s23_12, if_pos s23_13, if_pos h162], rfl, rfl, rfl⟩)
      · skip
        refine j_aload_n C dX9_statementOf_165 rfl ?_
        refine j_iload_n C dX9_statementOf_166 rfl ?_
        refine j_bipush C (nI 10) dX9_statementOf_167 (by decide) ?_
        refine j_isub C dX9_statementOf_169 ?_
        refine j_cVi C (c_X5_columnAt _ _ _ _ _ (by assumption) _) yc_X5_columnAt mn_X9_147 im_X5_columnAt se_X5_columnAt rfl rfl dX9_statementOf_170 rfl rfl (by assumption) (by decide) (Nat.le_of_ble_eq_true rfl) (by decide) ?_
        refine j_goto C 178 dX9_statementOf_173 (by decide) ?_
        exact j_ireturn C E dX9_statementOf_178 (rfl) (by decide) (by decide) (⟨by simp only [fStOf, if_neg h8, if_neg s23_0, if_neg s23_1, if_neg s23_2, if_neg s23_3, if_neg s23_4, if_neg s23_5, if_neg s23_6, if_neg s23_7, if_neg s23_8, if_neg s23_9, if_neg s23_10, if_neg s23_11, if_neg s23_12, if_pos s23_13, if_neg h162], rfl, rfl, rfl⟩)
    by_cases s23_14 : w = nI 14
    · skip
      refine j_tableIn C 14 204 dX9_statementOf_23 (by rw [s23_14]; decide) (by decide) rfl (by decide) ?_
      refine j_iconst C (-1) dX9_statementOf_204 (by decide) ?_
      exact j_ireturn C E dX9_statementOf_205 (rfl) (by decide) (by decide) (⟨by simp only [fStOf, if_neg h8, if_neg s23_0, if_neg s23_1, if_neg s23_2, if_neg s23_3, if_neg s23_4, if_neg s23_5, if_neg s23_6, if_neg s23_7, if_neg s23_8, if_neg s23_9, if_neg s23_10, if_neg s23_11, if_neg s23_12, if_neg s23_13, if_pos s23_14], rfl, rfl, rfl⟩)
    by_cases s23_15 : w = nI 15
    · skip
      refine j_tableIn C 15 204 dX9_statementOf_23 (by rw [s23_15]; decide) (by decide) rfl (by decide) ?_
      refine j_iconst C (-1) dX9_statementOf_204 (by decide) ?_
      exact j_ireturn C E dX9_statementOf_205 (rfl) (by decide) (by decide) (⟨by simp only [fStOf, if_neg h8, if_neg s23_0, if_neg s23_1, if_neg s23_2, if_neg s23_3, if_neg s23_4, if_neg s23_5, if_neg s23_6, if_neg s23_7, if_neg s23_8, if_neg s23_9, if_neg s23_10, if_neg s23_11, if_neg s23_12, if_neg s23_13, if_neg s23_14, if_pos s23_15], rfl, rfl, rfl⟩)
    by_cases s23_16 : w = nI 16
    · skip
      refine j_tableIn C 16 204 dX9_statementOf_23 (by rw [s23_16]; decide) (by decide) rfl (by decide) ?_
      refine j_iconst C (-1) dX9_statementOf_204 (by decide) ?_
      exact j_ireturn C E dX9_statementOf_205 (rfl) (by decide) (by decide) (⟨by simp only [fStOf, if_neg h8, if_neg s23_0, if_neg s23_1, if_neg s23_2, if_neg s23_3, if_neg s23_4, if_neg s23_5, if_neg s23_6, if_neg s23_7, if_neg s23_8, if_neg s23_9, if_neg s23_10, if_neg s23_11, if_neg s23_12, if_neg s23_13, if_neg s23_14, if_neg s23_15, if_pos s23_16], rfl, rfl, rfl⟩)
    by_cases s23_17 : w = nI 17
    · skip
      refine j_tableIn C 17 204 dX9_statementOf_23 (by rw [s23_17]; decide) (by decide) rfl (by decide) ?_
      refine j_iconst C (-1) dX9_statementOf_204 (by decide) ?_
      exact j_ireturn C E dX9_statementOf_205 (rfl) (by decide) (by decide) (⟨by simp only [fStOf, if_neg h8, if_neg s23_0, if_neg s23_1, if_neg s23_2, if_neg s23_3, if_neg s23_4, if_neg s23_5, if_neg s23_6, if_neg s23_7, if_neg s23_8, if_neg s23_9, if_neg s23_10, if_neg s23_11, if_neg s23_12, if_neg s23_13, if_neg s23_14, if_neg s23_15, if_neg s23_16, if_pos s23_17], rfl, rfl, rfl⟩)
    by_cases s23_18 : w = nI 18
    · skip
      refine j_tableIn C 18 204 dX9_statementOf_23 (by rw [s23_18]; decide) (by decide) rfl (by decide) ?_
      refine j_iconst C (-1) dX9_statementOf_204 (by decide) ?_
      exact j_ireturn C E dX9_statementOf_205 (rfl) (by decide) (by decide) (⟨by simp only [fStOf, if_neg h8, if_neg s23_0, if_neg s23_1, if_neg s23_2, if_neg s23_3, if_neg s23_4, if_neg s23_5, if_neg s23_6, if_neg s23_7, if_neg s23_8, if_neg s23_9, if_neg s23_10, if_neg s23_11, if_neg s23_12, if_neg s23_13, if_neg s23_14, if_neg s23_15, if_neg s23_16, if_neg s23_17, if_pos s23_18], rfl, rfl, rfl⟩)
    by_cases s23_19 : w = nI 19
    · skip
      refine j_tableIn C 19 204 dX9_statementOf_23 (by rw [s23_19]; decide) (by decide) rfl (by decide) ?_
      refine j_iconst C (-1) dX9_statementOf_204 (by decide) ?_
      exact j_ireturn C E dX9_statementOf_205 (rfl) (by decide) (by decide) (⟨by simp only [fStOf, if_neg h8, if_neg s23_0, if_neg s23_1, if_neg s23_2, if_neg s23_3, if_neg s23_4, if_neg s23_5, if_neg s23_6, if_neg s23_7, if_neg s23_8, if_neg s23_9, if_neg s23_10, if_neg s23_11, if_neg s23_12, if_neg s23_13, if_neg s23_14, if_neg s23_15, if_neg s23_16, if_neg s23_17, if_neg s23_18, if_pos s23_19], rfl, rfl, rfl⟩)
    by_cases s23_20 : w = nI 20
    · skip
      refine j_tableIn C 20 179 dX9_statementOf_23 (by rw [s23_20]; decide) (by decide) rfl (by decide) ?_
      refine j_aload_n C dX9_statementOf_179 rfl ?_
      refine j_iload_n C dX9_statementOf_180 rfl ?_
      refine j_bipush C (nI 20) dX9_statementOf_181 (by decide) ?_
      refine j_isub C dX9_statementOf_183 ?_
      refine j_cVi C (c_X5_hasCondition _ _ _ _ _ (by assumption) _) yc_X5_hasCondition mn_X9_144 im_X5_hasCondition se_X5_hasCondition rfl rfl dX9_statementOf_184 rfl rfl (by assumption) (by decide) (Nat.le_of_ble_eq_true rfl) (by decide) ?_
      refine j_if_eq C 201 dX9_statementOf_187 (by decide) (fun h187 => ?_) (fun h187 => ?_)
      · skip
        refine j_bipush C (-4) dX9_statementOf_201 (by decide) ?_
        exact j_ireturn C E dX9_statementOf_203 (rfl) (by decide) (by decide) (⟨by simp only [fStOf, if_neg h8, if_neg s23_0, if_neg s23_1, if_neg s23_2, if_neg s23_3, if_neg s23_4, if_neg s23_5, if_neg s23_6, if_neg s23_7, if_neg s23_8, if_neg s23_9, if_neg s23_10, if_neg s23_11, if_neg s23_12, if_neg s23_13, if_neg s23_14, if_neg s23_15, if_neg s23_16, if_neg s23_17, if_neg s23_18, if_neg s23_19, if_pos s23_20, if_pos h187], rfl, rfl, rfl⟩)
      · skip
        refine j_aload_n C dX9_statementOf_190 rfl ?_
        refine j_iload_n C dX9_statementOf_191 rfl ?_
        refine j_bipush C (nI 20) dX9_statementOf_192 (by decide) ?_
        refine j_isub C dX9_statementOf_194 ?_
        refine j_cVi C (c_X5_operatorAt _ _ _ _ _ (by assumption) _) yc_X5_operatorAt mn_X9_150 im_X5_operatorAt se_X5_operatorAt rfl rfl dX9_statementOf_195 rfl rfl (by assumption) (by decide) (Nat.le_of_ble_eq_true rfl) (by decide) ?_
        refine j_goto C 203 dX9_statementOf_198 (by decide) ?_
        exact j_ireturn C E dX9_statementOf_203 (rfl) (by decide) (by decide) (⟨by simp only [fStOf, if_neg h8, if_neg s23_0, if_neg s23_1, if_neg s23_2, if_neg s23_3, if_neg s23_4, if_neg s23_5, if_neg s23_6, if_neg s23_7, if_neg s23_8, if_neg s23_9, if_neg s23_10, if_neg s23_11, if_neg s23_12, if_neg s23_13, if_neg s23_14, if_neg s23_15, if_neg s23_16, if_neg s23_17, if_neg s23_18, if_neg s23_19, if_pos s23_20, if_neg h187], rfl, rfl, rfl⟩)
    by_cases s23_21 : w = nI 21
    · skip
      refine j_tableIn C 21 179 dX9_statementOf_23 (by rw [s23_21]; decide) (by decide) rfl (by decide) ?_
      refine j_aload_n C dX9_statementOf_179 rfl ?_
      refine j_iload_n C dX9_statementOf_180 rfl ?_
      refine j_bipush C (nI 20) dX9_statementOf_181 (by decide) ?_
      refine j_isub C dX9_statementOf_183 ?_
      refine j_cVi C (c_X5_hasCondition _ _ _ _ _ (by assumption) _) yc_X5_hasCondition mn_X9_144 im_X5_hasCondition se_X5_hasCondition rfl rfl dX9_statementOf_184 rfl rfl (by assumption) (by decide) (Nat.le_of_ble_eq_true rfl) (by decide) ?_
      refine j_if_eq C 201 dX9_statementOf_187 (by decide) (fun h187 => ?_) (fun h187 => ?_)
      · skip
        refine j_bipush C (-4) dX9_statementOf_201 (by decide) ?_
        exact j_ireturn C E dX9_statementOf_203 (rfl) (by decide) (by decide) (⟨by simp only [fStOf, if_neg h8, if_neg s23_0, if_neg s23_1, if_neg s23_2, if_neg s23_3, if_neg s23_4, if_neg s23_5, if_neg s23_6, if_neg s23_7, if_neg s23_8, if_neg s23_9, if_neg s23_10, if_neg s23_11, if_neg s23_12, if_neg s23_13, if_neg s23_14, if_neg s23_15, if_neg s23_16, if_neg s23_17, if_neg s23_18, if_neg s23_19, if_neg s23_20, if_pos s23_21, if_pos h187], rfl, rfl, rfl⟩)
      · skip
        refine j_aload_n C dX9_statementOf_190 rfl ?_
        refine j_iload_n C dX9_statementOf_191 rfl ?_
        refine j_bipush C (nI 20) dX9_statementOf_192 (by decide) ?_
        refine j_isub C dX9_statementOf_194 ?_
        refine j_cVi C (c_X5_operatorAt _ _ _ _ _ (by assumption) _) yc_X5_operatorAt mn_X9_150 im_X5_operatorAt se_X5_operatorAt rfl rfl dX9_statementOf_195 rfl rfl (by assumption) (by decide) (Nat.le_of_ble_eq_true rfl) (by decide) ?_
        refine j_goto C 203 dX9_statementOf_198 (by decide) ?_
        exact j_ireturn C E dX9_statementOf_203 (rfl) (by decide) (by decide) (⟨by simp only [fStOf, if_neg h8, if_neg s23_0, if_neg s23_1, if_neg s23_2, if_neg s23_3, if_neg s23_4, if_neg s23_5, if_neg s23_6, if_neg s23_7, if_neg s23_8, if_neg s23_9, if_neg s23_10, if_neg s23_11, if_neg s23_12, if_neg s23_13, if_neg s23_14, if_neg s23_15, if_neg s23_16, if_neg s23_17, if_neg s23_18, if_neg s23_19, if_neg s23_20, if_pos s23_21, if_neg h187], rfl, rfl, rfl⟩)
    by_cases s23_22 : w = nI 22
    · skip
      refine j_tableIn C 22 179 dX9_statementOf_23 (by rw [s23_22]; decide) (by decide) rfl (by decide) ?_
      refine j_aload_n C dX9_statementOf_179 rfl ?_
      refine j_iload_n C dX9_statementOf_180 rfl ?_
      refine j_bipush C (nI 20) dX9_statementOf_181 (by decide) ?_
      refine j_isub C dX9_statementOf_183 ?_
      refine j_cVi C (c_X5_hasCondition _ _ _ _ _ (by assumption) _) yc_X5_hasCondition mn_X9_144 im_X5_hasCondition se_X5_hasCondition rfl rfl dX9_statementOf_184 rfl rfl (by assumption) (by decide) (Nat.le_of_ble_eq_true rfl) (by decide) ?_
      refine j_if_eq C 201 dX9_statementOf_187 (by decide) (fun h187 => ?_) (fun h187 => ?_)
      · skip
        refine j_bipush C (-4) dX9_statementOf_201 (by decide) ?_
        exact j_ireturn C E dX9_statementOf_203 (rfl) (by decide) (by decide) (⟨by simp only [fStOf, if_neg h8, if_neg s23_0, if_neg s23_1, if_neg s23_2, if_neg s23_3, if_neg s23_4, if_neg s23_5, if_neg s23_6, if_neg s23_7, if_neg s23_8, if_neg s23_9, if_neg s23_10, if_neg s23_11, if_neg s23_12, if_neg s23_13, if_neg s23_14, if_neg s23_15, if_neg s23_16, if_neg s23_17, if_neg s23_18, if_neg s23_19, if_neg s23_20, if_neg s23_21, if_pos s23_22, if_pos h187], rfl, rfl, rfl⟩)
      · skip
        refine j_aload_n C dX9_statementOf_190 rfl ?_
        refine j_iload_n C dX9_statementOf_191 rfl ?_
        refine j_bipush C (nI 20) dX9_statementOf_192 (by decide) ?_
        refine j_isub C dX9_statementOf_194 ?_
        refine j_cVi C (c_X5_operatorAt _ _ _ _ _ (by assumption) _) yc_X5_operatorAt mn_X9_150 im_X5_operatorAt se_X5_operatorAt rfl rfl dX9_statementOf_195 rfl rfl (by assumption) (by decide) (Nat.le_of_ble_eq_true rfl) (by decide) ?_
        refine j_goto C 203 dX9_statementOf_198 (by decide) ?_
        exact j_ireturn C E dX9_statementOf_203 (rfl) (by decide) (by decide) (⟨by simp only [fStOf, if_neg h8, if_neg s23_0, if_neg s23_1, if_neg s23_2, if_neg s23_3, if_neg s23_4, if_neg s23_5, if_neg s23_6, if_neg s23_7, if_neg s23_8, if_neg s23_9, if_neg s23_10, if_neg s23_11, if_neg s23_12, if_neg s23_13, if_neg s23_14, if_neg s23_15, if_neg s23_16, if_neg s23_17, if_neg s23_18, if_neg s23_19, if_neg s23_20, if_neg s23_21, if_pos s23_22, if_neg h187], rfl, rfl, rfl⟩)
    by_cases s23_23 : w = nI 23
    · skip
      refine j_tableIn C 23 179 dX9_statementOf_23 (by rw [s23_23]; decide) (by decide) rfl (by decide) ?_
      refine j_aload_n C dX9_statementOf_179 rfl ?_
      refine j_iload_n C dX9_statementOf_180 rfl ?_
      refine j_bipush C (nI 20) dX9_statementOf_181 (by decide) ?_
      refine j_isub C dX9_statementOf_183 ?_
      refine j_cVi C (c_X5_hasCondition _ _ _ _ _ (by assumption) _) yc_X5_hasCondition mn_X9_144 im_X5_hasCondition se_X5_hasCondition rfl rfl dX9_statementOf_184 rfl rfl (by assumption) (by decide) (Nat.le_of_ble_eq_true rfl) (by decide) ?_
      refine j_if_eq C 201 dX9_statementOf_187 (by decide) (fun h187 => ?_) (fun h187 => ?_)
      · skip
        refine j_bipush C (-4) dX9_statementOf_201 (by decide) ?_
        exact j_ireturn C E dX9_statementOf_203 (rfl) (by decide) (by decide) (⟨by simp only [fStOf, if_neg h8, if_neg s23_0, if_neg s23_1, if_neg s23_2, if_neg s23_3, if_neg s23_4, if_neg s23_5, if_neg s23_6, if_neg s23_7, if_neg s23_8, if_neg s23_9, if_neg s23_10, if_neg s23_11, if_neg s23_12, if_neg s23_13, if_neg s23_14, if_neg s23_15, if_neg s23_16, if_neg s23_17, if_neg s23_18, if_neg s23_19, if_neg s23_20, if_neg s23_21, if_neg s23_22, if_pos s23_23, if_pos h187], rfl, rfl, rfl⟩)
      · skip
        refine j_aload_n C dX9_statementOf_190 rfl ?_
        refine j_iload_n C dX9_statementOf_191 rfl ?_
        refine j_bipush C (nI 20) dX9_statementOf_192 (by decide) ?_
        refine j_isub C dX9_statementOf_194 ?_
        refine j_cVi C (c_X5_operatorAt _ _ _ _ _ (by assumption) _) yc_X5_operatorAt mn_X9_150 im_X5_operatorAt se_X5_operatorAt rfl rfl dX9_statementOf_195 rfl rfl (by assumption) (by decide) (Nat.le_of_ble_eq_true rfl) (by decide) ?_
        refine j_goto C 203 dX9_statementOf_198 (by decide) ?_
        exact j_ireturn C E dX9_statementOf_203 (rfl) (by decide) (by decide) (⟨by simp only [fStOf, if_neg h8, if_neg s23_0, if_neg s23_1, if_neg s23_2, if_neg s23_3, if_neg s23_4, if_neg s23_5, if_neg s23_6, if_neg s23_7, if_neg s23_8, if_neg s23_9, if_neg s23_10, if_neg s23_11, if_neg s23_12, if_neg s23_13, if_neg s23_14, if_neg s23_15, if_neg s23_16, if_neg s23_17, if_neg s23_18, if_neg s23_19, if_neg s23_20, if_neg s23_21, if_neg s23_22, if_pos s23_23, if_neg h187], rfl, rfl, rfl⟩)
    refine j_tableOut C 204 dX9_statementOf_23 (sw_out 23 (w) (by intro j hj; match j, hj with | 0, _ => exact s23_0 | 1, _ => exact s23_1 | 2, _ => exact s23_2 | 3, _ => exact s23_3 | 4, _ => exact s23_4 | 5, _ => exact s23_5 | 6, _ => exact s23_6 | 7, _ => exact s23_7 | 8, _ => exact s23_8 | 9, _ => exact s23_9 | 10, _ => exact s23_10 | 11, _ => exact s23_11 | 12, _ => exact s23_12 | 13, _ => exact s23_13 | 14, _ => exact s23_14 | 15, _ => exact s23_15 | 16, _ => exact s23_16 | 17, _ => exact s23_17 | 18, _ => exact s23_18 | 19, _ => exact s23_19 | 20, _ => exact s23_20 | 21, _ => exact s23_21 | 22, _ => exact s23_22 | 23, _ => exact s23_23 | n + 24, h => exact absurd h (by omega))) (by decide) ?_
    refine j_iconst C (-1) dX9_statementOf_204 (by decide) ?_
    exact j_ireturn C E dX9_statementOf_205 (rfl) (by decide) (by decide) (⟨by simp only [fStOf, if_neg h8, if_neg s23_0, if_neg s23_1, if_neg s23_2, if_neg s23_3, if_neg s23_4, if_neg s23_5, if_neg s23_6, if_neg s23_7, if_neg s23_8, if_neg s23_9, if_neg s23_10, if_neg s23_11, if_neg s23_12, if_neg s23_13, if_neg s23_14, if_neg s23_15, if_neg s23_16, if_neg s23_17, if_neg s23_18, if_neg s23_19, if_neg s23_20, if_neg s23_21, if_neg s23_22, if_neg s23_23], rfl, rfl, rfl⟩)
  · skip
    refine j_iconst C (-1) dX9_statementOf_11 (by decide) ?_
    exact j_ireturn C E dX9_statementOf_12 (rfl) (by decide) (by decide) (⟨by simp only [fStOf, if_pos h8], rfl, rfl, rfl⟩)

set_option maxHeartbeats 4000000 in
set_option maxRecDepth 100000 in
theorem c_X9_latest (l : Launch) (ω : jW) (γ : jG) (M : jM) (R : jR) {x a h T v : Nat} (g : gX ω γ x a h T v) {nh n c r len : Nat} (H : CB M R a h T nh n c r len) (w : Int32) : Ct l ω yX9_latest cX9_latest 2 (some .int) 5 0 0 [.ref x, .int w] γ M R (jx γ (some (.int (fLatest M a w))) M R) := by
  refine Ct_of (by decide) (Nat.le_of_ble_eq_true rfl) rfl (jcat_of rfl) ?_
  intro X C E hnm hxl hxn
  subst hxl
  have g0g := g
  obtain ⟨x0, xa, ga, xh, gh, xT, gT, xv, gv, d1, d2, d3, d4⟩ := g
  have ga0 := ga.1
  have gh0 := gh.1
  have gT0 := gT.1
  have p0 : jP γ a 0 = some (a + 1) := ga.2.1
  have gt : gTable ω γ (a + 1) := ga.2.2.1
  have gt0 := gt.1
  have p1 : jP γ a 1 = some (a + 5) := ga.2.2.2.1
  have gs : gSums ω γ (a + 5) := ga.2.2.2.2.1
  have gs0 := gs.1
  have p4 : jP γ a 4 = some (a + 11) := ga.2.2.2.2.2.2.2.2.2.1
  have gS : gShelf ω γ (a + 11) := ga.2.2.2.2.2.2.2.2.2.2.1
  have gS0 := gS.1
  have p5 : jP γ a 5 = some (a + 22) := ga.2.2.2.2.2.2.2.2.2.2.2.1
  have gl : gLast ω γ (a + 22) := ga.2.2.2.2.2.2.2.2.2.2.2.2.1
  have gl0 := gl.1
  have gl1 : jP γ (a + 22) 0 = some (a + 23) := gl.2.1
  have gl2 : jArr ω γ (a + 23) 12 4 := gl.2.2
  have p6 : jP γ a 6 = some (a + 24) := ga.2.2.2.2.2.2.2.2.2.2.2.2.2.1
  have gc : jArr ω γ (a + 24) 12 5 := ga.2.2.2.2.2.2.2.2.2.2.2.2.2.2.1
  have gtp : jP γ (a + 1) 1 = some (a + 3) := gt.2.2.2.1
  have gu : gSums ω γ (a + 3) := gt.2.2.2.2
  have gu0 := gu.1
  obtain ⟨HI, hkp, hn, hc, hc6, hr, hr30, hT, hl, hl30, hcs, hlr⟩ := H
  have ss := HI.2.2.2.1.1
  have hs := HI.2.2.2.1.2.1
  refine j_iload_n C dX9_latest_0 rfl ?_
  refine j_iconst C (nI 0) dX9_latest_1 (by decide) ?_
  refine j_bipush C (nI 7) dX9_latest_2 (by decide) ?_
  refine j_cSi C (c_X9_within _ _ _ _ _ _ _ _) yc_X9_within mn_X9_38 st_X9_within dX9_latest_4 rfl rfl (Nat.le_of_ble_eq_true rfl) (by decide) ?_
  refine j_if_ne C 12 dX9_latest_7 (by decide) (fun h7 => ?_) (fun h7 => ?_)
  · skip
    refine j_aload_n C dX9_latest_12 rfl ?_
    refine j_getR C fl_X9_10 (by assumption) dX9_latest_13 (by decide) rfl (by assumption) ?_
    refine j_getR C fl_X9_161 (by assumption) dX9_latest_16 (by decide) rfl (by assumption) ?_
    refine j_iload_n C dX9_latest_19 rfl ?_
    refine j_cVi C (c_X1_tell _ _ _ _ _ (by assumption) _) yc_X1_tell mn_X9_165 im_X1_tell se_X1_tell rfl rfl dX9_latest_20 rfl rfl (by assumption) (by decide) (Nat.le_of_ble_eq_true rfl) (by decide) ?_
    exact j_ireturn C E dX9_latest_23 (rfl) (by decide) (by decide) (⟨by simp only [fLatest, if_neg h7], rfl, rfl, rfl⟩)
  · skip
    refine j_iconst C (-1) dX9_latest_10 (by decide) ?_
    exact j_ireturn C E dX9_latest_11 (rfl) (by decide) (by decide) (⟨by simp only [fLatest, if_pos h7], rfl, rfl, rfl⟩)

set_option maxHeartbeats 4000000 in
set_option maxRecDepth 100000 in
theorem c_X9_planOf (l : Launch) (ω : jW) (γ : jG) (M : jM) (R : jR) {x a h T v : Nat} (g : gX ω γ x a h T v) {nh n c r len : Nat} (H : CB M R a h T nh n c r len) (p w : Int32) : Ct l ω yX9_planOf cX9_planOf 4 (some .int) 5 0 0 [.ref x, .int p, .int w] γ M R (jx γ (some (.int (fPlanOf M R a n p w))) M R) := by
  refine Ct_of (by decide) (Nat.le_of_ble_eq_true rfl) rfl (jcat_of rfl) ?_
  intro X C E hnm hxl hxn
  subst hxl
  have g0g := g
  obtain ⟨x0, xa, ga, xh, gh, xT, gT, xv, gv, d1, d2, d3, d4⟩ := g
  have ga0 := ga.1
  have gh0 := gh.1
  have gT0 := gT.1
  have p0 : jP γ a 0 = some (a + 1) := ga.2.1
  have gt : gTable ω γ (a + 1) := ga.2.2.1
  have gt0 := gt.1
  have p1 : jP γ a 1 = some (a + 5) := ga.2.2.2.1
  have gs : gSums ω γ (a + 5) := ga.2.2.2.2.1
  have gs0 := gs.1
  have p4 : jP γ a 4 = some (a + 11) := ga.2.2.2.2.2.2.2.2.2.1
  have gS : gShelf ω γ (a + 11) := ga.2.2.2.2.2.2.2.2.2.2.1
  have gS0 := gS.1
  have p5 : jP γ a 5 = some (a + 22) := ga.2.2.2.2.2.2.2.2.2.2.2.1
  have gl : gLast ω γ (a + 22) := ga.2.2.2.2.2.2.2.2.2.2.2.2.1
  have gl0 := gl.1
  have gl1 : jP γ (a + 22) 0 = some (a + 23) := gl.2.1
  have gl2 : jArr ω γ (a + 23) 12 4 := gl.2.2
  have p6 : jP γ a 6 = some (a + 24) := ga.2.2.2.2.2.2.2.2.2.2.2.2.2.1
  have gc : jArr ω γ (a + 24) 12 5 := ga.2.2.2.2.2.2.2.2.2.2.2.2.2.2.1
  have gtp : jP γ (a + 1) 1 = some (a + 3) := gt.2.2.2.1
  have gu : gSums ω γ (a + 3) := gt.2.2.2.2
  have gu0 := gu.1
  obtain ⟨HI, hkp, hn, hc, hc6, hr, hr30, hT, hl, hl30, hcs, hlr⟩ := H
  have ss := HI.2.2.2.1.1
  have hs := HI.2.2.2.1.2.1
  refine j_aload_n C dX9_planOf_0 rfl ?_
  refine j_getR C fl_X9_10 (by assumption) dX9_planOf_1 (by decide) rfl (by assumption) ?_
  refine j_getR C fl_X9_132 (by assumption) dX9_planOf_4 (by decide) rfl (by assumption) ?_
  refine j_iload_n C dX9_planOf_7 rfl ?_
  refine j_cVi C (c_X3_placeOf _ ω γ M R gS hs hkp hn p) yc_X3_placeOf mn_X9_170 im_X3_placeOf se_X3_placeOf rfl rfl dX9_planOf_8 rfl rfl (by assumption) (by decide) (Nat.le_of_ble_eq_true rfl) (by decide) ?_
  change J _ ω γ _ _ _ _ _ _ (.int (fPlc M R a n p) :: _)
  refine j_istore_n C dX9_planOf_11 (by rw [hxn]; decide) ?_
  refine j_iload_n C dX9_planOf_12 rfl ?_
  refine j_iconst C (-1) dX9_planOf_13 (by decide) ?_
  refine j_icmp_eq C 27 dX9_planOf_14 (by decide) (fun h14 => ?_) (fun h14 => ?_)
  · skip
    refine j_iconst C (-1) dX9_planOf_27 (by decide) ?_
    exact j_ireturn C E dX9_planOf_28 (rfl) (by decide) (by decide) (⟨by simp only [fPlanOf, if_pos h14], rfl, rfl, rfl⟩)
  · skip
    refine j_iload_n C dX9_planOf_17 rfl ?_
    refine j_iconst C (nI 0) dX9_planOf_18 (by decide) ?_
    refine j_bipush C (nI 7) dX9_planOf_19 (by decide) ?_
    refine j_cSi C (c_X9_within _ _ _ _ _ _ _ _) yc_X9_within mn_X9_38 st_X9_within dX9_planOf_21 rfl rfl (Nat.le_of_ble_eq_true rfl) (by decide) ?_
    refine j_if_ne C 29 dX9_planOf_24 (by decide) (fun h24 => ?_) (fun h24 => ?_)
    · skip
      refine j_aload_n C dX9_planOf_29 rfl ?_
      refine j_getR C fl_X9_10 (by assumption) dX9_planOf_30 (by decide) rfl (by assumption) ?_
      refine j_getR C fl_X9_132 (by assumption) dX9_planOf_33 (by decide) rfl (by assumption) ?_
      refine j_iload_n C dX9_planOf_36 rfl ?_
      refine j_cVr C (c_X3_planAt _ _ _ _ _ (by assumption) (by assumption) _) yc_X3_planAt mn_X9_173 im_X3_planAt se_X3_planAt rfl rfl dX9_planOf_37 rfl rfl (by assumption) (by decide) (Nat.le_of_ble_eq_true rfl) (by decide) ?_
      refine j_iload_n C dX9_planOf_40 rfl ?_
      refine j_aload_n C dX9_planOf_41 rfl ?_
      refine j_getR C fl_X9_10 (by assumption) dX9_planOf_42 (by decide) rfl (by assumption) ?_
      refine j_getI C fl_X9_203 (by assumption) dX9_planOf_45 (by decide) rfl ?_
      refine j_cVi C (c_X2_tell _ ω γ M R (rPA_at hs gS _) _ _) yc_X2_tell mn_X9_204 im_X2_tell se_X2_tell rfl rfl dX9_planOf_48 rfl rfl (rPA_at hs gS _) (by decide) (Nat.le_of_ble_eq_true rfl) (by decide) ?_
      exact j_ireturn C E dX9_planOf_51 (rfl) (by decide) (by decide) (⟨by simp only [fPlanOf, if_neg h14, if_neg h24], rfl, rfl, rfl⟩)
    · skip
      refine j_iconst C (-1) dX9_planOf_27 (by decide) ?_
      exact j_ireturn C E dX9_planOf_28 (rfl) (by decide) (by decide) (⟨by simp only [fPlanOf, if_neg h14, if_pos h24], rfl, rfl, rfl⟩)

set_option maxHeartbeats 4000000 in
set_option maxRecDepth 100000 in
theorem c_X9_planFor (l : Launch) (ω : jW) (γ : jG) (M : jM) (R : jR) {x a h T v : Nat} (g : gX ω γ x a h T v) {nh n c r len : Nat} (H : CB M R a h T nh n c r len) (s c9 : Int32) : Ct l ω yX9_planFor cX9_planFor 3 (some .int) 5 0 0 [.ref x, .int s, .int c9] γ M R (jx γ (some (.int (fPlanFor M R a n s c9))) M R) := by
  refine Ct_of (by decide) (Nat.le_of_ble_eq_true rfl) rfl (jcat_of rfl) ?_
  intro X C E hnm hxl hxn
  subst hxl
  have g0g := g
  obtain ⟨x0, xa, ga, xh, gh, xT, gT, xv, gv, d1, d2, d3, d4⟩ := g
  have ga0 := ga.1
  have gh0 := gh.1
  have gT0 := gT.1
  have p0 : jP γ a 0 = some (a + 1) := ga.2.1
  have gt : gTable ω γ (a + 1) := ga.2.2.1
  have gt0 := gt.1
  have p1 : jP γ a 1 = some (a + 5) := ga.2.2.2.1
  have gs : gSums ω γ (a + 5) := ga.2.2.2.2.1
  have gs0 := gs.1
  have p4 : jP γ a 4 = some (a + 11) := ga.2.2.2.2.2.2.2.2.2.1
  have gS : gShelf ω γ (a + 11) := ga.2.2.2.2.2.2.2.2.2.2.1
  have gS0 := gS.1
  have p5 : jP γ a 5 = some (a + 22) := ga.2.2.2.2.2.2.2.2.2.2.2.1
  have gl : gLast ω γ (a + 22) := ga.2.2.2.2.2.2.2.2.2.2.2.2.1
  have gl0 := gl.1
  have gl1 : jP γ (a + 22) 0 = some (a + 23) := gl.2.1
  have gl2 : jArr ω γ (a + 23) 12 4 := gl.2.2
  have p6 : jP γ a 6 = some (a + 24) := ga.2.2.2.2.2.2.2.2.2.2.2.2.2.1
  have gc : jArr ω γ (a + 24) 12 5 := ga.2.2.2.2.2.2.2.2.2.2.2.2.2.2.1
  have gtp : jP γ (a + 1) 1 = some (a + 3) := gt.2.2.2.1
  have gu : gSums ω γ (a + 3) := gt.2.2.2.2
  have gu0 := gu.1
  obtain ⟨HI, hkp, hn, hc, hc6, hr, hr30, hT, hl, hl30, hcs, hlr⟩ := H
  have ss := HI.2.2.2.1.1
  have hs := HI.2.2.2.1.2.1
  refine j_aload_n C dX9_planFor_0 rfl ?_
  refine j_getR C fl_X9_10 (by assumption) dX9_planFor_1 (by decide) rfl (by assumption) ?_
  refine j_iload_n C dX9_planFor_4 rfl ?_
  refine j_cVi C (c_X4_hasStatement _ _ _ _ _ (by assumption) _) yc_X4_hasStatement mn_X9_120 im_X4_hasStatement se_X4_hasStatement rfl rfl dX9_planFor_5 rfl rfl (by assumption) (by decide) (Nat.le_of_ble_eq_true rfl) (by decide) ?_
  refine j_if_eq C 21 dX9_planFor_8 (by decide) (fun h8 => ?_) (fun h8 => ?_)
  · skip
    refine j_iconst C (-1) dX9_planFor_21 (by decide) ?_
    exact j_ireturn C E dX9_planFor_22 (rfl) (by decide) (by decide) (⟨by simp only [fPlanFor, if_pos h8], rfl, rfl, rfl⟩)
  · skip
    refine j_iload_n C dX9_planFor_11 rfl ?_
    refine j_iconst C (nI 0) dX9_planFor_12 (by decide) ?_
    refine j_bipush C (nI 80) dX9_planFor_13 (by decide) ?_
    refine j_cSi C (c_X9_within _ _ _ _ _ _ _ _) yc_X9_within mn_X9_38 st_X9_within dX9_planFor_15 rfl rfl (Nat.le_of_ble_eq_true rfl) (by decide) ?_
    refine j_if_ne C 23 dX9_planFor_18 (by decide) (fun h18 => ?_) (fun h18 => ?_)
    · skip
      refine j_aload_n C dX9_planFor_23 rfl ?_
      refine j_getR C fl_X9_10 (by assumption) dX9_planFor_24 (by decide) rfl (by assumption) ?_
      refine j_getR C fl_X9_132 (by assumption) dX9_planFor_27 (by decide) rfl (by assumption) ?_
      refine j_aload_n C dX9_planFor_30 rfl ?_
      refine j_getR C fl_X9_10 (by assumption) dX9_planFor_31 (by decide) rfl (by assumption) ?_
      refine j_getR C fl_X9_132 (by assumption) dX9_planFor_34 (by decide) rfl (by assumption) ?_
      refine j_iload_n C dX9_planFor_37 rfl ?_
      refine j_iload_n C dX9_planFor_38 rfl ?_
      refine j_cVi C (c_X3_placeFor _ ω γ M R gS hs hkp hn s c9) yc_X3_placeFor mn_X9_206 im_X3_placeFor se_X3_placeFor rfl rfl dX9_planFor_39 rfl rfl (by assumption) (by decide) (Nat.le_of_ble_eq_true rfl) (by decide) ?_
      refine j_cVi C (c_X3_numberAt _ _ _ _ _ (by assumption) (by assumption) _) yc_X3_numberAt mn_X9_209 im_X3_numberAt se_X3_numberAt rfl rfl dX9_planFor_42 rfl rfl (by assumption) (by decide) (Nat.le_of_ble_eq_true rfl) (by decide) ?_
      exact j_ireturn C E dX9_planFor_45 (rfl) (by decide) (by decide) (⟨by simp only [fPlanFor, if_neg h8, if_neg h18], rfl, rfl, rfl⟩)
    · skip
      refine j_iconst C (-1) dX9_planFor_21 (by decide) ?_
      exact j_ireturn C E dX9_planFor_22 (rfl) (by decide) (by decide) (⟨by simp only [fPlanFor, if_neg h8, if_pos h18], rfl, rfl, rfl⟩)

set_option maxHeartbeats 4000000 in
set_option maxRecDepth 100000 in
theorem c_X9_count (l : Launch) (ω : jW) (γ : jG) (M : jM) (R : jR) {x a h T v : Nat} (g : gX ω γ x a h T v) {nh n c r len : Nat} (H : CB M R a h T nh n c r len) (w : Int32) : Ct l ω yX9_count cX9_count 2 (some .int) 5 0 0 [.ref x, .int w] γ M R (jx γ (some (.int (fCount M R a h T n w))) M R) := by
  refine Ct_of (by decide) (Nat.le_of_ble_eq_true rfl) rfl (jcat_of rfl) ?_
  intro X C E hnm hxl hxn
  subst hxl
  have g0g := g
  obtain ⟨x0, xa, ga, xh, gh, xT, gT, xv, gv, d1, d2, d3, d4⟩ := g
  have ga0 := ga.1
  have gh0 := gh.1
  have gT0 := gT.1
  have p0 : jP γ a 0 = some (a + 1) := ga.2.1
  have gt : gTable ω γ (a + 1) := ga.2.2.1
  have gt0 := gt.1
  have p1 : jP γ a 1 = some (a + 5) := ga.2.2.2.1
  have gs : gSums ω γ (a + 5) := ga.2.2.2.2.1
  have gs0 := gs.1
  have p4 : jP γ a 4 = some (a + 11) := ga.2.2.2.2.2.2.2.2.2.1
  have gS : gShelf ω γ (a + 11) := ga.2.2.2.2.2.2.2.2.2.2.1
  have gS0 := gS.1
  have p5 : jP γ a 5 = some (a + 22) := ga.2.2.2.2.2.2.2.2.2.2.2.1
  have gl : gLast ω γ (a + 22) := ga.2.2.2.2.2.2.2.2.2.2.2.2.1
  have gl0 := gl.1
  have gl1 : jP γ (a + 22) 0 = some (a + 23) := gl.2.1
  have gl2 : jArr ω γ (a + 23) 12 4 := gl.2.2
  have p6 : jP γ a 6 = some (a + 24) := ga.2.2.2.2.2.2.2.2.2.2.2.2.2.1
  have gc : jArr ω γ (a + 24) 12 5 := ga.2.2.2.2.2.2.2.2.2.2.2.2.2.2.1
  have gtp : jP γ (a + 1) 1 = some (a + 3) := gt.2.2.2.1
  have gu : gSums ω γ (a + 3) := gt.2.2.2.2
  have gu0 := gu.1
  obtain ⟨HI, hkp, hn, hc, hc6, hr, hr30, hT, hl, hl30, hcs, hlr⟩ := H
  have ss := HI.2.2.2.1.1
  have hs := HI.2.2.2.1.2.1
  refine j_iload_n C dX9_count_0 rfl ?_
  by_cases s1_0 : w = nI 0
  · skip
    refine j_tableIn C 0 116 dX9_count_1 (by rw [s1_0]; decide) (by decide) rfl (by decide) ?_
    refine j_aload_n C dX9_count_116 rfl ?_
    refine j_getR C fl_X9_10 (by assumption) dX9_count_117 (by decide) rfl (by assumption) ?_
    refine j_getR C fl_X9_42 (by assumption) dX9_count_120 (by decide) rfl (by assumption) ?_
    refine j_getI C fl_X9_46 (by assumption) dX9_count_123 (by decide) rfl ?_
    exact j_ireturn C E dX9_count_126 (rfl) (by decide) (by decide) (⟨by simp only [fCount, if_pos s1_0], rfl, rfl, rfl⟩)
  by_cases s1_1 : w = nI 1
  · skip
    refine j_tableIn C 1 127 dX9_count_1 (by rw [s1_1]; decide) (by decide) rfl (by decide) ?_
    refine j_aload_n C dX9_count_127 rfl ?_
    refine j_getR C fl_X9_10 (by assumption) dX9_count_128 (by decide) rfl (by assumption) ?_
    refine j_getR C fl_X9_42 (by assumption) dX9_count_131 (by decide) rfl (by assumption) ?_
    refine j_getR C fl_X9_87 (by assumption) dX9_count_134 (by decide) rfl (by assumption) ?_
    refine j_getI C fl_X9_96 (by assumption) dX9_count_137 (by decide) rfl ?_
    exact j_ireturn C E dX9_count_140 (rfl) (by decide) (by decide) (⟨by simp only [fCount, if_neg s1_0, if_pos s1_1], rfl, rfl, rfl⟩)
  by_cases s1_2 : w = nI 2
  · skip
    refine j_tableIn C 2 141 dX9_count_1 (by rw [s1_2]; decide) (by decide) rfl (by decide) ?_
    refine j_aload_n C dX9_count_141 rfl ?_
    refine j_getR C fl_X9_10 (by assumption) dX9_count_142 (by decide) rfl (by assumption) ?_
    refine j_getR C fl_X9_83 (by assumption) dX9_count_145 (by decide) rfl (by assumption) ?_
    refine j_getI C fl_X9_96 (by assumption) dX9_count_148 (by decide) rfl ?_
    exact j_ireturn C E dX9_count_151 (rfl) (by decide) (by decide) (⟨by simp only [fCount, if_neg s1_0, if_neg s1_1, if_pos s1_2], rfl, rfl, rfl⟩)
  by_cases s1_3 : w = nI 3
  · skip
    refine j_tableIn C 3 152 dX9_count_1 (by rw [s1_3]; decide) (by decide) rfl (by decide) ?_
    refine j_aload_n C dX9_count_152 rfl ?_
    refine j_getR C fl_X9_10 (by assumption) dX9_count_153 (by decide) rfl (by assumption) ?_
    refine j_getI C fl_X9_215 (by assumption) dX9_count_156 (by decide) rfl ?_
    exact j_ireturn C E dX9_count_159 (rfl) (by decide) (by decide) (⟨by simp only [fCount, if_neg s1_0, if_neg s1_1, if_neg s1_2, if_pos s1_3], rfl, rfl, rfl⟩)
  by_cases s1_4 : w = nI 4
  · skip
    refine j_tableIn C 4 160 dX9_count_1 (by rw [s1_4]; decide) (by decide) rfl (by decide) ?_
    refine j_aload_n C dX9_count_160 rfl ?_
    refine j_getR C fl_X9_10 (by assumption) dX9_count_161 (by decide) rfl (by assumption) ?_
    refine j_getI C fl_X9_114 (by assumption) dX9_count_164 (by decide) rfl ?_
    exact j_ireturn C E dX9_count_167 (rfl) (by decide) (by decide) (⟨by simp only [fCount, if_neg s1_0, if_neg s1_1, if_neg s1_2, if_neg s1_3, if_pos s1_4], rfl, rfl, rfl⟩)
  by_cases s1_5 : w = nI 5
  · skip
    refine j_tableIn C 5 168 dX9_count_1 (by rw [s1_5]; decide) (by decide) rfl (by decide) ?_
    refine j_aload_n C dX9_count_168 rfl ?_
    refine j_getR C fl_X9_10 (by assumption) dX9_count_169 (by decide) rfl (by assumption) ?_
    refine j_getR C fl_X9_132 (by assumption) dX9_count_172 (by decide) rfl (by assumption) ?_
    refine j_getI C fl_X9_188 (by assumption) dX9_count_175 (by decide) rfl ?_
    exact j_ireturn C E dX9_count_178 (rfl) (by decide) (by decide) (⟨by simp only [fCount, if_neg s1_0, if_neg s1_1, if_neg s1_2, if_neg s1_3, if_neg s1_4, if_pos s1_5], rfl, rfl, rfl⟩)
  by_cases s1_6 : w = nI 6
  · skip
    refine j_tableIn C 6 179 dX9_count_1 (by rw [s1_6]; decide) (by decide) rfl (by decide) ?_
    refine j_aload_n C dX9_count_179 rfl ?_
    refine j_getR C fl_X9_10 (by assumption) dX9_count_180 (by decide) rfl (by assumption) ?_
    refine j_getR C fl_X9_132 (by assumption) dX9_count_183 (by decide) rfl (by assumption) ?_
    refine j_cVi C (c_X3_pinned _ ω γ M R gS hs hkp hn) yc_X3_pinned mn_X9_183 im_X3_pinned se_X3_pinned rfl rfl dX9_count_186 rfl rfl (by assumption) (by decide) (Nat.le_of_ble_eq_true rfl) (by decide) ?_
    exact j_ireturn C E dX9_count_189 (rfl) (by decide) (by decide) (⟨by simp only [fCount, if_neg s1_0, if_neg s1_1, if_neg s1_2, if_neg s1_3, if_neg s1_4, if_neg s1_5, if_pos s1_6], rfl, rfl, rfl⟩)
  by_cases s1_7 : w = nI 7
  · skip
    refine j_tableIn C 7 190 dX9_count_1 (by rw [s1_7]; decide) (by decide) rfl (by decide) ?_
    refine j_aload_n C dX9_count_190 rfl ?_
    refine j_getR C fl_X9_10 (by assumption) dX9_count_191 (by decide) rfl (by assumption) ?_
    refine j_getI C fl_X9_203 (by assumption) dX9_count_194 (by decide) rfl ?_
    exact j_ireturn C E dX9_count_197 (rfl) (by decide) (by decide) (⟨by simp only [fCount, if_neg s1_0, if_neg s1_1, if_neg s1_2, if_neg s1_3, if_neg s1_4, if_neg s1_5, if_neg s1_6, if_pos s1_7], rfl, rfl, rfl⟩)
  by_cases s1_8 : w = nI 8
  · skip
    refine j_tableIn C 8 198 dX9_count_1 (by rw [s1_8]; decide) (by decide) rfl (by decide) ?_
    refine j_aload_n C dX9_count_198 rfl ?_
    refine j_getR C fl_X9_10 (by assumption) dX9_count_199 (by decide) rfl (by assumption) ?_
    refine j_getI C fl_X9_218 (by assumption) dX9_count_202 (by decide) rfl ?_
    exact j_ireturn C E dX9_count_205 (rfl) (by decide) (by decide) (⟨by simp only [fCount, if_neg s1_0, if_neg s1_1, if_neg s1_2, if_neg s1_3, if_neg s1_4, if_neg s1_5, if_neg s1_6, if_neg s1_7, if_pos s1_8], rfl, rfl, rfl⟩)
  by_cases s1_9 : w = nI 9
  · skip
    refine j_tableIn C 9 206 dX9_count_1 (by rw [s1_9]; decide) (by decide) rfl (by decide) ?_
    refine j_aload_n C dX9_count_206 rfl ?_
    refine j_getR C fl_X9_10 (by assumption) dX9_count_207 (by decide) rfl (by assumption) ?_
    refine j_getR C fl_X9_132 (by assumption) dX9_count_210 (by decide) rfl (by assumption) ?_
    refine j_getI C fl_X9_221 (by assumption) dX9_count_213 (by decide) rfl ?_
    exact j_ireturn C E dX9_count_216 (rfl) (by decide) (by decide) (⟨by simp only [fCount, if_neg s1_0, if_neg s1_1, if_neg s1_2, if_neg s1_3, if_neg s1_4, if_neg s1_5, if_neg s1_6, if_neg s1_7, if_neg s1_8, if_pos s1_9], rfl, rfl, rfl⟩)
  by_cases s1_10 : w = nI 10
  · skip
    refine j_tableIn C 10 217 dX9_count_1 (by rw [s1_10]; decide) (by decide) rfl (by decide) ?_
    refine j_aload_n C dX9_count_217 rfl ?_
    refine j_getR C fl_X9_10 (by assumption) dX9_count_218 (by decide) rfl (by assumption) ?_
    refine j_getI C fl_X9_224 (by assumption) dX9_count_221 (by decide) rfl ?_
    exact j_ireturn C E dX9_count_224 (rfl) (by decide) (by decide) (⟨by simp only [fCount, if_neg s1_0, if_neg s1_1, if_neg s1_2, if_neg s1_3, if_neg s1_4, if_neg s1_5, if_neg s1_6, if_neg s1_7, if_neg s1_8, if_neg s1_9, if_pos s1_10], rfl, rfl, rfl⟩)
  by_cases s1_11 : w = nI 11
  · skip
    refine j_tableIn C 11 225 dX9_count_1 (by rw [s1_11]; decide) (by decide) rfl (by decide) ?_
    refine j_aload_n C dX9_count_225 rfl ?_
    refine j_getR C fl_X9_10 (by assumption) dX9_count_226 (by decide) rfl (by assumption) ?_
    refine j_getR C fl_X9_132 (by assumption) dX9_count_229 (by decide) rfl (by assumption) ?_
    refine j_getI C fl_X9_227 (by assumption) dX9_count_232 (by decide) rfl ?_
    exact j_ireturn C E dX9_count_235 (rfl) (by decide) (by decide) (⟨by simp only [fCount, if_neg s1_0, if_neg s1_1, if_neg s1_2, if_neg s1_3, if_neg s1_4, if_neg s1_5, if_neg s1_6, if_neg s1_7, if_neg s1_8, if_neg s1_9, if_neg s1_10, if_pos s1_11], rfl, rfl, rfl⟩)
  by_cases s1_12 : w = nI 12
  · skip
    refine j_tableIn C 12 236 dX9_count_1 (by rw [s1_12]; decide) (by decide) rfl (by decide) ?_
    refine j_aload_n C dX9_count_236 rfl ?_
    refine j_getR C fl_X9_19 (by assumption) dX9_count_237 (by decide) rfl (by assumption) ?_
    refine j_getI C fl_X9_230 (by assumption) dX9_count_240 (by decide) rfl ?_
    exact j_ireturn C E dX9_count_243 (rfl) (by decide) (by decide) (⟨by simp only [fCount, if_neg s1_0, if_neg s1_1, if_neg s1_2, if_neg s1_3, if_neg s1_4, if_neg s1_5, if_neg s1_6, if_neg s1_7, if_neg s1_8, if_neg s1_9, if_neg s1_10, if_neg s1_11, if_pos s1_12], rfl, rfl, rfl⟩)
  by_cases s1_13 : w = nI 13
  · skip
    refine j_tableIn C 13 244 dX9_count_1 (by rw [s1_13]; decide) (by decide) rfl (by decide) ?_
    refine j_aload_n C dX9_count_244 rfl ?_
    refine j_getR C fl_X9_26 (by assumption) dX9_count_245 (by decide) rfl (by assumption) ?_
    refine j_getI C fl_X9_231 (by assumption) dX9_count_248 (by decide) rfl ?_
    exact j_ireturn C E dX9_count_251 (rfl) (by decide) (by decide) (⟨by simp only [fCount, if_neg s1_0, if_neg s1_1, if_neg s1_2, if_neg s1_3, if_neg s1_4, if_neg s1_5, if_neg s1_6, if_neg s1_7, if_neg s1_8, if_neg s1_9, if_neg s1_10, if_neg s1_11, if_neg s1_12, if_pos s1_13], rfl, rfl, rfl⟩)
  by_cases s1_14 : w = nI 14
  · skip
    refine j_tableIn C 14 267 dX9_count_1 (by rw [s1_14]; decide) (by decide) rfl (by decide) ?_
    refine j_iconst C (-1) dX9_count_267 (by decide) ?_
    exact j_ireturn C E dX9_count_268 (rfl) (by decide) (by decide) (⟨by simp only [fCount, if_neg s1_0, if_neg s1_1, if_neg s1_2, if_neg s1_3, if_neg s1_4, if_neg s1_5, if_neg s1_6, if_neg s1_7, if_neg s1_8, if_neg s1_9, if_neg s1_10, if_neg s1_11, if_neg s1_12, if_neg s1_13, if_pos s1_14], rfl, rfl, rfl⟩)
  by_cases s1_15 : w = nI 15
  · skip
    refine j_tableIn C 15 267 dX9_count_1 (by rw [s1_15]; decide) (by decide) rfl (by decide) ?_
    refine j_iconst C (-1) dX9_count_267 (by decide) ?_
    exact j_ireturn C E dX9_count_268 (rfl) (by decide) (by decide) (⟨by simp only [fCount, if_neg s1_0, if_neg s1_1, if_neg s1_2, if_neg s1_3, if_neg s1_4, if_neg s1_5, if_neg s1_6, if_neg s1_7, if_neg s1_8, if_neg s1_9, if_neg s1_10, if_neg s1_11, if_neg s1_12, if_neg s1_13, if_neg s1_14, if_pos s1_15], rfl, rfl, rfl⟩)
  by_cases s1_16 : w = nI 16
  · skip
    refine j_tableIn C 16 267 dX9_count_1 (by rw [s1_16]; decide) (by decide) rfl (by decide) ?_
    refine j_iconst C (-1) dX9_count_267 (by decide) ?_
    exact j_ireturn C E dX9_count_268 (rfl) (by decide) (by decide) (⟨by simp only [fCount, if_neg s1_0, if_neg s1_1, if_neg s1_2, if_neg s1_3, if_neg s1_4, if_neg s1_5, if_neg s1_6, if_neg s1_7, if_neg s1_8, if_neg s1_9, if_neg s1_10, if_neg s1_11, if_neg s1_12, if_neg s1_13, if_neg s1_14, if_neg s1_15, if_pos s1_16], rfl, rfl, rfl⟩)
  by_cases s1_17 : w = nI 17
  · skip
    refine j_tableIn C 17 267 dX9_count_1 (by rw [s1_17]; decide) (by decide) rfl (by decide) ?_
    refine j_iconst C (-1) dX9_count_267 (by decide) ?_
    exact j_ireturn C E dX9_count_268 (rfl) (by decide) (by decide) (⟨by simp only [fCount, if_neg s1_0, if_neg s1_1, if_neg s1_2, if_neg s1_3, if_neg s1_4, if_neg s1_5, if_neg s1_6, if_neg s1_7, if_neg s1_8, if_neg s1_9, if_neg s1_10, if_neg s1_11, if_neg s1_12, if_neg s1_13, if_neg s1_14, if_neg s1_15, if_neg s1_16, if_pos s1_17], rfl, rfl, rfl⟩)
  by_cases s1_18 : w = nI 18
  · skip
    refine j_tableIn C 18 267 dX9_count_1 (by rw [s1_18]; decide) (by decide) rfl (by decide) ?_
    refine j_iconst C (-1) dX9_count_267 (by decide) ?_
    exact j_ireturn C E dX9_count_268 (rfl) (by decide) (by decide) (⟨by simp only [fCount, if_neg s1_0, if_neg s1_1, if_neg s1_2, if_neg s1_3, if_neg s1_4, if_neg s1_5, if_neg s1_6, if_neg s1_7, if_neg s1_8, if_neg s1_9, if_neg s1_10, if_neg s1_11, if_neg s1_12, if_neg s1_13, if_neg s1_14, if_neg s1_15, if_neg s1_16, if_neg s1_17, if_pos s1_18], rfl, rfl, rfl⟩)
  by_cases s1_19 : w = nI 19
  · skip
    refine j_tableIn C 19 267 dX9_count_1 (by rw [s1_19]; decide) (by decide) rfl (by decide) ?_
    refine j_iconst C (-1) dX9_count_267 (by decide) ?_
    exact j_ireturn C E dX9_count_268 (rfl) (by decide) (by decide) (⟨by simp only [fCount, if_neg s1_0, if_neg s1_1, if_neg s1_2, if_neg s1_3, if_neg s1_4, if_neg s1_5, if_neg s1_6, if_neg s1_7, if_neg s1_8, if_neg s1_9, if_neg s1_10, if_neg s1_11, if_neg s1_12, if_neg s1_13, if_neg s1_14, if_neg s1_15, if_neg s1_16, if_neg s1_17, if_neg s1_18, if_pos s1_19], rfl, rfl, rfl⟩)
  by_cases s1_20 : w = nI 20
  · skip
    refine j_tableIn C 20 252 dX9_count_1 (by rw [s1_20]; decide) (by decide) rfl (by decide) ?_
    refine j_aload_n C dX9_count_252 rfl ?_
    refine j_getR C fl_X9_10 (by assumption) dX9_count_253 (by decide) rfl (by assumption) ?_
    refine j_getR C fl_X9_234 (by assumption) dX9_count_256 (by decide) rfl (by assumption) ?_
    refine j_iload_n C dX9_count_259 rfl ?_
    refine j_bipush C (nI 20) dX9_count_260 (by decide) ?_
    refine j_isub C dX9_count_262 ?_
    refine j_cSi C (c_X9_at _ _ _ _ _ (by assumption) (by decide) _) yc_X9_at mn_X9_194 st_X9_at dX9_count_263 rfl rfl (Nat.le_of_ble_eq_true rfl) (by decide) ?_
    exact j_ireturn C E dX9_count_266 (rfl) (by decide) (by decide) (⟨by simp only [fCount, if_neg s1_0, if_neg s1_1, if_neg s1_2, if_neg s1_3, if_neg s1_4, if_neg s1_5, if_neg s1_6, if_neg s1_7, if_neg s1_8, if_neg s1_9, if_neg s1_10, if_neg s1_11, if_neg s1_12, if_neg s1_13, if_neg s1_14, if_neg s1_15, if_neg s1_16, if_neg s1_17, if_neg s1_18, if_neg s1_19, if_pos s1_20], rfl, rfl, rfl⟩)
  by_cases s1_21 : w = nI 21
  · skip
    refine j_tableIn C 21 252 dX9_count_1 (by rw [s1_21]; decide) (by decide) rfl (by decide) ?_
    refine j_aload_n C dX9_count_252 rfl ?_
    refine j_getR C fl_X9_10 (by assumption) dX9_count_253 (by decide) rfl (by assumption) ?_
    refine j_getR C fl_X9_234 (by assumption) dX9_count_256 (by decide) rfl (by assumption) ?_
    refine j_iload_n C dX9_count_259 rfl ?_
    refine j_bipush C (nI 20) dX9_count_260 (by decide) ?_
    refine j_isub C dX9_count_262 ?_
    refine j_cSi C (c_X9_at _ _ _ _ _ (by assumption) (by decide) _) yc_X9_at mn_X9_194 st_X9_at dX9_count_263 rfl rfl (Nat.le_of_ble_eq_true rfl) (by decide) ?_
    exact j_ireturn C E dX9_count_266 (rfl) (by decide) (by decide) (⟨by simp only [fCount, if_neg s1_0, if_neg s1_1, if_neg s1_2, if_neg s1_3, if_neg s1_4, if_neg s1_5, if_neg s1_6, if_neg s1_7, if_neg s1_8, if_neg s1_9, if_neg s1_10, if_neg s1_11, if_neg s1_12, if_neg s1_13, if_neg s1_14, if_neg s1_15, if_neg s1_16, if_neg s1_17, if_neg s1_18, if_neg s1_19, if_neg s1_20, if_pos s1_21], rfl, rfl, rfl⟩)
  by_cases s1_22 : w = nI 22
  · skip
    refine j_tableIn C 22 252 dX9_count_1 (by rw [s1_22]; decide) (by decide) rfl (by decide) ?_
    refine j_aload_n C dX9_count_252 rfl ?_
    refine j_getR C fl_X9_10 (by assumption) dX9_count_253 (by decide) rfl (by assumption) ?_
    refine j_getR C fl_X9_234 (by assumption) dX9_count_256 (by decide) rfl (by assumption) ?_
    refine j_iload_n C dX9_count_259 rfl ?_
    refine j_bipush C (nI 20) dX9_count_260 (by decide) ?_
    refine j_isub C dX9_count_262 ?_
    refine j_cSi C (c_X9_at _ _ _ _ _ (by assumption) (by decide) _) yc_X9_at mn_X9_194 st_X9_at dX9_count_263 rfl rfl (Nat.le_of_ble_eq_true rfl) (by decide) ?_
    exact j_ireturn C E dX9_count_266 (rfl) (by decide) (by decide) (⟨by simp only [fCount, if_neg s1_0, if_neg s1_1, if_neg s1_2, if_neg s1_3, if_neg s1_4, if_neg s1_5, if_neg s1_6, if_neg s1_7, if_neg s1_8, if_neg s1_9, if_neg s1_10, if_neg s1_11, if_neg s1_12, if_neg s1_13, if_neg s1_14, if_neg s1_15, if_neg s1_16, if_neg s1_17, if_neg s1_18, if_neg s1_19, if_neg s1_20, if_neg s1_21, if_pos s1_22], rfl, rfl, rfl⟩)
  by_cases s1_23 : w = nI 23
  · skip
    refine j_tableIn C 23 252 dX9_count_1 (by rw [s1_23]; decide) (by decide) rfl (by decide) ?_
    refine j_aload_n C dX9_count_252 rfl ?_
    refine j_getR C fl_X9_10 (by assumption) dX9_count_253 (by decide) rfl (by assumption) ?_
    refine j_getR C fl_X9_234 (by assumption) dX9_count_256 (by decide) rfl (by assumption) ?_
    refine j_iload_n C dX9_count_259 rfl ?_
    refine j_bipush C (nI 20) dX9_count_260 (by decide) ?_
    refine j_isub C dX9_count_262 ?_
    refine j_cSi C (c_X9_at _ _ _ _ _ (by assumption) (by decide) _) yc_X9_at mn_X9_194 st_X9_at dX9_count_263 rfl rfl (Nat.le_of_ble_eq_true rfl) (by decide) ?_
    exact j_ireturn C E dX9_count_266 (rfl) (by decide) (by decide) (⟨by simp only [fCount, if_neg s1_0, if_neg s1_1, if_neg s1_2, if_neg s1_3, if_neg s1_4, if_neg s1_5, if_neg s1_6, if_neg s1_7, if_neg s1_8, if_neg s1_9, if_neg s1_10, if_neg s1_11, if_neg s1_12, if_neg s1_13, if_neg s1_14, if_neg s1_15, if_neg s1_16, if_neg s1_17, if_neg s1_18, if_neg s1_19, if_neg s1_20, if_neg s1_21, if_neg s1_22, if_pos s1_23], rfl, rfl, rfl⟩)
  by_cases s1_24 : w = nI 24
  · skip
    refine j_tableIn C 24 252 dX9_count_1 (by rw [s1_24]; decide) (by decide) rfl (by decide) ?_
    refine j_aload_n C dX9_count_252 rfl ?_
    refine j_getR C fl_X9_10 (by assumption) dX9_count_253 (by decide) rfl (by assumption) ?_
    refine j_getR C fl_X9_234 (by assumption) dX9_count_256 (by decide) rfl (by assumption) ?_
    refine j_iload_n C dX9_count_259 rfl ?_
    refine j_bipush C (nI 20) dX9_count_260 (by decide) ?_
    refine j_isub C dX9_count_262 ?_
    refine j_cSi C (c_X9_at _ _ _ _ _ (by assumption) (by decide) _) yc_X9_at mn_X9_194 st_X9_at dX9_count_263 rfl rfl (Nat.le_of_ble_eq_true rfl) (by decide) ?_
    exact j_ireturn C E dX9_count_266 (rfl) (by decide) (by decide) (⟨by simp only [fCount, if_neg s1_0, if_neg s1_1, if_neg s1_2, if_neg s1_3, if_neg s1_4, if_neg s1_5, if_neg s1_6, if_neg s1_7, if_neg s1_8, if_neg s1_9, if_neg s1_10, if_neg s1_11, if_neg s1_12, if_neg s1_13, if_neg s1_14, if_neg s1_15, if_neg s1_16, if_neg s1_17, if_neg s1_18, if_neg s1_19, if_neg s1_20, if_neg s1_21, if_neg s1_22, if_neg s1_23, if_pos s1_24], rfl, rfl, rfl⟩)
  refine j_tableOut C 267 dX9_count_1 (sw_out 24 (w) (by intro j hj; match j, hj with | 0, _ => exact s1_0 | 1, _ => exact s1_1 | 2, _ => exact s1_2 | 3, _ => exact s1_3 | 4, _ => exact s1_4 | 5, _ => exact s1_5 | 6, _ => exact s1_6 | 7, _ => exact s1_7 | 8, _ => exact s1_8 | 9, _ => exact s1_9 | 10, _ => exact s1_10 | 11, _ => exact s1_11 | 12, _ => exact s1_12 | 13, _ => exact s1_13 | 14, _ => exact s1_14 | 15, _ => exact s1_15 | 16, _ => exact s1_16 | 17, _ => exact s1_17 | 18, _ => exact s1_18 | 19, _ => exact s1_19 | 20, _ => exact s1_20 | 21, _ => exact s1_21 | 22, _ => exact s1_22 | 23, _ => exact s1_23 | 24, _ => exact s1_24 | n + 25, h => exact absurd h (by omega))) (by decide) ?_
  refine j_iconst C (-1) dX9_count_267 (by decide) ?_
  exact j_ireturn C E dX9_count_268 (rfl) (by decide) (by decide) (⟨by simp only [fCount, if_neg s1_0, if_neg s1_1, if_neg s1_2, if_neg s1_3, if_neg s1_4, if_neg s1_5, if_neg s1_6, if_neg s1_7, if_neg s1_8, if_neg s1_9, if_neg s1_10, if_neg s1_11, if_neg s1_12, if_neg s1_13, if_neg s1_14, if_neg s1_15, if_neg s1_16, if_neg s1_17, if_neg s1_18, if_neg s1_19, if_neg s1_20, if_neg s1_21, if_neg s1_22, if_neg s1_23, if_neg s1_24], rfl, rfl, rfl⟩)

set_option maxHeartbeats 4000000 in
set_option maxRecDepth 100000 in
theorem c_X9_fault (l : Launch) (ω : jW) (γ : jG) (M : jM) (R : jR) {x a h T v : Nat} (g : gX ω γ x a h T v) {nh n c r len : Nat} (H : CB M R a h T nh n c r len) (w : Int32) : Ct l ω yX9_fault cX9_fault 3 (some .int) 8 0 0 [.ref x, .int w] γ M R (jx γ (some (.int (fFault M T len w))) M R) := by
  refine Ct_of (by decide) (Nat.le_of_ble_eq_true rfl) rfl (jcat_of rfl) ?_
  intro X C E hnm hxl hxn
  subst hxl
  have g0g := g
  obtain ⟨x0, xa, ga, xh, gh, xT, gT, xv, gv, d1, d2, d3, d4⟩ := g
  have ga0 := ga.1
  have gh0 := gh.1
  have gT0 := gT.1
  have p0 : jP γ a 0 = some (a + 1) := ga.2.1
  have gt : gTable ω γ (a + 1) := ga.2.2.1
  have gt0 := gt.1
  have p1 : jP γ a 1 = some (a + 5) := ga.2.2.2.1
  have gs : gSums ω γ (a + 5) := ga.2.2.2.2.1
  have gs0 := gs.1
  have p4 : jP γ a 4 = some (a + 11) := ga.2.2.2.2.2.2.2.2.2.1
  have gS : gShelf ω γ (a + 11) := ga.2.2.2.2.2.2.2.2.2.2.1
  have gS0 := gS.1
  have p5 : jP γ a 5 = some (a + 22) := ga.2.2.2.2.2.2.2.2.2.2.2.1
  have gl : gLast ω γ (a + 22) := ga.2.2.2.2.2.2.2.2.2.2.2.2.1
  have gl0 := gl.1
  have gl1 : jP γ (a + 22) 0 = some (a + 23) := gl.2.1
  have gl2 : jArr ω γ (a + 23) 12 4 := gl.2.2
  have p6 : jP γ a 6 = some (a + 24) := ga.2.2.2.2.2.2.2.2.2.2.2.2.2.1
  have gc : jArr ω γ (a + 24) 12 5 := ga.2.2.2.2.2.2.2.2.2.2.2.2.2.2.1
  have gtp : jP γ (a + 1) 1 = some (a + 3) := gt.2.2.2.1
  have gu : gSums ω γ (a + 3) := gt.2.2.2.2
  have gu0 := gu.1
  obtain ⟨HI, hkp, hn, hc, hc6, hr, hr30, hT, hl, hl30, hcs, hlr⟩ := H
  have ss := HI.2.2.2.1.1
  have hs := HI.2.2.2.1.2.1
  refine j_iload_n C dX9_fault_0 rfl ?_
  refine j_iconst C (nI 0) dX9_fault_1 (by decide) ?_
  refine j_iconst C (nI 1) dX9_fault_2 (by decide) ?_
  refine j_cSi C (c_X9_within _ _ _ _ _ _ _ _) yc_X9_within mn_X9_38 st_X9_within dX9_fault_3 rfl rfl (Nat.le_of_ble_eq_true rfl) (by decide) ?_
  refine j_if_ne C 11 dX9_fault_6 (by decide) (fun h6 => ?_) (fun h6 => ?_)
  · skip
    refine j_aload_n C dX9_fault_11 rfl ?_
    refine j_getR C fl_X9_26 (by assumption) dX9_fault_12 (by decide) rfl (by assumption) ?_
    refine j_cVi C (c_X8_faultPlace _ ω γ M R gT hT hl hl30) yc_X8_faultPlace mn_X9_106 im_X8_faultPlace se_X8_faultPlace rfl rfl dX9_fault_15 rfl rfl (by assumption) (by decide) (Nat.le_of_ble_eq_true rfl) (by decide) ?_
    refine j_istore_n C dX9_fault_18 (by rw [hxn]; decide) ?_
    refine j_iload_n C dX9_fault_19 rfl ?_
    refine j_iconst C (-1) dX9_fault_20 (by decide) ?_
    refine j_icmp_ne C 27 dX9_fault_21 (by decide) (fun h21 => ?_) (fun h21 => ?_)
    · skip
      refine j_iload_n C dX9_fault_27 rfl ?_
      refine j_if_ne C 35 dX9_fault_28 (by decide) (fun h28 => ?_) (fun h28 => ?_)
      · skip
        refine j_aload_n C dX9_fault_35 rfl ?_
        refine j_getR C fl_X9_26 (by assumption) dX9_fault_36 (by decide) rfl (by assumption) ?_
        refine j_iload_n C dX9_fault_39 rfl ?_
        refine j_cVi C (c_X8_reasonAt _ ω γ M R gT hT _) yc_X8_reasonAt mn_X9_268 im_X8_reasonAt se_X8_reasonAt rfl rfl dX9_fault_40 rfl rfl (by assumption) (by decide) (Nat.le_of_ble_eq_true rfl) (by decide) ?_
        exact j_ireturn C E dX9_fault_43 (rfl) (by decide) (by decide) (⟨by simp only [fFault, if_neg h6, if_neg h21, if_neg h28], rfl, rfl, rfl⟩)
      · skip
        refine j_iload_n C dX9_fault_31 rfl ?_
        refine j_goto C 43 dX9_fault_32 (by decide) ?_
        exact j_ireturn C E dX9_fault_43 (rfl) (by decide) (by decide) (⟨by simp only [fFault, if_neg h6, if_neg h21, if_pos h28], rfl, rfl, rfl⟩)
    · skip
      refine j_bipush C (-4) dX9_fault_24 (by decide) ?_
      exact j_ireturn C E dX9_fault_26 (rfl) (by decide) (by decide) (⟨by simp only [fFault, if_neg h6, if_pos h21], rfl, rfl, rfl⟩)
  · skip
    refine j_iconst C (-1) dX9_fault_9 (by decide) ?_
    exact j_ireturn C E dX9_fault_10 (rfl) (by decide) (by decide) (⟨by simp only [fFault, if_pos h6], rfl, rfl, rfl⟩)

set_option maxHeartbeats 4000000 in
set_option maxRecDepth 100000 in
theorem c_X9_row (l : Launch) (ω : jW) (γ : jG) (M : jM) (R : jR) {x a h T v : Nat} (g : gX ω γ x a h T v) {nh n c r len : Nat} (H : CB M R a h T nh n c r len) (a0 a1 a2 a3 w : Int32) : Ct l ω yX9_row cX9_row 6 (some .int) 7 0 0 [.ref x, .int a0, .int a1, .int a2, .int a3, .int w] γ M R (jx γ (some (.int (fRow M R a h v nh a0 a1 a2 a3 w))) (mRow M R a h v nh a0 a1 a2 a3 w) (pRow M R a h nh a0 a1 a2 a3 w)) := by
  refine Ct_of (by decide) (Nat.le_of_ble_eq_true rfl) rfl (jcat_of rfl) ?_
  intro X C E hnm hxl hxn
  subst hxl
  have g0g := g
  obtain ⟨x0, xa, ga, xh, gh, xT, gT, xv, gv, d1, d2, d3, d4⟩ := g
  have ga0 := ga.1
  have gh0 := gh.1
  have gT0 := gT.1
  have p0 : jP γ a 0 = some (a + 1) := ga.2.1
  have gt : gTable ω γ (a + 1) := ga.2.2.1
  have gt0 := gt.1
  have p1 : jP γ a 1 = some (a + 5) := ga.2.2.2.1
  have gs : gSums ω γ (a + 5) := ga.2.2.2.2.1
  have gs0 := gs.1
  have p4 : jP γ a 4 = some (a + 11) := ga.2.2.2.2.2.2.2.2.2.1
  have gS : gShelf ω γ (a + 11) := ga.2.2.2.2.2.2.2.2.2.2.1
  have gS0 := gS.1
  have p5 : jP γ a 5 = some (a + 22) := ga.2.2.2.2.2.2.2.2.2.2.2.1
  have gl : gLast ω γ (a + 22) := ga.2.2.2.2.2.2.2.2.2.2.2.2.1
  have gl0 := gl.1
  have gl1 : jP γ (a + 22) 0 = some (a + 23) := gl.2.1
  have gl2 : jArr ω γ (a + 23) 12 4 := gl.2.2
  have p6 : jP γ a 6 = some (a + 24) := ga.2.2.2.2.2.2.2.2.2.2.2.2.2.1
  have gc : jArr ω γ (a + 24) 12 5 := ga.2.2.2.2.2.2.2.2.2.2.2.2.2.2.1
  have gtp : jP γ (a + 1) 1 = some (a + 3) := gt.2.2.2.1
  have gu : gSums ω γ (a + 3) := gt.2.2.2.2
  have gu0 := gu.1
  obtain ⟨HI, hkp, hn, hc, hc6, hr, hr30, hT, hl, hl30, hcs, hlr⟩ := H
  have ss := HI.2.2.2.1.1
  have hs := HI.2.2.2.1.2.1
  have e1 : ∀ y, (y < h ∨ h + 174 ≤ y) → rPuM M R h a nh y = M y := fun y hy => rPuM_o HI hy
  have eR : ∀ y, y ≠ h + 1 → rPuR R h nh y = R y := fun y hy => rPuR_o hy
  have hSA1 : SA (rPuM M R h a nh) (rPuR R h nh) a := SA_cong HI.2.2.2.1 (fun y hy => e1 y (by omega)) (fun y hy => eR y (by omega))
  have ss1 := hSA1.1
  have hs1 := hSA1.2.1
  refine j_iload_n C dX9_row_0 rfl ?_
  refine j_cSi C (c_X9_isValue _ _ _ _ _ _) yc_X9_isValue mn_X9_34 st_X9_isValue dX9_row_1 rfl rfl (Nat.le_of_ble_eq_true rfl) (by decide) ?_
  refine j_if_eq C 41 dX9_row_4 (by decide) (fun h4 => ?_) (fun h4 => ?_)
  · skip
    refine j_iconst C (-1) dX9_row_41 (by decide) ?_
    exact j_ireturn C E dX9_row_42 (rfl) (by decide) (by decide) (⟨by simp only [fRow, m3Row, if_pos h4], rfl, by simp only [mRow, m3Row, if_pos h4], by simp only [pRow, if_pos h4]⟩)
  · skip
    refine j_iload_n C dX9_row_7 rfl ?_
    refine j_cSi C (c_X9_isValue _ _ _ _ _ _) yc_X9_isValue mn_X9_34 st_X9_isValue dX9_row_8 rfl rfl (Nat.le_of_ble_eq_true rfl) (by decide) ?_
    refine j_if_eq C 41 dX9_row_11 (by decide) (fun h11 => ?_) (fun h11 => ?_)
    · skip
      refine j_iconst C (-1) dX9_row_41 (by decide) ?_
      exact j_ireturn C E dX9_row_42 (rfl) (by decide) (by decide) (⟨by simp only [fRow, m3Row, if_neg h4, if_pos h11], rfl, by simp only [mRow, m3Row, if_neg h4, if_pos h11], by simp only [pRow, if_neg h4, if_pos h11]⟩)
    · skip
      refine j_iload_n C dX9_row_14 rfl ?_
      refine j_cSi C (c_X9_isValue _ _ _ _ _ _) yc_X9_isValue mn_X9_34 st_X9_isValue dX9_row_15 rfl rfl (Nat.le_of_ble_eq_true rfl) (by decide) ?_
      refine j_if_eq C 41 dX9_row_18 (by decide) (fun h18 => ?_) (fun h18 => ?_)
      · skip
        refine j_iconst C (-1) dX9_row_41 (by decide) ?_
        exact j_ireturn C E dX9_row_42 (rfl) (by decide) (by decide) (⟨by simp only [fRow, m3Row, if_neg h4, if_neg h11, if_pos h18], rfl, by simp only [mRow, m3Row, if_neg h4, if_neg h11, if_pos h18], by simp only [pRow, if_neg h4, if_neg h11, if_pos h18]⟩)
      · skip
        refine j_iload C dX9_row_21 rfl ?_
        refine j_cSi C (c_X9_isValue _ _ _ _ _ _) yc_X9_isValue mn_X9_34 st_X9_isValue dX9_row_23 rfl rfl (Nat.le_of_ble_eq_true rfl) (by decide) ?_
        refine j_if_eq C 41 dX9_row_26 (by decide) (fun h26 => ?_) (fun h26 => ?_)
        · skip
          refine j_iconst C (-1) dX9_row_41 (by decide) ?_
          exact j_ireturn C E dX9_row_42 (rfl) (by decide) (by decide) (⟨by simp only [fRow, m3Row, if_neg h4, if_neg h11, if_neg h18, if_pos h26], rfl, by simp only [mRow, m3Row, if_neg h4, if_neg h11, if_neg h18, if_pos h26], by simp only [pRow, if_neg h4, if_neg h11, if_neg h18, if_pos h26]⟩)
        · skip
          refine j_iload C dX9_row_29 rfl ?_
          refine j_iconst C (nI 1) dX9_row_31 (by decide) ?_
          refine j_sipush C (nI 999) dX9_row_32 (by decide) ?_
          refine j_cSi C (c_X9_within _ _ _ _ _ _ _ _) yc_X9_within mn_X9_38 st_X9_within dX9_row_35 rfl rfl (Nat.le_of_ble_eq_true rfl) (by decide) ?_
          refine j_if_ne C 43 dX9_row_38 (by decide) (fun h38 => ?_) (fun h38 => ?_)
          · skip
            refine j_aload_n C dX9_row_43 rfl ?_
            refine j_getR C fl_X9_10 (by assumption) dX9_row_44 (by decide) rfl (by assumption) ?_
            refine j_getR C fl_X9_42 (by assumption) dX9_row_47 (by decide) rfl (by assumption) ?_
            refine j_getI C fl_X9_46 (by assumption) dX9_row_50 (by decide) rfl ?_
            refine j_bipush C (nI 30) dX9_row_53 (by decide) ?_
            refine j_icmp_lt C 61 dX9_row_55 (by decide) (fun h55 => ?_) (fun h55 => ?_)
            · skip
              refine j_aload_n C dX9_row_61 rfl ?_
              refine j_cVv C (c_X9_record _ ω γ M R g0g HI) yc_X9_record mn_X9_52 im_X9_record se_X9_record rfl rfl dX9_row_62 rfl rfl (by assumption) (by decide) (Nat.le_of_ble_eq_true rfl) (by decide) ?_
              refine j_aload_n C dX9_row_65 rfl ?_
              refine j_getR C fl_X9_10 (by assumption) dX9_row_66 (by decide) rfl (by assumption) ?_
              refine j_getR C fl_X9_42 (by assumption) dX9_row_69 (by decide) rfl (by assumption) ?_
              refine j_aload_n C dX9_row_72 rfl ?_
              refine j_iload_n C dX9_row_73 rfl ?_
              refine j_iload_n C dX9_row_74 rfl ?_
              refine j_iload_n C dX9_row_75 rfl ?_
              refine j_iload C dX9_row_76 rfl ?_
              refine j_cVr C (c_X9_gathered _ ω γ _ _ g0g a0 a1 a2 a3) yc_X9_gathered mn_X9_55 im_X9_gathered se_X9_gathered rfl rfl dX9_row_78 rfl rfl (by assumption) (by decide) (Nat.le_of_ble_eq_true rfl) (by decide) ?_
              refine j_iload C dX9_row_81 rfl ?_
              refine j_cVi C (c_X7_append _ ω γ _ _ gt gv w) yc_X7_append mn_X9_59 im_X7_append se_X7_append rfl rfl dX9_row_83 rfl rfl (by assumption) (by decide) (Nat.le_of_ble_eq_true rfl) (by decide) ?_
              exact j_ireturn C E dX9_row_86 (rfl) (by decide) (by decide) (⟨by simp only [fRow, m3Row, if_neg h4, if_neg h11, if_neg h18, if_neg h26, if_neg h38, if_pos h55], rfl, by simp only [mRow, m3Row, if_neg h4, if_neg h11, if_neg h18, if_neg h26, if_neg h38, if_pos h55], by simp only [pRow, if_neg h4, if_neg h11, if_neg h18, if_neg h26, if_neg h38, if_pos h55]⟩)
            · skip
              refine j_bipush C (-3) dX9_row_58 (by decide) ?_
              exact j_ireturn C E dX9_row_60 (rfl) (by decide) (by decide) (⟨by simp only [fRow, m3Row, if_neg h4, if_neg h11, if_neg h18, if_neg h26, if_neg h38, if_neg h55], rfl, by simp only [mRow, m3Row, if_neg h4, if_neg h11, if_neg h18, if_neg h26, if_neg h38, if_neg h55], by simp only [pRow, if_neg h4, if_neg h11, if_neg h18, if_neg h26, if_neg h38, if_neg h55]⟩)
          · skip
            refine j_iconst C (-1) dX9_row_41 (by decide) ?_
            exact j_ireturn C E dX9_row_42 (rfl) (by decide) (by decide) (⟨by simp only [fRow, m3Row, if_neg h4, if_neg h11, if_neg h18, if_neg h26, if_pos h38], rfl, by simp only [mRow, m3Row, if_neg h4, if_neg h11, if_neg h18, if_neg h26, if_pos h38], by simp only [pRow, if_neg h4, if_neg h11, if_neg h18, if_neg h26, if_pos h38]⟩)

set_option maxHeartbeats 4000000 in
set_option maxRecDepth 100000 in
theorem c_X9_dropRow (l : Launch) (ω : jW) (γ : jG) (M : jM) (R : jR) {x a h T v : Nat} (g : gX ω γ x a h T v) {nh n c r len : Nat} (H : CB M R a h T nh n c r len) (p : Int32) : Ct l ω yX9_dropRow cX9_dropRow 2 (some .int) 7 0 0 [.ref x, .int p] γ M R (jx γ (some (.int (fDrow M R a h nh p))) (mDrow M R a h nh r p) (pDrow M R a h nh p)) := by
  refine Ct_of (by decide) (Nat.le_of_ble_eq_true rfl) rfl (jcat_of rfl) ?_
  intro X C E hnm hxl hxn
  subst hxl
  have g0g := g
  obtain ⟨x0, xa, ga, xh, gh, xT, gT, xv, gv, d1, d2, d3, d4⟩ := g
  have ga0 := ga.1
  have gh0 := gh.1
  have gT0 := gT.1
  have p0 : jP γ a 0 = some (a + 1) := ga.2.1
  have gt : gTable ω γ (a + 1) := ga.2.2.1
  have gt0 := gt.1
  have p1 : jP γ a 1 = some (a + 5) := ga.2.2.2.1
  have gs : gSums ω γ (a + 5) := ga.2.2.2.2.1
  have gs0 := gs.1
  have p4 : jP γ a 4 = some (a + 11) := ga.2.2.2.2.2.2.2.2.2.1
  have gS : gShelf ω γ (a + 11) := ga.2.2.2.2.2.2.2.2.2.2.1
  have gS0 := gS.1
  have p5 : jP γ a 5 = some (a + 22) := ga.2.2.2.2.2.2.2.2.2.2.2.1
  have gl : gLast ω γ (a + 22) := ga.2.2.2.2.2.2.2.2.2.2.2.2.1
  have gl0 := gl.1
  have gl1 : jP γ (a + 22) 0 = some (a + 23) := gl.2.1
  have gl2 : jArr ω γ (a + 23) 12 4 := gl.2.2
  have p6 : jP γ a 6 = some (a + 24) := ga.2.2.2.2.2.2.2.2.2.2.2.2.2.1
  have gc : jArr ω γ (a + 24) 12 5 := ga.2.2.2.2.2.2.2.2.2.2.2.2.2.2.1
  have gtp : jP γ (a + 1) 1 = some (a + 3) := gt.2.2.2.1
  have gu : gSums ω γ (a + 3) := gt.2.2.2.2
  have gu0 := gu.1
  obtain ⟨HI, hkp, hn, hc, hc6, hr, hr30, hT, hl, hl30, hcs, hlr⟩ := H
  have ss := HI.2.2.2.1.1
  have hs := HI.2.2.2.1.2.1
  have e1 : ∀ y, (y < h ∨ h + 174 ≤ y) → rPuM M R h a nh y = M y := fun y hy => rPuM_o HI hy
  have eR : ∀ y, y ≠ h + 1 → rPuR R h nh y = R y := fun y hy => rPuR_o hy
  have hSA1 : SA (rPuM M R h a nh) (rPuR R h nh) a := SA_cong HI.2.2.2.1 (fun y hy => e1 y (by omega)) (fun y hy => eR y (by omega))
  have ss1 := hSA1.1
  have hs1 := hSA1.2.1
  refine j_aload_n C dX9_dropRow_0 rfl ?_
  refine j_getR C fl_X9_10 (by assumption) dX9_dropRow_1 (by decide) rfl (by assumption) ?_
  refine j_getR C fl_X9_42 (by assumption) dX9_dropRow_4 (by decide) rfl (by assumption) ?_
  refine j_iload_n C dX9_dropRow_7 rfl ?_
  refine j_cVi C (c_X7_hasRow _ _ _ _ _ (by assumption) _) yc_X7_hasRow mn_X9_63 im_X7_hasRow se_X7_hasRow rfl rfl dX9_dropRow_8 rfl rfl (by assumption) (by decide) (Nat.le_of_ble_eq_true rfl) (by decide) ?_
  refine j_if_ne C 16 dX9_dropRow_11 (by decide) (fun h11 => ?_) (fun h11 => ?_)
  · skip
    obtain ⟨k, hk, ek⟩ := rHasR_s hr hr30 h11
    refine j_aload_n C dX9_dropRow_16 rfl ?_
    refine j_cVv C (c_X9_record _ ω γ M R g0g HI) yc_X9_record mn_X9_52 im_X9_record se_X9_record rfl rfl dX9_dropRow_17 rfl rfl (by assumption) (by decide) (Nat.le_of_ble_eq_true rfl) (by decide) ?_
    refine j_aload_n C dX9_dropRow_20 rfl ?_
    refine j_getR C fl_X9_10 (by assumption) dX9_dropRow_21 (by decide) rfl (by assumption) ?_
    refine j_getR C fl_X9_42 (by assumption) dX9_dropRow_24 (by decide) rfl (by assumption) ?_
    refine j_iload_n C dX9_dropRow_27 rfl ?_
    have ek2 : p.toNatClampNeg = k := by rw [ek]; exact nI_clamp (by omega)
    have hct := c_X7_remove (xl X) ω γ (rPuM M R h a nh) (rPuR R h nh) gt (show rPuM M R h a nh (a + 1) 2 = nI r by rw [e1 _ (by omega)]; exact hr) hk hr30
    rw [← ek] at hct
    refine j_cVi C (hct) yc_X7_remove mn_X9_66 im_X7_remove se_X7_remove rfl rfl dX9_dropRow_28 rfl rfl (by assumption) (by decide) (Nat.le_of_ble_eq_true rfl) (by decide) ?_
    exact j_ireturn C E dX9_dropRow_31 (rfl) (by decide) (by decide) (⟨by simp only [fDrow, if_neg h11], rfl, by simp only [mDrow, if_neg h11, ek2], by simp only [pDrow, if_neg h11]⟩)
  · skip
    refine j_iconst C (-1) dX9_dropRow_14 (by decide) ?_
    exact j_ireturn C E dX9_dropRow_15 (rfl) (by decide) (by decide) (⟨by simp only [fDrow, if_pos h11], rfl, by simp only [mDrow, if_pos h11], by simp only [pDrow, if_pos h11]⟩)

set_option maxHeartbeats 4000000 in
set_option maxRecDepth 100000 in
theorem c_X9_index (l : Launch) (ω : jW) (γ : jG) (M : jM) (R : jR) {x a h T v : Nat} (g : gX ω γ x a h T v) {nh n c r len : Nat} (H : CB M R a h T nh n c r len) (c9 w : Int32) : Ct l ω yX9_index cX9_index 3 (some .int) 7 0 0 [.ref x, .int c9, .int w] γ M R (jx γ (some (.int (fIndex M R a h nh n c9 w))) (mIndex M R a h nh n c9 w) (pIndex M R a h nh n c9 w)) := by
  refine Ct_of (by decide) (Nat.le_of_ble_eq_true rfl) rfl (jcat_of rfl) ?_
  intro X C E hnm hxl hxn
  subst hxl
  have g0g := g
  obtain ⟨x0, xa, ga, xh, gh, xT, gT, xv, gv, d1, d2, d3, d4⟩ := g
  have ga0 := ga.1
  have gh0 := gh.1
  have gT0 := gT.1
  have p0 : jP γ a 0 = some (a + 1) := ga.2.1
  have gt : gTable ω γ (a + 1) := ga.2.2.1
  have gt0 := gt.1
  have p1 : jP γ a 1 = some (a + 5) := ga.2.2.2.1
  have gs : gSums ω γ (a + 5) := ga.2.2.2.2.1
  have gs0 := gs.1
  have p4 : jP γ a 4 = some (a + 11) := ga.2.2.2.2.2.2.2.2.2.1
  have gS : gShelf ω γ (a + 11) := ga.2.2.2.2.2.2.2.2.2.2.1
  have gS0 := gS.1
  have p5 : jP γ a 5 = some (a + 22) := ga.2.2.2.2.2.2.2.2.2.2.2.1
  have gl : gLast ω γ (a + 22) := ga.2.2.2.2.2.2.2.2.2.2.2.2.1
  have gl0 := gl.1
  have gl1 : jP γ (a + 22) 0 = some (a + 23) := gl.2.1
  have gl2 : jArr ω γ (a + 23) 12 4 := gl.2.2
  have p6 : jP γ a 6 = some (a + 24) := ga.2.2.2.2.2.2.2.2.2.2.2.2.2.1
  have gc : jArr ω γ (a + 24) 12 5 := ga.2.2.2.2.2.2.2.2.2.2.2.2.2.2.1
  have gtp : jP γ (a + 1) 1 = some (a + 3) := gt.2.2.2.1
  have gu : gSums ω γ (a + 3) := gt.2.2.2.2
  have gu0 := gu.1
  obtain ⟨HI, hkp, hn, hc, hc6, hr, hr30, hT, hl, hl30, hcs, hlr⟩ := H
  have ss := HI.2.2.2.1.1
  have hs := HI.2.2.2.1.2.1
  have e1 : ∀ y, (y < h ∨ h + 174 ≤ y) → rPuM M R h a nh y = M y := fun y hy => rPuM_o HI hy
  have eR : ∀ y, y ≠ h + 1 → rPuR R h nh y = R y := fun y hy => rPuR_o hy
  have hSA1 : SA (rPuM M R h a nh) (rPuR R h nh) a := SA_cong HI.2.2.2.1 (fun y hy => e1 y (by omega)) (fun y hy => eR y (by omega))
  have ss1 := hSA1.1
  have hs1 := hSA1.2.1
  refine j_iload_n C dX9_index_0 rfl ?_
  refine j_cSi C (c_X9_isColumn _ _ _ _ _ _) yc_X9_isColumn mn_X9_70 st_X9_isColumn dX9_index_1 rfl rfl (Nat.le_of_ble_eq_true rfl) (by decide) ?_
  refine j_if_eq C 16 dX9_index_4 (by decide) (fun h4 => ?_) (fun h4 => ?_)
  · skip
    refine j_iconst C (-1) dX9_index_16 (by decide) ?_
    exact j_ireturn C E dX9_index_17 (rfl) (by decide) (by decide) (⟨by simp only [fIndex, if_pos h4], rfl, by simp only [mIndex, if_pos h4], by simp only [pIndex, if_pos h4]⟩)
  · skip
    refine j_iload_n C dX9_index_7 rfl ?_
    refine j_iconst C (nI 0) dX9_index_8 (by decide) ?_
    refine j_iconst C (nI 1) dX9_index_9 (by decide) ?_
    refine j_cSi C (c_X9_within _ _ _ _ _ _ _ _) yc_X9_within mn_X9_38 st_X9_within dX9_index_10 rfl rfl (Nat.le_of_ble_eq_true rfl) (by decide) ?_
    refine j_if_ne C 18 dX9_index_13 (by decide) (fun h13 => ?_) (fun h13 => ?_)
    · skip
      refine j_aload_n C dX9_index_18 rfl ?_
      refine j_getR C fl_X9_10 (by assumption) dX9_index_19 (by decide) rfl (by assumption) ?_
      refine j_iload_n C dX9_index_22 rfl ?_
      refine j_cVi C (c_X4_isIndexed _ _ _ _ _ (by assumption) _) yc_X4_isIndexed mn_X9_73 im_X4_isIndexed se_X4_isIndexed rfl rfl dX9_index_23 rfl rfl (by assumption) (by decide) (Nat.le_of_ble_eq_true rfl) (by decide) ?_
      refine j_iload_n C dX9_index_26 rfl ?_
      refine j_iconst C (nI 1) dX9_index_27 (by decide) ?_
      refine j_icmp_ne C 35 dX9_index_28 (by decide) (fun h28 => ?_) (fun h28 => ?_)
      · skip
        refine j_iconst C (nI 0) dX9_index_35 (by decide) ?_
        refine j_top (if w = nI 1 then nI 1 else nI 0) (by first | rw [if_pos h28] | rw [if_neg h28]) ?_
        refine j_icmp_ne C 42 dX9_index_36 (by decide) (fun h36 => ?_) (fun h36 => ?_)
        · skip
          refine j_aload_n C dX9_index_42 rfl ?_
          refine j_cVv C (c_X9_record _ ω γ M R g0g HI) yc_X9_record mn_X9_52 im_X9_record se_X9_record rfl rfl dX9_index_43 rfl rfl (by assumption) (by decide) (Nat.le_of_ble_eq_true rfl) (by decide) ?_
          refine j_aload_n C dX9_index_46 rfl ?_
          refine j_getR C fl_X9_10 (by assumption) dX9_index_47 (by decide) rfl (by assumption) ?_
          refine j_iload_n C dX9_index_50 rfl ?_
          refine j_cVv C (c_X4_flipIndex _ _ _ _ _ (by assumption) _) yc_X4_flipIndex mn_X9_76 im_X4_flipIndex se_X4_flipIndex rfl rfl dX9_index_51 rfl rfl (by assumption) (by decide) (Nat.le_of_ble_eq_true rfl) (by decide) ?_
          refine j_mem (m2Idx M R a h nh c9) rfl ?_
          refine j_iload_n C dX9_index_54 rfl ?_
          refine j_iconst C (nI 1) dX9_index_55 (by decide) ?_
          refine j_icmp_ne C 63 dX9_index_56 (by decide) (fun h56 => ?_) (fun h56 => ?_)
          · skip
            refine j_aload_n C dX9_index_63 rfl ?_
            refine j_getR C fl_X9_10 (by assumption) dX9_index_64 (by decide) rfl (by assumption) ?_
            refine j_iload_n C dX9_index_67 rfl ?_
            refine j_cVi C (c_X4_throwAwayPlansBy _ ω γ _ _ ga ss1 hs1 (show m2Idx M R a h nh c9 (a + 11) 2 = nI n by rw [m2Idx, jup_row _ _ (by omega), e1 _ (by omega)]; exact hkp) hn c9) yc_X4_throwAwayPlansBy mn_X9_80 im_X4_throwAwayPlansBy se_X4_throwAwayPlansBy rfl rfl dX9_index_68 rfl rfl (by assumption) (by decide) (Nat.le_of_ble_eq_true rfl) (by decide) ?_
            exact j_ireturn C E dX9_index_71 (rfl) (by decide) (by decide) (⟨by simp only [fIndex, if_neg h4, if_neg h13, if_neg h36]; first | rw [if_neg h56] | rw [if_pos h56], rfl, by simp only [mIndex, if_neg h4, if_neg h13, if_neg h36]; first | rw [if_neg h56] | rw [if_pos h56], by simp only [pIndex, if_neg h4, if_neg h13, if_neg h36]; first | rw [if_neg h56] | rw [if_pos h56]⟩)
          · skip
            refine j_iconst C (nI 0) dX9_index_59 (by decide) ?_
            refine j_goto C 71 dX9_index_60 (by decide) ?_
            exact j_ireturn C E dX9_index_71 (rfl) (by decide) (by decide) (⟨by simp only [fIndex, if_neg h4, if_neg h13, if_neg h36]; first | rw [if_neg h56] | rw [if_pos h56], rfl, by simp only [mIndex, if_neg h4, if_neg h13, if_neg h36]; first | rw [if_neg h56] | rw [if_pos h56], by simp only [pIndex, if_neg h4, if_neg h13, if_neg h36]; first | rw [if_neg h56] | rw [if_pos h56]⟩)
        · skip
          refine j_bipush C (-2) dX9_index_39 (by decide) ?_
          exact j_ireturn C E dX9_index_41 (rfl) (by decide) (by decide) (⟨by simp only [fIndex, if_neg h4, if_neg h13, if_pos h36], rfl, by simp only [mIndex, if_neg h4, if_neg h13, if_pos h36], by simp only [pIndex, if_neg h4, if_neg h13, if_pos h36]⟩)
      · skip
        refine j_iconst C (nI 1) dX9_index_31 (by decide) ?_
        refine j_goto C 36 dX9_index_32 (by decide) ?_
        refine j_top (if w = nI 1 then nI 1 else nI 0) (by first | rw [if_pos h28] | rw [if_neg h28]) ?_
        refine j_icmp_ne C 42 dX9_index_36 (by decide) (fun h36 => ?_) (fun h36 => ?_)
        · skip
          refine j_aload_n C dX9_index_42 rfl ?_
          refine j_cVv C (c_X9_record _ ω γ M R g0g HI) yc_X9_record mn_X9_52 im_X9_record se_X9_record rfl rfl dX9_index_43 rfl rfl (by assumption) (by decide) (Nat.le_of_ble_eq_true rfl) (by decide) ?_
          refine j_aload_n C dX9_index_46 rfl ?_
          refine j_getR C fl_X9_10 (by assumption) dX9_index_47 (by decide) rfl (by assumption) ?_
          refine j_iload_n C dX9_index_50 rfl ?_
          refine j_cVv C (c_X4_flipIndex _ _ _ _ _ (by assumption) _) yc_X4_flipIndex mn_X9_76 im_X4_flipIndex se_X4_flipIndex rfl rfl dX9_index_51 rfl rfl (by assumption) (by decide) (Nat.le_of_ble_eq_true rfl) (by decide) ?_
          refine j_mem (m2Idx M R a h nh c9) rfl ?_
          refine j_iload_n C dX9_index_54 rfl ?_
          refine j_iconst C (nI 1) dX9_index_55 (by decide) ?_
          refine j_icmp_ne C 63 dX9_index_56 (by decide) (fun h56 => ?_) (fun h56 => ?_)
          · skip
            refine j_aload_n C dX9_index_63 rfl ?_
            refine j_getR C fl_X9_10 (by assumption) dX9_index_64 (by decide) rfl (by assumption) ?_
            refine j_iload_n C dX9_index_67 rfl ?_
            refine j_cVi C (c_X4_throwAwayPlansBy _ ω γ _ _ ga ss1 hs1 (show m2Idx M R a h nh c9 (a + 11) 2 = nI n by rw [m2Idx, jup_row _ _ (by omega), e1 _ (by omega)]; exact hkp) hn c9) yc_X4_throwAwayPlansBy mn_X9_80 im_X4_throwAwayPlansBy se_X4_throwAwayPlansBy rfl rfl dX9_index_68 rfl rfl (by assumption) (by decide) (Nat.le_of_ble_eq_true rfl) (by decide) ?_
            exact j_ireturn C E dX9_index_71 (rfl) (by decide) (by decide) (⟨by simp only [fIndex, if_neg h4, if_neg h13, if_neg h36]; first | rw [if_neg h56] | rw [if_pos h56], rfl, by simp only [mIndex, if_neg h4, if_neg h13, if_neg h36]; first | rw [if_neg h56] | rw [if_pos h56], by simp only [pIndex, if_neg h4, if_neg h13, if_neg h36]; first | rw [if_neg h56] | rw [if_pos h56]⟩)
          · skip
            refine j_iconst C (nI 0) dX9_index_59 (by decide) ?_
            refine j_goto C 71 dX9_index_60 (by decide) ?_
            exact j_ireturn C E dX9_index_71 (rfl) (by decide) (by decide) (⟨by simp only [fIndex, if_neg h4, if_neg h13, if_neg h36]; first | rw [if_neg h56] | rw [if_pos h56], rfl, by simp only [mIndex, if_neg h4, if_neg h13, if_neg h36]; first | rw [if_neg h56] | rw [if_pos h56], by simp only [pIndex, if_neg h4, if_neg h13, if_neg h36]; first | rw [if_neg h56] | rw [if_pos h56]⟩)
        · skip
          refine j_bipush C (-2) dX9_index_39 (by decide) ?_
          exact j_ireturn C E dX9_index_41 (rfl) (by decide) (by decide) (⟨by simp only [fIndex, if_neg h4, if_neg h13, if_pos h36], rfl, by simp only [mIndex, if_neg h4, if_neg h13, if_pos h36], by simp only [pIndex, if_neg h4, if_neg h13, if_pos h36]⟩)
    · skip
      refine j_iconst C (-1) dX9_index_16 (by decide) ?_
      exact j_ireturn C E dX9_index_17 (rfl) (by decide) (by decide) (⟨by simp only [fIndex, if_neg h4, if_pos h13], rfl, by simp only [mIndex, if_neg h4, if_pos h13], by simp only [pIndex, if_neg h4, if_pos h13]⟩)

set_option maxHeartbeats 4000000 in
set_option maxRecDepth 100000 in
theorem c_X9_analyse (l : Launch) (ω : jW) (γ : jG) (M : jM) (R : jR) {x a h T v : Nat} (g : gX ω γ x a h T v) {nh n c r len : Nat} (H : CB M R a h T nh n c r len)  : Ct l ω yX9_analyse cX9_analyse 1 (some .int) 7 0 0 [.ref x] γ M R (jx γ (some (.int (mAna M R a h nh (a + 5) 1))) (mAna M R a h nh) (rPuR R h nh)) := by
  refine Ct_of (by decide) (Nat.le_of_ble_eq_true rfl) rfl (jcat_of rfl) ?_
  intro X C E hnm hxl hxn
  subst hxl
  have g0g := g
  obtain ⟨x0, xa, ga, xh, gh, xT, gT, xv, gv, d1, d2, d3, d4⟩ := g
  have ga0 := ga.1
  have gh0 := gh.1
  have gT0 := gT.1
  have p0 : jP γ a 0 = some (a + 1) := ga.2.1
  have gt : gTable ω γ (a + 1) := ga.2.2.1
  have gt0 := gt.1
  have p1 : jP γ a 1 = some (a + 5) := ga.2.2.2.1
  have gs : gSums ω γ (a + 5) := ga.2.2.2.2.1
  have gs0 := gs.1
  have p4 : jP γ a 4 = some (a + 11) := ga.2.2.2.2.2.2.2.2.2.1
  have gS : gShelf ω γ (a + 11) := ga.2.2.2.2.2.2.2.2.2.2.1
  have gS0 := gS.1
  have p5 : jP γ a 5 = some (a + 22) := ga.2.2.2.2.2.2.2.2.2.2.2.1
  have gl : gLast ω γ (a + 22) := ga.2.2.2.2.2.2.2.2.2.2.2.2.1
  have gl0 := gl.1
  have gl1 : jP γ (a + 22) 0 = some (a + 23) := gl.2.1
  have gl2 : jArr ω γ (a + 23) 12 4 := gl.2.2
  have p6 : jP γ a 6 = some (a + 24) := ga.2.2.2.2.2.2.2.2.2.2.2.2.2.1
  have gc : jArr ω γ (a + 24) 12 5 := ga.2.2.2.2.2.2.2.2.2.2.2.2.2.2.1
  have gtp : jP γ (a + 1) 1 = some (a + 3) := gt.2.2.2.1
  have gu : gSums ω γ (a + 3) := gt.2.2.2.2
  have gu0 := gu.1
  obtain ⟨HI, hkp, hn, hc, hc6, hr, hr30, hT, hl, hl30, hcs, hlr⟩ := H
  have ss := HI.2.2.2.1.1
  have hs := HI.2.2.2.1.2.1
  have e1 : ∀ y, (y < h ∨ h + 174 ≤ y) → rPuM M R h a nh y = M y := fun y hy => rPuM_o HI hy
  have eR : ∀ y, y ≠ h + 1 → rPuR R h nh y = R y := fun y hy => rPuR_o hy
  have hSA1 : SA (rPuM M R h a nh) (rPuR R h nh) a := SA_cong HI.2.2.2.1 (fun y hy => e1 y (by omega)) (fun y hy => eR y (by omega))
  have ss1 := hSA1.1
  have hs1 := hSA1.2.1
  refine j_aload_n C dX9_analyse_0 rfl ?_
  refine j_cVv C (c_X9_record _ ω γ M R g0g HI) yc_X9_record mn_X9_52 im_X9_record se_X9_record rfl rfl dX9_analyse_1 rfl rfl (by assumption) (by decide) (Nat.le_of_ble_eq_true rfl) (by decide) ?_
  refine j_aload_n C dX9_analyse_4 rfl ?_
  refine j_getR C fl_X9_10 (by assumption) dX9_analyse_5 (by decide) rfl (by assumption) ?_
  refine j_getR C fl_X9_83 (by assumption) dX9_analyse_8 (by decide) rfl (by assumption) ?_
  refine j_aload_n C dX9_analyse_11 rfl ?_
  refine j_getR C fl_X9_10 (by assumption) dX9_analyse_12 (by decide) rfl (by assumption) ?_
  refine j_getR C fl_X9_42 (by assumption) dX9_analyse_15 (by decide) rfl (by assumption) ?_
  refine j_getR C fl_X9_87 (by assumption) dX9_analyse_18 (by decide) rfl (by assumption) ?_
  refine j_cVv C (c_X6_takeFrom _ ω γ _ _ gs gu (by omega)) yc_X6_takeFrom mn_X9_90 im_X6_takeFrom se_X6_takeFrom rfl rfl dX9_analyse_21 rfl rfl (by assumption) (by decide) (Nat.le_of_ble_eq_true rfl) (by decide) ?_
  refine j_aload_n C dX9_analyse_24 rfl ?_
  refine j_getR C fl_X9_10 (by assumption) dX9_analyse_25 (by decide) rfl (by assumption) ?_
  refine j_getR C fl_X9_83 (by assumption) dX9_analyse_28 (by decide) rfl (by assumption) ?_
  refine j_getI C fl_X9_96 (by assumption) dX9_analyse_31 (by decide) rfl ?_
  exact j_ireturn C E dX9_analyse_34 (rfl) (by decide) (by decide) (⟨rfl, rfl, rfl, rfl⟩)

set_option maxHeartbeats 4000000 in
set_option maxRecDepth 100000 in
theorem c_X9_statement (l : Launch) (ω : jW) (γ : jG) (M : jM) (R : jR) {x a h T v : Nat} (g : gX ω γ x a h T v) {nh n c r len : Nat} (H : CB M R a h T nh n c r len)  : Ct l ω yX9_statement cX9_statement 2 (some .int) 8 0 0 [.ref x] γ M R (jx γ (some (.int (fStat M a T len c))) (mStat M R a h T nh len c) (pStat M R a h T nh len c)) := by
  refine Ct_of (by decide) (Nat.le_of_ble_eq_true rfl) rfl (jcat_of rfl) ?_
  intro X C E hnm hxl hxn
  subst hxl
  have g0g := g
  obtain ⟨x0, xa, ga, xh, gh, xT, gT, xv, gv, d1, d2, d3, d4⟩ := g
  have ga0 := ga.1
  have gh0 := gh.1
  have gT0 := gT.1
  have p0 : jP γ a 0 = some (a + 1) := ga.2.1
  have gt : gTable ω γ (a + 1) := ga.2.2.1
  have gt0 := gt.1
  have p1 : jP γ a 1 = some (a + 5) := ga.2.2.2.1
  have gs : gSums ω γ (a + 5) := ga.2.2.2.2.1
  have gs0 := gs.1
  have p4 : jP γ a 4 = some (a + 11) := ga.2.2.2.2.2.2.2.2.2.1
  have gS : gShelf ω γ (a + 11) := ga.2.2.2.2.2.2.2.2.2.2.1
  have gS0 := gS.1
  have p5 : jP γ a 5 = some (a + 22) := ga.2.2.2.2.2.2.2.2.2.2.2.1
  have gl : gLast ω γ (a + 22) := ga.2.2.2.2.2.2.2.2.2.2.2.2.1
  have gl0 := gl.1
  have gl1 : jP γ (a + 22) 0 = some (a + 23) := gl.2.1
  have gl2 : jArr ω γ (a + 23) 12 4 := gl.2.2
  have p6 : jP γ a 6 = some (a + 24) := ga.2.2.2.2.2.2.2.2.2.2.2.2.2.1
  have gc : jArr ω γ (a + 24) 12 5 := ga.2.2.2.2.2.2.2.2.2.2.2.2.2.2.1
  have gtp : jP γ (a + 1) 1 = some (a + 3) := gt.2.2.2.1
  have gu : gSums ω γ (a + 3) := gt.2.2.2.2
  have gu0 := gu.1
  obtain ⟨HI, hkp, hn, hc, hc6, hr, hr30, hT, hl, hl30, hcs, hlr⟩ := H
  have ss := HI.2.2.2.1.1
  have hs := HI.2.2.2.1.2.1
  have e1 : ∀ y, (y < h ∨ h + 174 ≤ y) → rPuM M R h a nh y = M y := fun y hy => rPuM_o HI hy
  have eR : ∀ y, y ≠ h + 1 → rPuR R h nh y = R y := fun y hy => rPuR_o hy
  have hSA1 : SA (rPuM M R h a nh) (rPuR R h nh) a := SA_cong HI.2.2.2.1 (fun y hy => e1 y (by omega)) (fun y hy => eR y (by omega))
  have ss1 := hSA1.1
  have hs1 := hSA1.2.1
  have hT1 : TC (rPuM M R h a nh) T := TC_o hT (e1 _ (by omega))
  refine j_aload_n C dX9_statement_0 rfl ?_
  refine j_getR C fl_X9_26 (by assumption) dX9_statement_1 (by decide) rfl (by assumption) ?_
  refine j_cVi C (c_X8_faultPlace _ ω γ M R gT hT hl hl30) yc_X8_faultPlace mn_X9_106 im_X8_faultPlace se_X8_faultPlace rfl rfl dX9_statement_4 rfl rfl (by assumption) (by decide) (Nat.le_of_ble_eq_true rfl) (by decide) ?_
  refine j_iconst C (-1) dX9_statement_7 (by decide) ?_
  refine j_icmp_eq C 14 dX9_statement_8 (by decide) (fun h8 => ?_) (fun h8 => ?_)
  · skip
    refine j_aload_n C dX9_statement_14 rfl ?_
    refine j_getR C fl_X9_10 (by assumption) dX9_statement_15 (by decide) rfl (by assumption) ?_
    refine j_aload_n C dX9_statement_18 rfl ?_
    refine j_getR C fl_X9_26 (by assumption) dX9_statement_19 (by decide) rfl (by assumption) ?_
    refine j_cVi C (c_X4_statementWith _ ω γ M R ga ss gT hT hl hl30 hc hc6 hcs) yc_X4_statementWith mn_X9_110 im_X4_statementWith se_X4_statementWith rfl rfl dX9_statement_22 rfl rfl (by assumption) (by decide) (Nat.le_of_ble_eq_true rfl) (by decide) ?_
    refine j_istore_n C dX9_statement_25 (by rw [hxn]; decide) ?_
    refine j_iload_n C dX9_statement_26 rfl ?_
    refine j_iconst C (-1) dX9_statement_27 (by decide) ?_
    refine j_icmp_ne C 46 dX9_statement_28 (by decide) (fun h28 => ?_) (fun h28 => ?_)
    · skip
      refine j_aload_n C dX9_statement_46 rfl ?_
      refine j_cVv C (c_X9_record _ ω γ M R g0g HI) yc_X9_record mn_X9_52 im_X9_record se_X9_record rfl rfl dX9_statement_47 rfl rfl (by assumption) (by decide) (Nat.le_of_ble_eq_true rfl) (by decide) ?_
      refine j_iload_n C dX9_statement_50 rfl ?_
      refine j_iconst C (-1) dX9_statement_51 (by decide) ?_
      refine j_icmp_ne C 69 dX9_statement_52 (by decide) (fun h52 => ?_) (fun h52 => ?_)
      · skip
        refine j_iload_n C dX9_statement_69 rfl ?_
        exact j_ireturn C E dX9_statement_70 (rfl) (by decide) (by decide) (⟨by first | (simp only [fStat, if_pos h8, if_neg h28, if_neg h52]; done) | exact absurd h52 h28 | exact absurd h28 h52, rfl, by first | (simp only [mStat, if_pos h8, if_neg h28, if_neg h52]; done) | exact absurd h52 h28 | exact absurd h28 h52, by first | (simp only [pStat, if_pos h8, if_neg h28, if_neg h52]; done) | exact absurd h52 h28 | exact absurd h28 h52⟩)
      · skip
        have h40c : c < 6 := (nI_ltI (by omega) (by decide)).mp (by rw [← hc]; first | exact h40 | exact absurd h52 h28)
        refine j_aload_n C dX9_statement_55 rfl ?_
        refine j_getR C fl_X9_10 (by assumption) dX9_statement_56 (by decide) rfl (by assumption) ?_
        refine j_aload_n C dX9_statement_59 rfl ?_
        refine j_getR C fl_X9_26 (by assumption) dX9_statement_60 (by decide) rfl (by assumption) ?_
        refine j_cVi C (c_X4_addStatement _ ω γ _ _ ga ss1 gT hT1 (show rPuM M R h a nh T 1 = nI len by rw [e1 _ (by omega)]; exact hl) hl30 (show rPuM M R h a nh a 8 = nI c by rw [e1 _ (by omega)]; exact hc) h40c (by omega) (by have := rFlt_len h8 hl30; omega)) yc_X4_addStatement mn_X9_117 im_X4_addStatement se_X4_addStatement rfl rfl dX9_statement_63 rfl rfl (by assumption) (by decide) (Nat.le_of_ble_eq_true rfl) (by decide) ?_
        refine j_goto C 70 dX9_statement_66 (by decide) ?_
        exact j_ireturn C E dX9_statement_70 (rfl) (by decide) (by decide) (⟨by first | (simp only [fStat, if_pos h8, if_neg h28, if_pos h52]; done) | exact absurd h52 h28 | exact absurd h28 h52, rfl, by first | (simp only [mStat, if_pos h8, if_neg h28, if_pos h52]; done) | exact absurd h52 h28 | exact absurd h28 h52, by first | (simp only [pStat, if_pos h8, if_neg h28, if_pos h52]; done) | exact absurd h52 h28 | exact absurd h28 h52⟩)
    · skip
      refine j_aload_n C dX9_statement_31 rfl ?_
      refine j_getR C fl_X9_10 (by assumption) dX9_statement_32 (by decide) rfl (by assumption) ?_
      refine j_getI C fl_X9_114 (by assumption) dX9_statement_35 (by decide) rfl ?_
      refine j_bipush C (nI 6) dX9_statement_38 (by decide) ?_
      refine j_icmp_lt C 46 dX9_statement_40 (by decide) (fun h40 => ?_) (fun h40 => ?_)
      · skip
        refine j_aload_n C dX9_statement_46 rfl ?_
        refine j_cVv C (c_X9_record _ ω γ M R g0g HI) yc_X9_record mn_X9_52 im_X9_record se_X9_record rfl rfl dX9_statement_47 rfl rfl (by assumption) (by decide) (Nat.le_of_ble_eq_true rfl) (by decide) ?_
        refine j_iload_n C dX9_statement_50 rfl ?_
        refine j_iconst C (-1) dX9_statement_51 (by decide) ?_
        refine j_icmp_ne C 69 dX9_statement_52 (by decide) (fun h52 => ?_) (fun h52 => ?_)
        · skip
          refine j_iload_n C dX9_statement_69 rfl ?_
          exact j_ireturn C E dX9_statement_70 (rfl) (by decide) (by decide) (⟨by first | (simp only [fStat, if_pos h8, if_pos h28, if_pos h40, if_neg h52]; done) | exact absurd h52 h28 | exact absurd h28 h52, rfl, by first | (simp only [mStat, if_pos h8, if_pos h28, if_pos h40, if_neg h52]; done) | exact absurd h52 h28 | exact absurd h28 h52, by first | (simp only [pStat, if_pos h8, if_pos h28, if_pos h40, if_neg h52]; done) | exact absurd h52 h28 | exact absurd h28 h52⟩)
        · skip
          have h40c : c < 6 := (nI_ltI (by omega) (by decide)).mp (by rw [← hc]; first | exact h40 | exact absurd h52 h28)
          refine j_aload_n C dX9_statement_55 rfl ?_
          refine j_getR C fl_X9_10 (by assumption) dX9_statement_56 (by decide) rfl (by assumption) ?_
          refine j_aload_n C dX9_statement_59 rfl ?_
          refine j_getR C fl_X9_26 (by assumption) dX9_statement_60 (by decide) rfl (by assumption) ?_
          refine j_cVi C (c_X4_addStatement _ ω γ _ _ ga ss1 gT hT1 (show rPuM M R h a nh T 1 = nI len by rw [e1 _ (by omega)]; exact hl) hl30 (show rPuM M R h a nh a 8 = nI c by rw [e1 _ (by omega)]; exact hc) h40c (by omega) (by have := rFlt_len h8 hl30; omega)) yc_X4_addStatement mn_X9_117 im_X4_addStatement se_X4_addStatement rfl rfl dX9_statement_63 rfl rfl (by assumption) (by decide) (Nat.le_of_ble_eq_true rfl) (by decide) ?_
          refine j_goto C 70 dX9_statement_66 (by decide) ?_
          exact j_ireturn C E dX9_statement_70 (rfl) (by decide) (by decide) (⟨by first | (simp only [fStat, if_pos h8, if_pos h28, if_pos h40, if_pos h52]; done) | exact absurd h52 h28 | exact absurd h28 h52, rfl, by first | (simp only [mStat, if_pos h8, if_pos h28, if_pos h40, if_pos h52]; done) | exact absurd h52 h28 | exact absurd h28 h52, by first | (simp only [pStat, if_pos h8, if_pos h28, if_pos h40, if_pos h52]; done) | exact absurd h52 h28 | exact absurd h28 h52⟩)
      · skip
        refine j_bipush C (-3) dX9_statement_43 (by decide) ?_
        exact j_ireturn C E dX9_statement_45 (rfl) (by decide) (by decide) (⟨by first | (simp only [fStat, if_pos h8, if_pos h28, if_neg h40]; done) | exact absurd h52 h28 | exact absurd h28 h52, rfl, by first | (simp only [mStat, if_pos h8, if_pos h28, if_neg h40]; done) | exact absurd h52 h28 | exact absurd h28 h52, by first | (simp only [pStat, if_pos h8, if_pos h28, if_neg h40]; done) | exact absurd h52 h28 | exact absurd h28 h52⟩)
  · skip
    refine j_bipush C (-2) dX9_statement_11 (by decide) ?_
    exact j_ireturn C E dX9_statement_13 (rfl) (by decide) (by decide) (⟨by first | (simp only [fStat, if_neg h8]; done) | exact absurd h52 h28 | exact absurd h28 h52, rfl, by first | (simp only [mStat, if_neg h8]; done) | exact absurd h52 h28 | exact absurd h28 h52, by first | (simp only [pStat, if_neg h8]; done) | exact absurd h52 h28 | exact absurd h28 h52⟩)

set_option maxHeartbeats 4000000 in
set_option maxRecDepth 100000 in
theorem c_X9_run (l : Launch) (ω : jW) (γ : jG) (M : jM) (R : jR) {x a h T v : Nat} (g : gX ω γ x a h T v) {nh n c r len : Nat} (H : CB M R a h T nh n c r len) (s v0 v1 v2 v3 : Int32) : Ct l ω yX9_run cX9_run 6 (some .int) 8 0 0 [.ref x, .int s, .int v0, .int v1, .int v2, .int v3] γ M R (jx γ (some (.int (fRun M R a h v nh n r s v0 v1 v2 v3))) (mRun M R a h v nh n s v0 v1 v2 v3) (pRun M R a h v nh n s v0 v1 v2 v3)) := by
  refine Ct_of (by decide) (Nat.le_of_ble_eq_true rfl) rfl (jcat_of rfl) ?_
  intro X C E hnm hxl hxn
  subst hxl
  have g0g := g
  obtain ⟨x0, xa, ga, xh, gh, xT, gT, xv, gv, d1, d2, d3, d4⟩ := g
  have ga0 := ga.1
  have gh0 := gh.1
  have gT0 := gT.1
  have p0 : jP γ a 0 = some (a + 1) := ga.2.1
  have gt : gTable ω γ (a + 1) := ga.2.2.1
  have gt0 := gt.1
  have p1 : jP γ a 1 = some (a + 5) := ga.2.2.2.1
  have gs : gSums ω γ (a + 5) := ga.2.2.2.2.1
  have gs0 := gs.1
  have p4 : jP γ a 4 = some (a + 11) := ga.2.2.2.2.2.2.2.2.2.1
  have gS : gShelf ω γ (a + 11) := ga.2.2.2.2.2.2.2.2.2.2.1
  have gS0 := gS.1
  have p5 : jP γ a 5 = some (a + 22) := ga.2.2.2.2.2.2.2.2.2.2.2.1
  have gl : gLast ω γ (a + 22) := ga.2.2.2.2.2.2.2.2.2.2.2.2.1
  have gl0 := gl.1
  have gl1 : jP γ (a + 22) 0 = some (a + 23) := gl.2.1
  have gl2 : jArr ω γ (a + 23) 12 4 := gl.2.2
  have p6 : jP γ a 6 = some (a + 24) := ga.2.2.2.2.2.2.2.2.2.2.2.2.2.1
  have gc : jArr ω γ (a + 24) 12 5 := ga.2.2.2.2.2.2.2.2.2.2.2.2.2.2.1
  have gtp : jP γ (a + 1) 1 = some (a + 3) := gt.2.2.2.1
  have gu : gSums ω γ (a + 3) := gt.2.2.2.2
  have gu0 := gu.1
  obtain ⟨HI, hkp, hn, hc, hc6, hr, hr30, hT, hl, hl30, hcs, hlr⟩ := H
  have ss := HI.2.2.2.1.1
  have hs := HI.2.2.2.1.2.1
  have e1 : ∀ y, (y < h ∨ h + 174 ≤ y) → rPuM M R h a nh y = M y := fun y hy => rPuM_o HI hy
  have eR : ∀ y, y ≠ h + 1 → rPuR R h nh y = R y := fun y hy => rPuR_o hy
  have hSA1 : SA (rPuM M R h a nh) (rPuR R h nh) a := SA_cong HI.2.2.2.1 (fun y hy => e1 y (by omega)) (fun y hy => eR y (by omega))
  have ss1 := hSA1.1
  have hs1 := hSA1.2.1
  refine j_aload_n C dX9_run_0 rfl ?_
  refine j_iload_n C dX9_run_1 rfl ?_
  refine j_iload_n C dX9_run_2 rfl ?_
  refine j_iload_n C dX9_run_3 rfl ?_
  refine j_iload C dX9_run_4 rfl ?_
  refine j_iload C dX9_run_6 rfl ?_
  refine j_cVi C (c_X9_accepts _ ω γ M R g0g ss s v0 v1 v2 v3) yc_X9_accepts mn_X9_153 im_X9_accepts se_X9_accepts rfl rfl dX9_run_8 rfl rfl (by assumption) (by decide) (Nat.le_of_ble_eq_true rfl) (by decide) ?_
  refine j_if_ne C 16 dX9_run_11 (by decide) (fun h11 => ?_) (fun h11 => ?_)
  · skip
    obtain ⟨k, hk, ek⟩ := rAcc_s hc hc6 h11
    have et : rSA a s = a + 25 + 3 * k := by rw [ek]; exact rSA_N a (by omega)
    have hcn := hcs k hk
    rw [← et] at hcn
    refine j_aload_n C dX9_run_16 rfl ?_
    refine j_cVv C (c_X9_record _ ω γ M R g0g HI) yc_X9_record mn_X9_52 im_X9_record se_X9_record rfl rfl dX9_run_17 rfl rfl (by assumption) (by decide) (Nat.le_of_ble_eq_true rfl) (by decide) ?_
    refine j_aload_n C dX9_run_20 rfl ?_
    refine j_getR C fl_X9_10 (by assumption) dX9_run_21 (by decide) rfl (by assumption) ?_
    refine j_iload_n C dX9_run_24 rfl ?_
    refine j_aload_n C dX9_run_25 rfl ?_
    refine j_iload_n C dX9_run_26 rfl ?_
    refine j_iload_n C dX9_run_27 rfl ?_
    refine j_iload C dX9_run_28 rfl ?_
    refine j_iload C dX9_run_30 rfl ?_
    refine j_cVr C (c_X9_gathered _ ω γ _ _ g0g v0 v1 v2 v3) yc_X9_gathered mn_X9_55 im_X9_gathered se_X9_gathered rfl rfl dX9_run_32 rfl rfl (by assumption) (by decide) (Nat.le_of_ble_eq_true rfl) (by decide) ?_
    refine j_mem (mGP M R a h v nh v0 v1 v2 v3) rfl ?_
    have e2 : ∀ y, (y < h) → mGP M R a h v nh v0 v1 v2 v3 y = M y := fun y hy => by rw [mGP, rGiv_o _ (by omega), e1 _ (by omega)]
    have ek2 : s.toNatClampNeg = k := by rw [ek]; exact nI_clamp (by omega)
    have hct := c_X4_execute (xl X) ω γ (mGP M R a h v nh v0 v1 v2 v3) (rPuR R h nh) (s := k) (v := v) (n := n) (nc := rNC M (rSA a s)) (r := r) ga ss1 hs1 (by rw [e2 _ (by omega)]; exact hkp) hn (by omega) gv (by omega) (by rw [e2 _ (by omega), ← et]; exact hcn.1) hcn.2 (by rw [e2 _ (by omega)]; exact hr) hr30
    rw [← et, ← ek] at hct
    refine j_cVi C (hct) yc_X4_execute mn_X9_157 im_X4_execute se_X4_execute rfl rfl dX9_run_35 rfl rfl (by assumption) (by decide) (Nat.le_of_ble_eq_true rfl) (by decide) ?_
    exact j_ireturn C E dX9_run_38 (rfl) (by decide) (by decide) (⟨by simp only [fRun, if_neg h11, ek2], rfl, by simp only [mRun, if_neg h11, ek2], by simp only [pRun, if_neg h11, ek2]⟩)
  · skip
    refine j_iconst C (-1) dX9_run_14 (by decide) ?_
    exact j_ireturn C E dX9_run_15 (rfl) (by decide) (by decide) (⟨by simp only [fRun, if_pos h11], rfl, by simp only [mRun, if_pos h11], by simp only [pRun, if_pos h11]⟩)

set_option maxHeartbeats 4000000 in
set_option maxRecDepth 100000 in
theorem c_X9_pin (l : Launch) (ω : jW) (γ : jG) (M : jM) (R : jR) {x a h T v : Nat} (g : gX ω γ x a h T v) {nh n c r len : Nat} (H : CB M R a h T nh n c r len) (p w : Int32) : Ct l ω yX9_pin cX9_pin 4 (some .int) 7 0 0 [.ref x, .int p, .int w] γ M R (jx γ (some (.int (fPin M R a h nh n p w))) (mPin M R a h nh n p w) (pPin M R a h nh n p w)) := by
  refine Ct_of (by decide) (Nat.le_of_ble_eq_true rfl) rfl (jcat_of rfl) ?_
  intro X C E hnm hxl hxn
  subst hxl
  have g0g := g
  obtain ⟨x0, xa, ga, xh, gh, xT, gT, xv, gv, d1, d2, d3, d4⟩ := g
  have ga0 := ga.1
  have gh0 := gh.1
  have gT0 := gT.1
  have p0 : jP γ a 0 = some (a + 1) := ga.2.1
  have gt : gTable ω γ (a + 1) := ga.2.2.1
  have gt0 := gt.1
  have p1 : jP γ a 1 = some (a + 5) := ga.2.2.2.1
  have gs : gSums ω γ (a + 5) := ga.2.2.2.2.1
  have gs0 := gs.1
  have p4 : jP γ a 4 = some (a + 11) := ga.2.2.2.2.2.2.2.2.2.1
  have gS : gShelf ω γ (a + 11) := ga.2.2.2.2.2.2.2.2.2.2.1
  have gS0 := gS.1
  have p5 : jP γ a 5 = some (a + 22) := ga.2.2.2.2.2.2.2.2.2.2.2.1
  have gl : gLast ω γ (a + 22) := ga.2.2.2.2.2.2.2.2.2.2.2.2.1
  have gl0 := gl.1
  have gl1 : jP γ (a + 22) 0 = some (a + 23) := gl.2.1
  have gl2 : jArr ω γ (a + 23) 12 4 := gl.2.2
  have p6 : jP γ a 6 = some (a + 24) := ga.2.2.2.2.2.2.2.2.2.2.2.2.2.1
  have gc : jArr ω γ (a + 24) 12 5 := ga.2.2.2.2.2.2.2.2.2.2.2.2.2.2.1
  have gtp : jP γ (a + 1) 1 = some (a + 3) := gt.2.2.2.1
  have gu : gSums ω γ (a + 3) := gt.2.2.2.2
  have gu0 := gu.1
  obtain ⟨HI, hkp, hn, hc, hc6, hr, hr30, hT, hl, hl30, hcs, hlr⟩ := H
  have ss := HI.2.2.2.1.1
  have hs := HI.2.2.2.1.2.1
  have e1 : ∀ y, (y < h ∨ h + 174 ≤ y) → rPuM M R h a nh y = M y := fun y hy => rPuM_o HI hy
  have eR : ∀ y, y ≠ h + 1 → rPuR R h nh y = R y := fun y hy => rPuR_o hy
  have hSA1 : SA (rPuM M R h a nh) (rPuR R h nh) a := SA_cong HI.2.2.2.1 (fun y hy => e1 y (by omega)) (fun y hy => eR y (by omega))
  have ss1 := hSA1.1
  have hs1 := hSA1.2.1
  have ep : ∀ q, rPA (rPuR R h nh) (a + 11) q = rPA R (a + 11) q := fun q => by simp only [rPA, pa, eR _ (show a + 11 + 1 ≠ h + 1 by omega)]
  have hrg := rPA_rg hs (fPlc M R a n p)
  refine j_aload_n C dX9_pin_0 rfl ?_
  refine j_getR C fl_X9_10 (by assumption) dX9_pin_1 (by decide) rfl (by assumption) ?_
  refine j_getR C fl_X9_132 (by assumption) dX9_pin_4 (by decide) rfl (by assumption) ?_
  refine j_iload_n C dX9_pin_7 rfl ?_
  refine j_cVi C (c_X3_placeOf _ ω γ M R gS hs hkp hn p) yc_X3_placeOf mn_X9_170 im_X3_placeOf se_X3_placeOf rfl rfl dX9_pin_8 rfl rfl (by assumption) (by decide) (Nat.le_of_ble_eq_true rfl) (by decide) ?_
  change J _ ω γ _ _ _ _ _ _ (.int (fPlc M R a n p) :: _)
  refine j_istore_n C dX9_pin_11 (by rw [hxn]; decide) ?_
  refine j_iload_n C dX9_pin_12 rfl ?_
  refine j_iconst C (-1) dX9_pin_13 (by decide) ?_
  refine j_icmp_eq C 26 dX9_pin_14 (by decide) (fun h14 => ?_) (fun h14 => ?_)
  · skip
    refine j_iconst C (-1) dX9_pin_26 (by decide) ?_
    exact j_ireturn C E dX9_pin_27 (rfl) (by decide) (by decide) (⟨by simp only [fPin, if_pos h14], rfl, by simp only [mPin, if_pos h14], by simp only [pPin, if_pos h14]⟩)
  · skip
    refine j_iload_n C dX9_pin_17 rfl ?_
    refine j_iconst C (nI 0) dX9_pin_18 (by decide) ?_
    refine j_iconst C (nI 1) dX9_pin_19 (by decide) ?_
    refine j_cSi C (c_X9_within _ _ _ _ _ _ _ _) yc_X9_within mn_X9_38 st_X9_within dX9_pin_20 rfl rfl (Nat.le_of_ble_eq_true rfl) (by decide) ?_
    refine j_if_ne C 28 dX9_pin_23 (by decide) (fun h23 => ?_) (fun h23 => ?_)
    · skip
      refine j_aload_n C dX9_pin_28 rfl ?_
      refine j_cVv C (c_X9_record _ ω γ M R g0g HI) yc_X9_record mn_X9_52 im_X9_record se_X9_record rfl rfl dX9_pin_29 rfl rfl (by assumption) (by decide) (Nat.le_of_ble_eq_true rfl) (by decide) ?_
      refine j_aload_n C dX9_pin_32 rfl ?_
      refine j_getR C fl_X9_10 (by assumption) dX9_pin_33 (by decide) rfl (by assumption) ?_
      refine j_getR C fl_X9_132 (by assumption) dX9_pin_36 (by decide) rfl (by assumption) ?_
      refine j_iload_n C dX9_pin_39 rfl ?_
      refine j_cVr C (c_X3_planAt _ ω γ _ _ gS hs1 _) yc_X3_planAt mn_X9_173 im_X3_planAt se_X3_planAt rfl rfl dX9_pin_40 rfl rfl (by assumption) (by decide) (Nat.le_of_ble_eq_true rfl) (by decide) ?_
      rw [ep]
      refine j_iload_n C dX9_pin_43 rfl ?_
      refine j_iconst C (nI 1) dX9_pin_44 (by decide) ?_
      refine j_icmp_ne C 52 dX9_pin_45 (by decide) (fun h45 => ?_) (fun h45 => ?_)
      · skip
        refine j_iconst C (nI 0) dX9_pin_52 (by decide) ?_
        refine j_top (if w = nI 1 then nI 1 else nI 0) (by first | rw [if_pos h45] | rw [if_neg h45]) ?_
        refine j_putI C fl_X9_177 (rPA_at hs gS _) dX9_pin_53 (by decide) rfl (by first | (rw [if_pos h45]; rfl) | (rw [if_neg h45]; rfl)) (by first | (rw [if_pos h45]; rfl) | (rw [if_neg h45]; rfl)) ?_
        refine j_mem (m2Pin M R a h nh n p w) rfl ?_
        refine j_aload_n C dX9_pin_56 rfl ?_
        refine j_getR C fl_X9_10 (by assumption) dX9_pin_57 (by decide) rfl (by assumption) ?_
        refine j_getR C fl_X9_132 (by assumption) dX9_pin_60 (by decide) rfl (by assumption) ?_
        refine j_cVi C (c_X3_pinned _ ω γ _ _ gS hs1 (show m2Pin M R a h nh n p w (a + 11) 2 = nI n by rw [m2Pin, jup_row _ _ (by omega), e1 _ (by omega)]; exact hkp) hn) yc_X3_pinned mn_X9_183 im_X3_pinned se_X3_pinned rfl rfl dX9_pin_63 rfl rfl (by assumption) (by decide) (Nat.le_of_ble_eq_true rfl) (by decide) ?_
        exact j_ireturn C E dX9_pin_66 (rfl) (by decide) (by decide) (⟨by simp only [fPin, if_neg h14, if_neg h23], rfl, by simp only [mPin, if_neg h14, if_neg h23], by simp only [pPin, if_neg h14, if_neg h23]⟩)
      · skip
        refine j_iconst C (nI 1) dX9_pin_48 (by decide) ?_
        refine j_goto C 53 dX9_pin_49 (by decide) ?_
        refine j_top (if w = nI 1 then nI 1 else nI 0) (by first | rw [if_pos h45] | rw [if_neg h45]) ?_
        refine j_putI C fl_X9_177 (rPA_at hs gS _) dX9_pin_53 (by decide) rfl (by first | (rw [if_pos h45]; rfl) | (rw [if_neg h45]; rfl)) (by first | (rw [if_pos h45]; rfl) | (rw [if_neg h45]; rfl)) ?_
        refine j_mem (m2Pin M R a h nh n p w) rfl ?_
        refine j_aload_n C dX9_pin_56 rfl ?_
        refine j_getR C fl_X9_10 (by assumption) dX9_pin_57 (by decide) rfl (by assumption) ?_
        refine j_getR C fl_X9_132 (by assumption) dX9_pin_60 (by decide) rfl (by assumption) ?_
        refine j_cVi C (c_X3_pinned _ ω γ _ _ gS hs1 (show m2Pin M R a h nh n p w (a + 11) 2 = nI n by rw [m2Pin, jup_row _ _ (by omega), e1 _ (by omega)]; exact hkp) hn) yc_X3_pinned mn_X9_183 im_X3_pinned se_X3_pinned rfl rfl dX9_pin_63 rfl rfl (by assumption) (by decide) (Nat.le_of_ble_eq_true rfl) (by decide) ?_
        exact j_ireturn C E dX9_pin_66 (rfl) (by decide) (by decide) (⟨by simp only [fPin, if_neg h14, if_neg h23], rfl, by simp only [mPin, if_neg h14, if_neg h23], by simp only [pPin, if_neg h14, if_neg h23]⟩)
    · skip
      refine j_iconst C (-1) dX9_pin_26 (by decide) ?_
      exact j_ireturn C E dX9_pin_27 (rfl) (by decide) (by decide) (⟨by simp only [fPin, if_neg h14, if_pos h23], rfl, by simp only [mPin, if_neg h14, if_pos h23], by simp only [pPin, if_neg h14, if_pos h23]⟩)

set_option maxHeartbeats 4000000 in
set_option maxRecDepth 100000 in
theorem c_X9_drop (l : Launch) (ω : jW) (γ : jG) (M : jM) (R : jR) {x a h T v : Nat} (g : gX ω γ x a h T v) {nh n c r len : Nat} (H : CB M R a h T nh n c r len) (p : Int32) : Ct l ω yX9_drop cX9_drop 3 (some .int) 7 0 0 [.ref x, .int p] γ M R (jx γ (some (.int (fDrop M R a h nh n p))) (mDrop M R a h nh n p) (pDrop M R a h nh n p)) := by
  refine Ct_of (by decide) (Nat.le_of_ble_eq_true rfl) rfl (jcat_of rfl) ?_
  intro X C E hnm hxl hxn
  subst hxl
  have g0g := g
  obtain ⟨x0, xa, ga, xh, gh, xT, gT, xv, gv, d1, d2, d3, d4⟩ := g
  have ga0 := ga.1
  have gh0 := gh.1
  have gT0 := gT.1
  have p0 : jP γ a 0 = some (a + 1) := ga.2.1
  have gt : gTable ω γ (a + 1) := ga.2.2.1
  have gt0 := gt.1
  have p1 : jP γ a 1 = some (a + 5) := ga.2.2.2.1
  have gs : gSums ω γ (a + 5) := ga.2.2.2.2.1
  have gs0 := gs.1
  have p4 : jP γ a 4 = some (a + 11) := ga.2.2.2.2.2.2.2.2.2.1
  have gS : gShelf ω γ (a + 11) := ga.2.2.2.2.2.2.2.2.2.2.1
  have gS0 := gS.1
  have p5 : jP γ a 5 = some (a + 22) := ga.2.2.2.2.2.2.2.2.2.2.2.1
  have gl : gLast ω γ (a + 22) := ga.2.2.2.2.2.2.2.2.2.2.2.2.1
  have gl0 := gl.1
  have gl1 : jP γ (a + 22) 0 = some (a + 23) := gl.2.1
  have gl2 : jArr ω γ (a + 23) 12 4 := gl.2.2
  have p6 : jP γ a 6 = some (a + 24) := ga.2.2.2.2.2.2.2.2.2.2.2.2.2.1
  have gc : jArr ω γ (a + 24) 12 5 := ga.2.2.2.2.2.2.2.2.2.2.2.2.2.2.1
  have gtp : jP γ (a + 1) 1 = some (a + 3) := gt.2.2.2.1
  have gu : gSums ω γ (a + 3) := gt.2.2.2.2
  have gu0 := gu.1
  obtain ⟨HI, hkp, hn, hc, hc6, hr, hr30, hT, hl, hl30, hcs, hlr⟩ := H
  have ss := HI.2.2.2.1.1
  have hs := HI.2.2.2.1.2.1
  have e1 : ∀ y, (y < h ∨ h + 174 ≤ y) → rPuM M R h a nh y = M y := fun y hy => rPuM_o HI hy
  have eR : ∀ y, y ≠ h + 1 → rPuR R h nh y = R y := fun y hy => rPuR_o hy
  have hSA1 : SA (rPuM M R h a nh) (rPuR R h nh) a := SA_cong HI.2.2.2.1 (fun y hy => e1 y (by omega)) (fun y hy => eR y (by omega))
  have ss1 := hSA1.1
  have hs1 := hSA1.2.1
  have ep : ∀ q, rPA (rPuR R h nh) (a + 11) q = rPA R (a + 11) q := fun q => by simp only [rPA, pa, eR _ (show a + 11 + 1 ≠ h + 1 by omega)]
  refine j_aload_n C dX9_drop_0 rfl ?_
  refine j_getR C fl_X9_10 (by assumption) dX9_drop_1 (by decide) rfl (by assumption) ?_
  refine j_getR C fl_X9_132 (by assumption) dX9_drop_4 (by decide) rfl (by assumption) ?_
  refine j_iload_n C dX9_drop_7 rfl ?_
  refine j_cVi C (c_X3_placeOf _ ω γ M R gS hs hkp hn p) yc_X3_placeOf mn_X9_170 im_X3_placeOf se_X3_placeOf rfl rfl dX9_drop_8 rfl rfl (by assumption) (by decide) (Nat.le_of_ble_eq_true rfl) (by decide) ?_
  change J _ ω γ _ _ _ _ _ _ (.int (fPlc M R a n p) :: _)
  refine j_istore_n C dX9_drop_11 (by rw [hxn]; decide) ?_
  refine j_iload_n C dX9_drop_12 rfl ?_
  refine j_iconst C (-1) dX9_drop_13 (by decide) ?_
  refine j_icmp_ne C 19 dX9_drop_14 (by decide) (fun h14 => ?_) (fun h14 => ?_)
  · skip
    refine j_aload_n C dX9_drop_19 rfl ?_
    refine j_getR C fl_X9_10 (by assumption) dX9_drop_20 (by decide) rfl (by assumption) ?_
    refine j_getR C fl_X9_132 (by assumption) dX9_drop_23 (by decide) rfl (by assumption) ?_
    refine j_iload_n C dX9_drop_26 rfl ?_
    refine j_cVr C (c_X3_planAt _ _ _ _ _ (by assumption) (by assumption) _) yc_X3_planAt mn_X9_173 im_X3_planAt se_X3_planAt rfl rfl dX9_drop_27 rfl rfl (by assumption) (by decide) (Nat.le_of_ble_eq_true rfl) (by decide) ?_
    refine j_getI C fl_X9_177 (rPA_at hs gS _) dX9_drop_30 (by decide) rfl ?_
    refine j_if_eq C 39 dX9_drop_33 (by decide) (fun h33 => ?_) (fun h33 => ?_)
    · skip
      refine j_aload_n C dX9_drop_39 rfl ?_
      refine j_cVv C (c_X9_record _ ω γ M R g0g HI) yc_X9_record mn_X9_52 im_X9_record se_X9_record rfl rfl dX9_drop_40 rfl rfl (by assumption) (by decide) (Nat.le_of_ble_eq_true rfl) (by decide) ?_
      refine j_aload_n C dX9_drop_43 rfl ?_
      refine j_getR C fl_X9_10 (by assumption) dX9_drop_44 (by decide) rfl (by assumption) ?_
      refine j_getR C fl_X9_132 (by assumption) dX9_drop_47 (by decide) rfl (by assumption) ?_
      refine j_iload_n C dX9_drop_50 rfl ?_
      obtain ⟨k, hk, ek⟩ : ∃ k, k < n ∧ fPlc M R a n p = nI k := (rFirst_cases (qNum M R (a + 11) p) n).elim (fun ⟨k, hk, _, q, _⟩ => ⟨k, hk, q⟩) (fun ⟨_, q, _⟩ => absurd q h14)
      have ek2 : (fPlc M R a n p).toNatClampNeg = k := by rw [ek]; exact nI_clamp (by omega)
      have hct := c_X3_throwAwayN (xl X) ω γ (rPuM M R h a nh) (rPuR R h nh) gS hs1 (show rPuM M R h a nh (a + 11) 2 = nI n by rw [e1 _ (by omega)]; exact hkp) hn hk
      rw [← ek] at hct
      refine j_cVv C (hct) yc_X3_throwAway mn_X9_185 im_X3_throwAway se_X3_throwAway rfl rfl dX9_drop_51 rfl rfl (by assumption) (by decide) (Nat.le_of_ble_eq_true rfl) (by decide) ?_
      refine j_aload_n C dX9_drop_54 rfl ?_
      refine j_getR C fl_X9_10 (by assumption) dX9_drop_55 (by decide) rfl (by assumption) ?_
      refine j_getR C fl_X9_132 (by assumption) dX9_drop_58 (by decide) rfl (by assumption) ?_
      refine j_getI C fl_X9_188 (by assumption) dX9_drop_61 (by decide) rfl ?_
      exact j_ireturn C E dX9_drop_64 (rfl) (by decide) (by decide) (⟨by simp only [fDrop, if_neg h14, if_pos h33], rfl, by simp only [mDrop, if_neg h14, if_pos h33], by simp only [pDrop, if_neg h14, if_pos h33, ek2]⟩)
    · skip
      refine j_bipush C (-2) dX9_drop_36 (by decide) ?_
      exact j_ireturn C E dX9_drop_38 (rfl) (by decide) (by decide) (⟨by simp only [fDrop, if_neg h14, if_neg h33], rfl, by simp only [mDrop, if_neg h14, if_neg h33], by simp only [pDrop, if_neg h14, if_neg h33]⟩)
  · skip
    refine j_iconst C (-1) dX9_drop_17 (by decide) ?_
    exact j_ireturn C E dX9_drop_18 (rfl) (by decide) (by decide) (⟨by simp only [fDrop, if_pos h14], rfl, by simp only [mDrop, if_pos h14], by simp only [pDrop, if_pos h14]⟩)

set_option maxHeartbeats 4000000 in
set_option maxRecDepth 100000 in
theorem c_X9_set (l : Launch) (ω : jW) (γ : jG) (M : jM) (R : jR) {x a h T v : Nat} (g : gX ω γ x a h T v) {nh n c r len : Nat} (H : CB M R a h T nh n c r len) (w x9 : Int32) : Ct l ω yX9_set cX9_set 3 (some .int) 7 0 0 [.ref x, .int w, .int x9] γ M R (jx γ (some (.int (fSet M R a h nh w x9))) (mSet M R a h nh w x9) (pSet R h nh w x9)) := by
  refine Ct_of (by decide) (Nat.le_of_ble_eq_true rfl) rfl (jcat_of rfl) ?_
  intro X C E hnm hxl hxn
  subst hxl
  have g0g := g
  obtain ⟨x0, xa, ga, xh, gh, xT, gT, xv, gv, d1, d2, d3, d4⟩ := g
  have ga0 := ga.1
  have gh0 := gh.1
  have gT0 := gT.1
  have p0 : jP γ a 0 = some (a + 1) := ga.2.1
  have gt : gTable ω γ (a + 1) := ga.2.2.1
  have gt0 := gt.1
  have p1 : jP γ a 1 = some (a + 5) := ga.2.2.2.1
  have gs : gSums ω γ (a + 5) := ga.2.2.2.2.1
  have gs0 := gs.1
  have p4 : jP γ a 4 = some (a + 11) := ga.2.2.2.2.2.2.2.2.2.1
  have gS : gShelf ω γ (a + 11) := ga.2.2.2.2.2.2.2.2.2.2.1
  have gS0 := gS.1
  have p5 : jP γ a 5 = some (a + 22) := ga.2.2.2.2.2.2.2.2.2.2.2.1
  have gl : gLast ω γ (a + 22) := ga.2.2.2.2.2.2.2.2.2.2.2.2.1
  have gl0 := gl.1
  have gl1 : jP γ (a + 22) 0 = some (a + 23) := gl.2.1
  have gl2 : jArr ω γ (a + 23) 12 4 := gl.2.2
  have p6 : jP γ a 6 = some (a + 24) := ga.2.2.2.2.2.2.2.2.2.2.2.2.2.1
  have gc : jArr ω γ (a + 24) 12 5 := ga.2.2.2.2.2.2.2.2.2.2.2.2.2.2.1
  have gtp : jP γ (a + 1) 1 = some (a + 3) := gt.2.2.2.1
  have gu : gSums ω γ (a + 3) := gt.2.2.2.2
  have gu0 := gu.1
  obtain ⟨HI, hkp, hn, hc, hc6, hr, hr30, hT, hl, hl30, hcs, hlr⟩ := H
  have ss := HI.2.2.2.1.1
  have hs := HI.2.2.2.1.2.1
  have e1 : ∀ y, (y < h ∨ h + 174 ≤ y) → rPuM M R h a nh y = M y := fun y hy => rPuM_o HI hy
  have eR : ∀ y, y ≠ h + 1 → rPuR R h nh y = R y := fun y hy => rPuR_o hy
  have hSA1 : SA (rPuM M R h a nh) (rPuR R h nh) a := SA_cong HI.2.2.2.1 (fun y hy => e1 y (by omega)) (fun y hy => eR y (by omega))
  have ss1 := hSA1.1
  have hs1 := hSA1.2.1
  refine j_iload_n C dX9_set_0 rfl ?_
  refine j_iconst C (nI 0) dX9_set_1 (by decide) ?_
  refine j_iconst C (nI 4) dX9_set_2 (by decide) ?_
  refine j_cSi C (c_X9_within _ _ _ _ _ _ _ _) yc_X9_within mn_X9_38 st_X9_within dX9_set_3 rfl rfl (Nat.le_of_ble_eq_true rfl) (by decide) ?_
  refine j_if_eq C 30 dX9_set_6 (by decide) (fun h6 => ?_) (fun h6 => ?_)
  · skip
    refine j_iconst C (-1) dX9_set_30 (by decide) ?_
    exact j_ireturn C E dX9_set_31 (rfl) (by decide) (by decide) (⟨by simp only [fSet, if_pos h6], rfl, by simp only [mSet, if_pos h6], by simp only [pSet, if_pos h6]⟩)
  · skip
    refine j_iload_n C dX9_set_9 rfl ?_
    refine j_gets C C.xi.1 gs_L dX9_set_10 ?_
    refine j_iload_n C dX9_set_13 rfl ?_
    refine j_cSi C (c_X9_atT _ ω γ M R (by decide) (fun s h => h.2.1) w) yc_X9_at mn_X9_194 st_X9_at dX9_set_14 rfl rfl (Nat.le_of_ble_eq_true rfl) (by decide) ?_
    refine j_gets C C.xi.2.2.1 gs_M dX9_set_17 ?_
    refine j_iload_n C dX9_set_20 rfl ?_
    refine j_cSi C (c_X9_atT _ ω γ M R (by decide) (fun s h => h.2.2.2.1) w) yc_X9_at mn_X9_194 st_X9_at dX9_set_21 rfl rfl (Nat.le_of_ble_eq_true rfl) (by decide) ?_
    refine j_cSi C (c_X9_within _ _ _ _ _ _ _ _) yc_X9_within mn_X9_38 st_X9_within dX9_set_24 rfl rfl (Nat.le_of_ble_eq_true rfl) (by decide) ?_
    refine j_if_ne C 32 dX9_set_27 (by decide) (fun h27 => ?_) (fun h27 => ?_)
    · skip
      refine j_aload_n C dX9_set_32 rfl ?_
      refine j_cVv C (c_X9_record _ ω γ M R g0g HI) yc_X9_record mn_X9_52 im_X9_record se_X9_record rfl rfl dX9_set_33 rfl rfl (by assumption) (by decide) (Nat.le_of_ble_eq_true rfl) (by decide) ?_
      refine j_aload_n C dX9_set_36 rfl ?_
      refine j_getR C fl_X9_10 (by assumption) dX9_set_37 (by decide) rfl (by assumption) ?_
      refine j_iload_n C dX9_set_40 rfl ?_
      refine j_iload_n C dX9_set_41 rfl ?_
      obtain ⟨k, -, hk, ek⟩ := rIn_of h6 (by decide) (by decide)
      have ek2 : w.toNatClampNeg = k := by rw [ek]; exact nI_clamp (by omega)
      have hct := c_X4_changeSetting (xl X) ω γ (rPuM M R h a nh) (rPuR R h nh) ga (show k < 5 by omega) x9
      rw [← ek] at hct
      refine j_cVi C (hct) yc_X4_changeSetting mn_X9_200 im_X4_changeSetting se_X4_changeSetting rfl rfl dX9_set_42 rfl rfl (by assumption) (by decide) (Nat.le_of_ble_eq_true rfl) (by decide) ?_
      exact j_ireturn C E dX9_set_45 (rfl) (by decide) (by decide) (⟨by simp only [fSet, if_neg h6, if_neg h27, ek2], rfl, by simp only [mSet, if_neg h6, if_neg h27, ek2], by simp only [pSet, if_neg h6, if_neg h27]⟩)
    · skip
      refine j_iconst C (-1) dX9_set_30 (by decide) ?_
      exact j_ireturn C E dX9_set_31 (rfl) (by decide) (by decide) (⟨by simp only [fSet, if_neg h6, if_pos h27], rfl, by simp only [mSet, if_neg h6, if_pos h27], by simp only [pSet, if_neg h6, if_pos h27]⟩)

set_option maxHeartbeats 4000000 in
set_option maxRecDepth 100000 in
theorem c_X9_type (l : Launch) (ω : jW) (γ : jG) (M : jM) (R : jR) {x a h T v : Nat} (g : gX ω γ x a h T v) {nh n c r len : Nat} (H : CB M R a h T nh n c r len) (ch : Int32) : Ct l ω yX9_type cX9_type 2 (some .int) 5 0 0 [.ref x, .int ch] γ M R (jx γ (some (.int (fType len ch))) (mType M T len ch) R) := by
  refine Ct_of (by decide) (Nat.le_of_ble_eq_true rfl) rfl (jcat_of rfl) ?_
  intro X C E hnm hxl hxn
  subst hxl
  have g0g := g
  obtain ⟨x0, xa, ga, xh, gh, xT, gT, xv, gv, d1, d2, d3, d4⟩ := g
  have ga0 := ga.1
  have gh0 := gh.1
  have gT0 := gT.1
  have p0 : jP γ a 0 = some (a + 1) := ga.2.1
  have gt : gTable ω γ (a + 1) := ga.2.2.1
  have gt0 := gt.1
  have p1 : jP γ a 1 = some (a + 5) := ga.2.2.2.1
  have gs : gSums ω γ (a + 5) := ga.2.2.2.2.1
  have gs0 := gs.1
  have p4 : jP γ a 4 = some (a + 11) := ga.2.2.2.2.2.2.2.2.2.1
  have gS : gShelf ω γ (a + 11) := ga.2.2.2.2.2.2.2.2.2.2.1
  have gS0 := gS.1
  have p5 : jP γ a 5 = some (a + 22) := ga.2.2.2.2.2.2.2.2.2.2.2.1
  have gl : gLast ω γ (a + 22) := ga.2.2.2.2.2.2.2.2.2.2.2.2.1
  have gl0 := gl.1
  have gl1 : jP γ (a + 22) 0 = some (a + 23) := gl.2.1
  have gl2 : jArr ω γ (a + 23) 12 4 := gl.2.2
  have p6 : jP γ a 6 = some (a + 24) := ga.2.2.2.2.2.2.2.2.2.2.2.2.2.1
  have gc : jArr ω γ (a + 24) 12 5 := ga.2.2.2.2.2.2.2.2.2.2.2.2.2.2.1
  have gtp : jP γ (a + 1) 1 = some (a + 3) := gt.2.2.2.1
  have gu : gSums ω γ (a + 3) := gt.2.2.2.2
  have gu0 := gu.1
  obtain ⟨HI, hkp, hn, hc, hc6, hr, hr30, hT, hl, hl30, hcs, hlr⟩ := H
  have ss := HI.2.2.2.1.1
  have hs := HI.2.2.2.1.2.1
  refine j_iload_n C dX9_type_0 rfl ?_
  refine j_bipush C (nI 32) dX9_type_1 (by decide) ?_
  refine j_bipush C (nI 126) dX9_type_3 (by decide) ?_
  refine j_cSi C (c_X9_within _ _ _ _ _ _ _ _) yc_X9_within mn_X9_38 st_X9_within dX9_type_5 rfl rfl (Nat.le_of_ble_eq_true rfl) (by decide) ?_
  refine j_if_ne C 13 dX9_type_8 (by decide) (fun h8 => ?_) (fun h8 => ?_)
  · skip
    refine j_aload_n C dX9_type_13 rfl ?_
    refine j_getR C fl_X9_26 (by assumption) dX9_type_14 (by decide) rfl (by assumption) ?_
    refine j_getI C fl_X9_231 (by assumption) dX9_type_17 (by decide) rfl ?_
    refine j_top (nI len) (hl) ?_
    refine j_bipush C (nI 30) dX9_type_20 (by decide) ?_
    refine j_icmp_lt C 28 dX9_type_22 (by decide) (fun h22 => ?_) (fun h22 => ?_)
    · skip
      refine j_aload_n C dX9_type_28 rfl ?_
      refine j_getR C fl_X9_26 (by assumption) dX9_type_29 (by decide) rfl (by assumption) ?_
      refine j_iload_n C dX9_type_32 rfl ?_
      obtain ⟨k, -, hk, ek⟩ := rIn_of h8 (by decide) (by decide)
      refine j_i2c C ch dX9_type_33 (by rw [ek]; exact c_i2c k (by omega)) ?_
      have hct := c_X8_append (xl X) ω γ M R gT hl ((nI_ltI (by omega) (by decide)).mp h22) (show k < 128 by omega)
      rw [← ek] at hct
      refine j_cVi C (hct) yc_X8_append mn_X9_262 im_X8_append se_X8_append rfl rfl dX9_type_34 rfl rfl (by assumption) (by decide) (Nat.le_of_ble_eq_true rfl) (by decide) ?_
      exact j_ireturn C E dX9_type_37 (rfl) (by decide) (by decide) (⟨by simp only [fType, if_neg h8, if_pos h22], rfl, by simp only [mType, if_neg h8, if_pos h22], rfl⟩)
    · skip
      refine j_bipush C (-3) dX9_type_25 (by decide) ?_
      exact j_ireturn C E dX9_type_27 (rfl) (by decide) (by decide) (⟨by simp only [fType, if_neg h8, if_neg h22], rfl, by simp only [mType, if_neg h8, if_neg h22], rfl⟩)
  · skip
    refine j_iconst C (-1) dX9_type_11 (by decide) ?_
    exact j_ireturn C E dX9_type_12 (rfl) (by decide) (by decide) (⟨by simp only [fType, if_pos h8], rfl, by simp only [mType, if_pos h8], rfl⟩)

set_option maxHeartbeats 4000000 in
set_option maxRecDepth 100000 in
theorem c_X9_clearText (l : Launch) (ω : jW) (γ : jG) (M : jM) (R : jR) {x a h T v : Nat} (g : gX ω γ x a h T v) {nh n c r len : Nat} (H : CB M R a h T nh n c r len)  : Ct l ω yX9_clearText cX9_clearText 1 (some .int) 5 0 0 [.ref x] γ M R (jx γ (some (.int (M T 1))) (jup M T 1 (nI 0)) R) := by
  refine Ct_of (by decide) (Nat.le_of_ble_eq_true rfl) rfl (jcat_of rfl) ?_
  intro X C E hnm hxl hxn
  subst hxl
  have g0g := g
  obtain ⟨x0, xa, ga, xh, gh, xT, gT, xv, gv, d1, d2, d3, d4⟩ := g
  have ga0 := ga.1
  have gh0 := gh.1
  have gT0 := gT.1
  have p0 : jP γ a 0 = some (a + 1) := ga.2.1
  have gt : gTable ω γ (a + 1) := ga.2.2.1
  have gt0 := gt.1
  have p1 : jP γ a 1 = some (a + 5) := ga.2.2.2.1
  have gs : gSums ω γ (a + 5) := ga.2.2.2.2.1
  have gs0 := gs.1
  have p4 : jP γ a 4 = some (a + 11) := ga.2.2.2.2.2.2.2.2.2.1
  have gS : gShelf ω γ (a + 11) := ga.2.2.2.2.2.2.2.2.2.2.1
  have gS0 := gS.1
  have p5 : jP γ a 5 = some (a + 22) := ga.2.2.2.2.2.2.2.2.2.2.2.1
  have gl : gLast ω γ (a + 22) := ga.2.2.2.2.2.2.2.2.2.2.2.2.1
  have gl0 := gl.1
  have gl1 : jP γ (a + 22) 0 = some (a + 23) := gl.2.1
  have gl2 : jArr ω γ (a + 23) 12 4 := gl.2.2
  have p6 : jP γ a 6 = some (a + 24) := ga.2.2.2.2.2.2.2.2.2.2.2.2.2.1
  have gc : jArr ω γ (a + 24) 12 5 := ga.2.2.2.2.2.2.2.2.2.2.2.2.2.2.1
  have gtp : jP γ (a + 1) 1 = some (a + 3) := gt.2.2.2.1
  have gu : gSums ω γ (a + 3) := gt.2.2.2.2
  have gu0 := gu.1
  obtain ⟨HI, hkp, hn, hc, hc6, hr, hr30, hT, hl, hl30, hcs, hlr⟩ := H
  have ss := HI.2.2.2.1.1
  have hs := HI.2.2.2.1.2.1
  refine j_aload_n C dX9_clearText_0 rfl ?_
  refine j_getR C fl_X9_26 (by assumption) dX9_clearText_1 (by decide) rfl (by assumption) ?_
  refine j_cVi C (c_X8_empty _ ω γ M R gT0) yc_X8_empty mn_X9_265 im_X8_empty se_X8_empty rfl rfl dX9_clearText_4 rfl rfl (by assumption) (by decide) (Nat.le_of_ble_eq_true rfl) (by decide) ?_
  exact j_ireturn C E dX9_clearText_7 (rfl) (by decide) (by decide) (⟨rfl, rfl, rfl, rfl⟩)
