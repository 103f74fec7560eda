set_option maxHeartbeats 4000000 in
set_option maxRecDepth 100000 in
theorem c_XL1_canEncode (l : Launch) (ω : jW) (γ : jG) (M : jM) (R : jR) {n : Nat} (hn : n < 128) : Ct l ω yXL1_canEncode cXL1_canEncode 1 (some .boolean) 1 0 0 [.int (nI n)] γ M R (jx γ (some (.int (nI 1))) M R) := by
  refine Ct_of (by decide) (Nat.le_of_ble_eq_true rfl) rfl (jcat_of rfl) ?_
  intro X C E hnm hxl hxn
  subst hxl
  refine j_iload_n C dXL1_canEncode_0 rfl ?_
  refine j_if_lt C 15 dXL1_canEncode_1 (by decide) (fun h => absurd h (nI_pos (by omega))) (fun _ => ?_)
  refine j_iload_n C dXL1_canEncode_4 rfl ?_
  refine j_sipush C (nI 255) dXL1_canEncode_5 (by decide) ?_
  refine j_icmp_gt C 15 dXL1_canEncode_8 (by decide) (fun h => absurd h (nI_nlt (by omega) (by decide))) (fun _ => ?_)
  refine j_iconst C (nI 1) dXL1_canEncode_11 (by decide) ?_
  refine j_goto C 16 dXL1_canEncode_12 (by decide) ?_
  exact j_ireturn C E dXL1_canEncode_16 (by decide) (by decide) (by decide) (⟨rfl, rfl, rfl, rfl⟩)

set_option maxHeartbeats 4000000 in
set_option maxRecDepth 100000 in
theorem c_XS_coder (l : Launch) (ω : jW) (γ : jG) (M : jM) (R : jR)  : Ct l ω yXS_coder cXS_coder 1 (some .byte) 1 0 0 [.ref (jsK ω)] γ M R (jx γ (some (.int (0))) M R) := by
  refine Ct_of (by decide) (Nat.le_of_ble_eq_true rfl) rfl (jcat_of rfl) ?_
  intro X C E hnm hxl hxn
  subst hxl
  refine j_gets C (xi_cs C.xi) fx_cs dXS_coder_0 ?_
  refine j_if_eq C 13 dXS_coder_3 (by decide) (fun h => absurd h (by decide)) (fun _ => ?_)
  refine j_aload_n C dXS_coder_6 rfl ?_
  refine j_getX C (xi_coder C.xi) fx_coder dXS_coder_7 ?_
  refine j_goto C 14 dXS_coder_10 (by decide) ?_
  exact j_ireturn C E dXS_coder_14 (rfl) (by decide) (by decide) (⟨rfl, rfl, rfl, rfl⟩)

set_option maxHeartbeats 4000000 in
set_option maxRecDepth 100000 in
theorem c_XS_isLatin1 (l : Launch) (ω : jW) (γ : jG) (M : jM) (R : jR)  : Ct l ω yXS_isLatin1 cXS_isLatin1 1 (some .boolean) 1 0 0 [.ref (jsK ω)] γ M R (jx γ (some (.int (nI 1))) M R) := by
  refine Ct_of (by decide) (Nat.le_of_ble_eq_true rfl) rfl (jcat_of rfl) ?_
  intro X C E hnm hxl hxn
  subst hxl
  refine j_gets C (xi_cs C.xi) fx_cs dXS_isLatin1_0 ?_
  refine j_if_eq C 17 dXS_isLatin1_3 (by decide) (fun h => absurd h (by decide)) (fun _ => ?_)
  refine j_aload_n C dXS_isLatin1_6 rfl ?_
  refine j_getX C (xi_coder C.xi) fx_coder dXS_isLatin1_7 ?_
  refine j_if_ne C 17 dXS_isLatin1_10 (by decide) (fun h => absurd (rfl) h) (fun _ => ?_)
  refine j_iconst C (nI 1) dXS_isLatin1_13 (by decide) ?_
  refine j_goto C 18 dXS_isLatin1_14 (by decide) ?_
  exact j_ireturn C E dXS_isLatin1_18 (by decide) (by decide) (by decide) (⟨rfl, rfl, rfl, rfl⟩)

set_option maxHeartbeats 4000000 in
set_option maxRecDepth 100000 in
theorem c_XS_length (l : Launch) (ω : jW) (γ : jG) (M : jM) (R : jR)  : Ct l ω yXS_length cXS_length 1 (some .int) 2 0 0 [.ref (jsK ω)] γ M R (jx γ (some (.int (nI 3))) M R) := by
  refine Ct_of (by decide) (Nat.le_of_ble_eq_true rfl) rfl (jcat_of rfl) ?_
  intro X C E hnm hxl hxn
  subst hxl
  refine j_aload_n C dXS_length_0 rfl ?_
  refine j_getX C (xi_value C.xi) fx_value dXS_length_1 ?_
  refine j_tlen C (xi_bytes C.xi) dXS_length_4 ?_
  refine j_aload_n C dXS_length_5 rfl ?_
  refine j_cXi C (c_XS_coder _ ω γ M R) yc_XS_coder mn_XS_335 im_XS_coder se_XS_coder rfl rfl dXS_length_6 rfl rfl (Nat.le_of_ble_eq_true rfl) (by decide) ?_
  refine j_ishr C dXS_length_9 ?_
  refine j_top (nI 3) (by decide) ?_
  exact j_ireturn C E dXS_length_10 (rfl) (by decide) (by decide) (⟨rfl, rfl, rfl, rfl⟩)

set_option maxHeartbeats 4000000 in
set_option maxRecDepth 100000 in
theorem c_XL1_indexOfChar (l : Launch) (ω : jW) (γ : jG) (M : jM) (R : jR) {n : Nat} (hn : n < 128) : Ct l ω yXL1_indexOfChar cXL1_indexOfChar 6 (some .int) 1 0 0 [.ref (jsV ω), .int (nI n), .int (nI 0), .int (nI 3)] γ M R (jx γ (some (.int (rIx (nI n)))) M R) := by
  refine Ct_of (by decide) (Nat.le_of_ble_eq_true rfl) rfl (jcat_of rfl) ?_
  intro X C E hnm hxl hxn
  subst hxl
  refine j_iload_n C dXL1_indexOfChar_0 rfl ?_
  refine j_i2b C _ dXL1_indexOfChar_1 (b_small n hn) ?_
  refine j_istore C dXL1_indexOfChar_2 (by rw [hxn]; decide) ?_
  refine j_iload_n C dXL1_indexOfChar_4 rfl ?_
  refine j_istore C dXL1_indexOfChar_5 (by rw [hxn]; decide) ?_
  refine j_loop 3 (fun k => [(0, .ref (jsV ω)), (1, .int (nI n)), (2, .int (nI 0)), (3, .int (nI 3)), (4, .int (nI n)), (5, .int (nI k))]) (fun _ => M) (fun _ => R) (fun k => ∀ j, j < k → (fun k => decide (rB k = nI n)) j = false) (fun j hj => absurd hj (Nat.not_lt_zero j)) (fun k hk hI ih => ?_) (fun hI => ?_)
  · skip
    refine j_iload C dXL1_indexOfChar_7 rfl ?_
    refine j_iload_n C dXL1_indexOfChar_9 rfl ?_
    refine j_icmp_ge C 31 dXL1_indexOfChar_10 (by decide) (fun h => absurd h (nI_ge hk (by decide))) (fun _ => ?_)
    refine j_aload_n C dXL1_indexOfChar_13 rfl ?_
    refine j_iload C dXL1_indexOfChar_14 rfl ?_
    refine j_tbald C (xi_bytes C.xi) (vp_in_nI hk (by decide)) dXL1_indexOfChar_16 ?_
    rw [nI_clamp (by omega)]
    refine j_iload C dXL1_indexOfChar_17 rfl ?_
    refine j_icmp_ne C 25 dXL1_indexOfChar_19 (by decide) (fun h19 => ?_) (fun h19 => ?_)
    · skip
      first | refine j_iinc1 C dXL1_indexOfChar_25 rfl (by rw [hxn]; decide) ?_ | refine j_iinc C _ dXL1_indexOfChar_25 rfl rfl (by rw [hxn]; decide) ?_
      refine j_goto C 7 dXL1_indexOfChar_28 (by decide) ?_
      exact ih (lt_s hI (by simpa using h19))
    · skip
      refine j_iload C dXL1_indexOfChar_22 rfl ?_
      exact j_ireturn C E dXL1_indexOfChar_24 (rfl) (by decide) (by decide) (⟨by rw [rIx, rFirst_yes hk (by simp [h19]) hI], rfl, rfl, rfl⟩)
  · skip
    refine j_iload C dXL1_indexOfChar_7 rfl ?_
    refine j_iload_n C dXL1_indexOfChar_9 rfl ?_
    refine j_icmp_ge C 31 dXL1_indexOfChar_10 (by decide) (fun _ => ?_) (fun h => absurd (Int32.le_refl _) h)
    refine j_iconst C (-1) dXL1_indexOfChar_31 (by decide) ?_
    exact j_ireturn C E dXL1_indexOfChar_32 (rfl) (by decide) (by decide) (⟨by rw [rIx, rFirst_no hI], rfl, rfl, rfl⟩)

set_option maxHeartbeats 4000000 in
set_option maxRecDepth 100000 in
theorem c_XL1_indexOf (l : Launch) (ω : jW) (γ : jG) (M : jM) (R : jR) {n : Nat} (hn : n < 128) : Ct l ω yXL1_indexOf cXL1_indexOf 4 (some .int) 2 0 0 [.ref (jsV ω), .int (nI n), .int (nI 0), .int (nI 3)] γ M R (jx γ (some (.int (rIx (nI n)))) M R) := by
  refine Ct_of (by decide) (Nat.le_of_ble_eq_true rfl) rfl (jcat_of rfl) ?_
  intro X C E hnm hxl hxn
  subst hxl
  refine j_iload_n C dXL1_indexOf_0 rfl ?_
  refine j_cSi C (c_XL1_canEncode _ ω γ M R hn) yc_XL1_canEncode mn_XL1_88 st_XL1_canEncode dXL1_indexOf_1 rfl rfl (Nat.le_of_ble_eq_true rfl) (by decide) ?_
  refine j_if_ne C 9 dXL1_indexOf_4 (by decide) (fun _ => ?_) (fun h => absurd h (by decide))
  refine j_iload_n C dXL1_indexOf_9 rfl ?_
  refine j_iconst C (nI 0) dXL1_indexOf_10 (by decide) ?_
  refine j_max C ml_max (by decide) (Nat.le_of_ble_eq_true rfl) (by decide) dXL1_indexOf_11 ?_
  refine j_top (nI 0) (by decide) ?_
  refine j_istore_n C dXL1_indexOf_14 (by rw [hxn]; decide) ?_
  refine j_iload_n C dXL1_indexOf_15 rfl ?_
  refine j_aload_n C dXL1_indexOf_16 rfl ?_
  refine j_tlen C (xi_bytes C.xi) dXL1_indexOf_17 ?_
  refine j_min C ml_min (by decide) (Nat.le_of_ble_eq_true rfl) (by decide) dXL1_indexOf_18 ?_
  refine j_top (nI 3) (by decide) ?_
  refine j_istore_n C dXL1_indexOf_21 (by rw [hxn]; decide) ?_
  refine j_iload_n C dXL1_indexOf_22 rfl ?_
  refine j_iload_n C dXL1_indexOf_23 rfl ?_
  refine j_icmp_lt C 29 dXL1_indexOf_24 (by decide) (fun _ => ?_) (fun h => absurd (by decide) h)
  refine j_aload_n C dXL1_indexOf_29 rfl ?_
  refine j_iload_n C dXL1_indexOf_30 rfl ?_
  refine j_iload_n C dXL1_indexOf_31 rfl ?_
  refine j_iload_n C dXL1_indexOf_32 rfl ?_
  refine j_cSi C (c_XL1_indexOfChar _ ω γ M R hn) yc_XL1_indexOfChar mn_XL1_95 st_XL1_indexOfChar dXL1_indexOf_33 rfl rfl (Nat.le_of_ble_eq_true rfl) (by decide) ?_
  exact j_ireturn C E dXL1_indexOf_36 (rfl) (by decide) (by decide) (⟨rfl, rfl, rfl, rfl⟩)

set_option maxHeartbeats 4000000 in
set_option maxRecDepth 100000 in
theorem c_XS_indexOf2 (l : Launch) (ω : jW) (γ : jG) (M : jM) (R : jR) {n : Nat} (hn : n < 128) : Ct l ω yXS_indexOf2 cXS_indexOf2 3 (some .int) 3 0 0 [.ref (jsK ω), .int (nI n), .int (nI 0)] γ M R (jx γ (some (.int (rIx (nI n)))) M R) := by
  refine Ct_of (by decide) (Nat.le_of_ble_eq_true rfl) rfl (jcat_of rfl) ?_
  intro X C E hnm hxl hxn
  subst hxl
  refine j_aload_n C dXS_indexOf2_0 rfl ?_
  refine j_cXi C (c_XS_isLatin1 _ ω γ M R) yc_XS_isLatin1 mn_XS_492 im_XS_isLatin1 se_XS_isLatin1 rfl rfl dXS_indexOf2_1 rfl rfl (Nat.le_of_ble_eq_true rfl) (by decide) ?_
  refine j_if_eq C 23 dXS_indexOf2_4 (by decide) (fun h => absurd h (by decide)) (fun _ => ?_)
  refine j_aload_n C dXS_indexOf2_7 rfl ?_
  refine j_getX C (xi_value C.xi) fx_value dXS_indexOf2_8 ?_
  refine j_iload_n C dXS_indexOf2_11 rfl ?_
  refine j_iload_n C dXS_indexOf2_12 rfl ?_
  refine j_aload_n C dXS_indexOf2_13 rfl ?_
  refine j_cXi C (c_XS_length _ ω γ M R) yc_XS_length mn_XS_505 im_XS_length se_XS_length rfl rfl dXS_indexOf2_14 rfl rfl (Nat.le_of_ble_eq_true rfl) (by decide) ?_
  refine j_cSi C (c_XL1_indexOf _ ω γ M R hn) yc_XL1_indexOf mn_XS_637 st_XL1_indexOf dXS_indexOf2_17 rfl rfl (Nat.le_of_ble_eq_true rfl) (by decide) ?_
  refine j_goto C 36 dXS_indexOf2_20 (by decide) ?_
  exact j_ireturn C E dXS_indexOf2_36 (rfl) (by decide) (by decide) (⟨rfl, rfl, rfl, rfl⟩)

set_option maxHeartbeats 4000000 in
set_option maxRecDepth 100000 in
theorem c_XS_indexOf1 (l : Launch) (ω : jW) (γ : jG) (M : jM) (R : jR) {n : Nat} (hn : n < 128) : Ct l ω yXS_indexOf1 cXS_indexOf1 2 (some .int) 4 0 0 [.ref (jsK ω), .int (nI n)] γ M R (jx γ (some (.int (rIx (nI n)))) M R) := by
  refine Ct_of (by decide) (Nat.le_of_ble_eq_true rfl) rfl (jcat_of rfl) ?_
  intro X C E hnm hxl hxn
  subst hxl
  refine j_aload_n C dXS_indexOf1_0 rfl ?_
  refine j_iload_n C dXS_indexOf1_1 rfl ?_
  refine j_iconst C (nI 0) dXS_indexOf1_2 (by decide) ?_
  refine j_cXi C (c_XS_indexOf2 _ ω γ M R hn) yc_XS_indexOf2 mn_XS_633 im_XS_indexOf2 se_XS_indexOf2 rfl rfl dXS_indexOf1_3 rfl rfl (Nat.le_of_ble_eq_true rfl) (by decide) ?_
  exact j_ireturn C E dXS_indexOf1_6 (rfl) (by decide) (by decide) (⟨rfl, rfl, rfl, rfl⟩)

set_option maxHeartbeats 4000000 in
set_option maxRecDepth 100000 in
theorem c_X8_characterAt (l : Launch) (ω : jW) (γ : jG) (M : jM) (R : jR) {b : Nat} (g : gText ω γ b) (hT : TC M b) (p : Int32) : Ct l ω yX8_characterAt cX8_characterAt 2 (some .char) 1 0 0 [.ref b, .int p] γ M R (jx γ (some (.int (rChr M b p))) M R) := by
  refine Ct_of (by decide) (Nat.le_of_ble_eq_true rfl) rfl (jcat_of rfl) ?_
  intro X C E hnm hxl hxn
  subst hxl
  have g0 := g.1
  have g1 := g.2.1
  have g2 := g.2.2
  refine j_iload_n C dX8_characterAt_0 rfl ?_
  refine j_if_lt C 30 dX8_characterAt_1 (by decide) (fun h1 => ?_) (fun h1 => ?_)
  · skip
    refine j_bipush C (nI 32) dX8_characterAt_30 (by decide) ?_
    exact j_ireturn C E dX8_characterAt_32 (by first | rfl | exact hT.nar (lt_of_in (in_of h1 h18 (by decide)))) (by decide) (by decide) (⟨by simp only [rChr, if_pos h1], rfl, rfl, rfl⟩)
  · skip
    refine j_iload_n C dX8_characterAt_4 rfl ?_
    refine j_aload_n C dX8_characterAt_5 rfl ?_
    refine j_getI C fl_X8_15 (by assumption) dX8_characterAt_6 (by decide) rfl ?_
    refine j_icmp_ge C 30 dX8_characterAt_9 (by decide) (fun h9 => ?_) (fun h9 => ?_)
    · skip
      refine j_bipush C (nI 32) dX8_characterAt_30 (by decide) ?_
      exact j_ireturn C E dX8_characterAt_32 (by first | rfl | exact hT.nar (lt_of_in (in_of h1 h18 (by decide)))) (by decide) (by decide) (⟨by simp only [rChr, if_neg h1, if_pos h9], rfl, rfl, rfl⟩)
    · skip
      refine j_iload_n C dX8_characterAt_12 rfl ?_
      refine j_aload_n C dX8_characterAt_13 rfl ?_
      refine j_getR C fl_X8_9 (by assumption) dX8_characterAt_14 (by decide) rfl (by assumption) ?_
      refine j_alen C (by assumption) rfl (by decide) dX8_characterAt_17 ?_
      refine j_icmp_ge C 30 dX8_characterAt_18 (by decide) (fun h18 => ?_) (fun h18 => ?_)
      · skip
        refine j_bipush C (nI 32) dX8_characterAt_30 (by decide) ?_
        exact j_ireturn C E dX8_characterAt_32 (by first | rfl | exact hT.nar (lt_of_in (in_of h1 h18 (by decide)))) (by decide) (by decide) (⟨by simp only [rChr, if_neg h1, if_neg h9, if_pos h18], rfl, rfl, rfl⟩)
      · skip
        refine j_aload_n C dX8_characterAt_21 rfl ?_
        refine j_getR C fl_X8_9 (by assumption) dX8_characterAt_22 (by decide) rfl (by assumption) ?_
        refine j_iload_n C dX8_characterAt_25 rfl ?_
        refine j_cald C (by assumption) (in_of h1 h18 (by decide)) dX8_characterAt_26 ?_
        refine j_goto C 32 dX8_characterAt_27 (by decide) ?_
        exact j_ireturn C E dX8_characterAt_32 (by first | rfl | exact hT.nar (lt_of_in (in_of h1 h18 (by decide)))) (by decide) (by decide) (⟨by simp only [rChr, if_neg h1, if_neg h9, if_neg h18], rfl, rfl, rfl⟩)

set_option maxHeartbeats 4000000 in
set_option maxRecDepth 100000 in
theorem c_X8_isBehindLastCondition (l : Launch) (ω : jW) (γ : jG) (M : jM) (R : jR) (b : Nat) (p : Int32) : Ct l ω yX8_isBehindLastCondition cX8_isBehindLastCondition 2 (some .boolean) 1 0 0 [.ref b, .int p] γ M R (jx γ (some (.int (rBeh p))) M R) := by
  refine Ct_of (by decide) (Nat.le_of_ble_eq_true rfl) rfl (jcat_of rfl) ?_
  intro X C E hnm hxl hxn
  subst hxl
  refine j_iload_n C dX8_isBehindLastCondition_0 rfl ?_
  refine j_bipush C (nI 15) dX8_isBehindLastCondition_1 (by decide) ?_
  refine j_icmp_ne C 10 dX8_isBehindLastCondition_3 (by decide) (fun h3 => ?_) (fun h3 => ?_)
  · skip
    refine j_iconst C (nI 0) dX8_isBehindLastCondition_10 (by decide) ?_
    exact j_ireturn C E dX8_isBehindLastCondition_11 (by decide) (by decide) (by decide) (⟨by simp only [rBeh, if_neg h3], rfl, rfl, rfl⟩)
  · skip
    refine j_iconst C (nI 1) dX8_isBehindLastCondition_6 (by decide) ?_
    refine j_goto C 11 dX8_isBehindLastCondition_7 (by decide) ?_
    exact j_ireturn C E dX8_isBehindLastCondition_11 (by decide) (by decide) (by decide) (⟨by simp only [rBeh, if_pos h3], rfl, rfl, rfl⟩)

set_option maxHeartbeats 4000000 in
set_option maxRecDepth 100000 in
theorem c_X8_canStandAt (l : Launch) (ω : jW) (γ : jG) (M : jM) (R : jR) {b : Nat} (g : gText ω γ b) (hT : TC M b) {j : Nat} (hj : j < 30) : Ct l ω yX8_canStandAt cX8_canStandAt 3 (some .boolean) 5 0 0 [.ref b, .int (nI j)] γ M R (jx γ (some (.int (rCan M b j))) M R) := by
  refine Ct_of (by decide) (Nat.le_of_ble_eq_true rfl) rfl (jcat_of rfl) ?_
  intro X C E hnm hxl hxn
  subst hxl
  have g0 := g.1
  refine j_aload_n C dX8_canStandAt_0 rfl ?_
  refine j_iload_n C dX8_canStandAt_1 rfl ?_
  refine j_cVi C (c_X8_characterAt _ ω γ M R g hT _) yc_X8_characterAt mn_X8_26 im_X8_characterAt se_X8_characterAt rfl rfl dX8_canStandAt_2 rfl rfl (by assumption) (by decide) (Nat.le_of_ble_eq_true rfl) (by decide) ?_
  refine j_istore_n C dX8_canStandAt_5 (by rw [hxn]; decide) ?_
  refine j_iload_n C dX8_canStandAt_6 rfl ?_
  refine j_iconst C (nI 4) dX8_canStandAt_7 (by decide) ?_
  refine j_irem C dX8_canStandAt_8 (by decide) ?_
  refine j_top (nI (j % 4)) (pk_rem (by omega) (by decide) (by decide)) ?_
  by_cases s9_0 : nI (j % 4) = nI 0
  · skip
    refine j_tableIn C 0 36 dX8_canStandAt_9 (by rw [s9_0]; decide) (by decide) rfl (by decide) ?_
    refine j_iload_n C dX8_canStandAt_36 rfl ?_
    refine j_bipush C (nI 97) dX8_canStandAt_37 (by decide) ?_
    refine j_icmp_lt C 52 dX8_canStandAt_39 (by decide) (fun h39 => ?_) (fun h39 => ?_)
    · skip
      refine j_iconst C (nI 0) dX8_canStandAt_52 (by decide) ?_
      exact j_ireturn C E dX8_canStandAt_53 (by decide) (by decide) (by decide) (⟨by simp only [rCan, if_pos s9_0, if_pos h39], rfl, rfl, rfl⟩)
    · skip
      refine j_iload_n C dX8_canStandAt_42 rfl ?_
      refine j_bipush C (nI 101) dX8_canStandAt_43 (by decide) ?_
      refine j_icmp_ge C 52 dX8_canStandAt_45 (by decide) (fun h45 => ?_) (fun h45 => ?_)
      · skip
        refine j_iconst C (nI 0) dX8_canStandAt_52 (by decide) ?_
        exact j_ireturn C E dX8_canStandAt_53 (by decide) (by decide) (by decide) (⟨by simp only [rCan, if_pos s9_0, if_neg h39, if_pos h45], rfl, rfl, rfl⟩)
      · skip
        refine j_iconst C (nI 1) dX8_canStandAt_48 (by decide) ?_
        refine j_goto C 53 dX8_canStandAt_49 (by decide) ?_
        exact j_ireturn C E dX8_canStandAt_53 (by decide) (by decide) (by decide) (⟨by simp only [rCan, if_pos s9_0, if_neg h39, if_neg h45], rfl, rfl, rfl⟩)
  by_cases s9_1 : nI (j % 4) = nI 1
  · skip
    refine j_tableIn C 1 54 dX8_canStandAt_9 (by rw [s9_1]; decide) (by decide) rfl (by decide) ?_
    refine j_ldcS C C.xi.2.2.2.2.2.2.1 dX8_canStandAt_54 ?_
    refine j_iload_n C dX8_canStandAt_56 rfl ?_
    obtain ⟨cc, hcc, ec⟩ := rChr_N hT (nI j)
    have hct := c_XS_indexOf1 (xl X) ω γ M R hcc
    rw [← ec] at hct
    refine j_cXi C hct yc_XS_indexOf1 mn_X8_32 im_XS_indexOf1 se_XS_indexOf1 rfl rfl dX8_canStandAt_57 rfl rfl (Nat.le_of_ble_eq_true rfl) (by decide) ?_
    refine j_if_lt C 67 dX8_canStandAt_60 (by decide) (fun h60 => ?_) (fun h60 => ?_)
    · skip
      refine j_iconst C (nI 0) dX8_canStandAt_67 (by decide) ?_
      exact j_ireturn C E dX8_canStandAt_68 (by decide) (by decide) (by decide) (⟨by simp only [rCan, if_neg s9_0, if_pos s9_1, if_pos h60], rfl, rfl, rfl⟩)
    · skip
      refine j_iconst C (nI 1) dX8_canStandAt_63 (by decide) ?_
      refine j_goto C 68 dX8_canStandAt_64 (by decide) ?_
      exact j_ireturn C E dX8_canStandAt_68 (by decide) (by decide) (by decide) (⟨by simp only [rCan, if_neg s9_0, if_pos s9_1, if_neg h60], rfl, rfl, rfl⟩)
  by_cases s9_2 : nI (j % 4) = nI 2
  · skip
    refine j_tableIn C 2 69 dX8_canStandAt_9 (by rw [s9_2]; decide) (by decide) rfl (by decide) ?_
    refine j_iload_n C dX8_canStandAt_69 rfl ?_
    refine j_bipush C (nI 63) dX8_canStandAt_70 (by decide) ?_
    refine j_icmp_ne C 79 dX8_canStandAt_72 (by decide) (fun h72 => ?_) (fun h72 => ?_)
    · skip
      refine j_iconst C (nI 0) dX8_canStandAt_79 (by decide) ?_
      exact j_ireturn C E dX8_canStandAt_80 (by decide) (by decide) (by decide) (⟨by simp only [rCan, if_neg s9_0, if_neg s9_1, if_pos s9_2, if_neg h72], rfl, rfl, rfl⟩)
    · skip
      refine j_iconst C (nI 1) dX8_canStandAt_75 (by decide) ?_
      refine j_goto C 80 dX8_canStandAt_76 (by decide) ?_
      exact j_ireturn C E dX8_canStandAt_80 (by decide) (by decide) (by decide) (⟨by simp only [rCan, if_neg s9_0, if_neg s9_1, if_pos s9_2, if_pos h72], rfl, rfl, rfl⟩)
  refine j_tableOut C 81 dX8_canStandAt_9 (sw_out 2 (nI (j % 4)) (by intro j hj; match j, hj with | 0, _ => exact s9_0 | 1, _ => exact s9_1 | 2, _ => exact s9_2 | n + 3, h => exact absurd h (by omega))) (by decide) ?_
  refine j_iload_n C dX8_canStandAt_81 rfl ?_
  refine j_bipush C (nI 38) dX8_canStandAt_82 (by decide) ?_
  refine j_icmp_ne C 99 dX8_canStandAt_84 (by decide) (fun h84 => ?_) (fun h84 => ?_)
  · skip
    refine j_iconst C (nI 0) dX8_canStandAt_99 (by decide) ?_
    exact j_ireturn C E dX8_canStandAt_100 (by decide) (by decide) (by decide) (⟨by simp only [rCan, if_neg s9_0, if_neg s9_1, if_neg s9_2, if_neg h84], rfl, rfl, rfl⟩)
  · skip
    refine j_aload_n C dX8_canStandAt_87 rfl ?_
    refine j_iload_n C dX8_canStandAt_88 rfl ?_
    refine j_cVi C (c_X8_isBehindLastCondition _ ω γ M R _ _) yc_X8_isBehindLastCondition mn_X8_23 im_X8_isBehindLastCondition se_X8_isBehindLastCondition rfl rfl dX8_canStandAt_89 rfl rfl (by assumption) (by decide) (Nat.le_of_ble_eq_true rfl) (by decide) ?_
    refine j_if_ne C 99 dX8_canStandAt_92 (by decide) (fun h92 => ?_) (fun h92 => ?_)
    · skip
      refine j_iconst C (nI 0) dX8_canStandAt_99 (by decide) ?_
      exact j_ireturn C E dX8_canStandAt_100 (by decide) (by decide) (by decide) (⟨by simp only [rCan, if_neg s9_0, if_neg s9_1, if_neg s9_2, if_pos h84, if_neg h92], rfl, rfl, rfl⟩)
    · skip
      refine j_iconst C (nI 1) dX8_canStandAt_95 (by decide) ?_
      refine j_goto C 100 dX8_canStandAt_96 (by decide) ?_
      exact j_ireturn C E dX8_canStandAt_100 (by decide) (by decide) (by decide) (⟨by simp only [rCan, if_neg s9_0, if_neg s9_1, if_neg s9_2, if_pos h84, if_pos h92], rfl, rfl, rfl⟩)

set_option maxHeartbeats 4000000 in
set_option maxRecDepth 100000 in
theorem c_X8_faultPlace (l : Launch) (ω : jW) (γ : jG) (M : jM) (R : jR) {b n : Nat} (g : gText ω γ b) (hT : TC M b) (hl : M b 1 = nI n) (hn : n ≤ 30)  : Ct l ω yX8_faultPlace cX8_faultPlace 2 (some .int) 6 0 0 [.ref b] γ M R (jx γ (some (.int (rFlt M b n))) M R) := by
  refine Ct_of (by decide) (Nat.le_of_ble_eq_true rfl) rfl (jcat_of rfl) ?_
  intro X C E hnm hxl hxn
  subst hxl
  have g0 := g.1
  refine j_iconst C (nI 0) dX8_faultPlace_0 (by decide) ?_
  refine j_istore_n C dX8_faultPlace_1 (by rw [hxn]; decide) ?_
  refine j_loop n (fun k => [(0, .ref b), (1, .int (nI k))]) (fun _ => M) (fun _ => R) (fun k => ∀ j, j < k → qBad M b j = false) (fun j hj => absurd hj (Nat.not_lt_zero j)) (fun k hk hI ih => ?_) (fun hI => ?_)
  · skip
    refine j_iload_n C dX8_faultPlace_2 rfl ?_
    refine j_aload_n C dX8_faultPlace_3 rfl ?_
    refine j_getI C fl_X8_15 (by assumption) dX8_faultPlace_4 (by decide) rfl ?_
    refine j_top (nI n) (hl) ?_
    refine j_icmp_ge C 26 dX8_faultPlace_7 (by decide) (fun h => absurd h (nI_ge hk (by omega))) (fun _ => ?_)
    refine j_aload_n C dX8_faultPlace_10 rfl ?_
    refine j_iload_n C dX8_faultPlace_11 rfl ?_
    refine j_cVi C (c_X8_canStandAt _ ω γ M R g hT (show k < 30 by omega)) yc_X8_canStandAt mn_X8_19 im_X8_canStandAt se_X8_canStandAt rfl rfl dX8_faultPlace_12 rfl rfl (by assumption) (by decide) (Nat.le_of_ble_eq_true rfl) (by decide) ?_
    refine j_if_ne C 20 dX8_faultPlace_15 (by decide) (fun h15 => ?_) (fun h15 => ?_)
    · skip
      first | refine j_iinc1 C dX8_faultPlace_20 rfl (by rw [hxn]; decide) ?_ | refine j_iinc C _ dX8_faultPlace_20 rfl rfl (by rw [hxn]; decide) ?_
      refine j_goto C 2 dX8_faultPlace_23 (by decide) ?_
      exact ih (lt_s hI (by simpa [qBad] using h15))
    · skip
      refine j_iload_n C dX8_faultPlace_18 rfl ?_
      exact j_ireturn C E dX8_faultPlace_19 (rfl) (by decide) (by decide) (⟨by rw [rFlt, rFirst_yes hk (by simp [qBad, h15]) hI, if_neg (nI_nem1 (by omega))], rfl, rfl, rfl⟩)
  · skip
    refine j_iload_n C dX8_faultPlace_2 rfl ?_
    refine j_aload_n C dX8_faultPlace_3 rfl ?_
    refine j_getI C fl_X8_15 (by assumption) dX8_faultPlace_4 (by decide) rfl ?_
    refine j_top (nI n) (hl) ?_
    refine j_icmp_ge C 26 dX8_faultPlace_7 (by decide) (fun _ => ?_) (fun h => absurd (Int32.le_refl _) h)
    refine j_aload_n C dX8_faultPlace_26 rfl ?_
    refine j_getI C fl_X8_15 (by assumption) dX8_faultPlace_27 (by decide) rfl ?_
    refine j_top (nI n) (hl) ?_
    refine j_iconst C (nI 4) dX8_faultPlace_30 (by decide) ?_
    refine j_irem C dX8_faultPlace_31 (by decide) ?_
    refine j_top (nI (n % 4)) (pk_rem (by omega) (by decide) (by decide)) ?_
    refine j_iconst C (nI 3) dX8_faultPlace_32 (by decide) ?_
    refine j_icmp_ne C 40 dX8_faultPlace_33 (by decide) (fun h33 => ?_) (fun h33 => ?_)
    · skip
      refine j_aload_n C dX8_faultPlace_40 rfl ?_
      refine j_getI C fl_X8_15 (by assumption) dX8_faultPlace_41 (by decide) rfl ?_
      exact j_ireturn C E dX8_faultPlace_44 (rfl) (by decide) (by decide) (⟨by rw [rFlt, rFirst_no hI, if_pos rfl]; first | rw [if_pos h33] | (rw [if_neg h33, hl]), rfl, rfl, rfl⟩)
    · skip
      refine j_iconst C (-1) dX8_faultPlace_36 (by decide) ?_
      refine j_goto C 44 dX8_faultPlace_37 (by decide) ?_
      exact j_ireturn C E dX8_faultPlace_44 (rfl) (by decide) (by decide) (⟨by rw [rFlt, rFirst_no hI, if_pos rfl]; first | rw [if_pos h33] | (rw [if_neg h33, hl]), rfl, rfl, rfl⟩)

set_option maxHeartbeats 4000000 in
set_option maxRecDepth 100000 in
theorem c_X8_reasonAt (l : Launch) (ω : jW) (γ : jG) (M : jM) (R : jR) {b : Nat} (g : gText ω γ b) (hT : TC M b) (p : Int32) : Ct l ω yX8_reasonAt cX8_reasonAt 2 (some .int) 2 0 0 [.ref b, .int p] γ M R (jx γ (some (.int (rRsn M b p))) M R) := by
  refine Ct_of (by decide) (Nat.le_of_ble_eq_true rfl) rfl (jcat_of rfl) ?_
  intro X C E hnm hxl hxn
  subst hxl
  have g0 := g.1
  refine j_aload_n C dX8_reasonAt_0 rfl ?_
  refine j_iload_n C dX8_reasonAt_1 rfl ?_
  refine j_cVi C (c_X8_isBehindLastCondition _ ω γ M R _ _) yc_X8_isBehindLastCondition mn_X8_23 im_X8_isBehindLastCondition se_X8_isBehindLastCondition rfl rfl dX8_reasonAt_2 rfl rfl (by assumption) (by decide) (Nat.le_of_ble_eq_true rfl) (by decide) ?_
  refine j_if_eq C 22 dX8_reasonAt_5 (by decide) (fun h5 => ?_) (fun h5 => ?_)
  · skip
    refine j_iconst C (nI 1) dX8_reasonAt_22 (by decide) ?_
    exact j_ireturn C E dX8_reasonAt_23 (rfl) (by decide) (by decide) (⟨by simp only [rRsn, if_pos h5], rfl, rfl, rfl⟩)
  · skip
    refine j_aload_n C dX8_reasonAt_8 rfl ?_
    refine j_iload_n C dX8_reasonAt_9 rfl ?_
    refine j_cVi C (c_X8_characterAt _ _ _ _ _ (by assumption) (by assumption) _) yc_X8_characterAt mn_X8_26 im_X8_characterAt se_X8_characterAt rfl rfl dX8_reasonAt_10 rfl rfl (by assumption) (by decide) (Nat.le_of_ble_eq_true rfl) (by decide) ?_
    refine j_bipush C (nI 38) dX8_reasonAt_13 (by decide) ?_
    refine j_icmp_ne C 22 dX8_reasonAt_15 (by decide) (fun h15 => ?_) (fun h15 => ?_)
    · skip
      refine j_iconst C (nI 1) dX8_reasonAt_22 (by decide) ?_
      exact j_ireturn C E dX8_reasonAt_23 (rfl) (by decide) (by decide) (⟨by simp only [rRsn, if_neg h5, if_neg h15], rfl, rfl, rfl⟩)
    · skip
      refine j_iconst C (nI 2) dX8_reasonAt_18 (by decide) ?_
      refine j_goto C 23 dX8_reasonAt_19 (by decide) ?_
      exact j_ireturn C E dX8_reasonAt_23 (rfl) (by decide) (by decide) (⟨by simp only [rRsn, if_neg h5, if_pos h15], rfl, rfl, rfl⟩)

set_option maxHeartbeats 4000000 in
set_option maxRecDepth 100000 in
theorem c_X8_conditions (l : Launch) (ω : jW) (γ : jG) (M : jM) (R : jR) {b n : Nat} (g0 : jAt ω γ b 8) (hl : M b 1 = nI n) (hn : n ≤ 30) : Ct l ω yX8_conditions cX8_conditions 1 (some .int) 1 0 0 [.ref b] γ M R (jx γ (some (.int (nI ((n + 1) / 4)))) M R) := by
  refine Ct_of (by decide) (Nat.le_of_ble_eq_true rfl) rfl (jcat_of rfl) ?_
  intro X C E hnm hxl hxn
  subst hxl
  refine j_aload_n C dX8_conditions_0 rfl ?_
  refine j_getI C fl_X8_15 (by assumption) dX8_conditions_1 (by decide) rfl ?_
  refine j_top (nI n) (hl) ?_
  refine j_iconst C (nI 1) dX8_conditions_4 (by decide) ?_
  first | with_reducible refine j_iaddN C dX8_conditions_5 ?_ | refine j_iadd C dX8_conditions_5 ?_
  refine j_iconst C (nI 4) dX8_conditions_6 (by decide) ?_
  refine j_idiv C dX8_conditions_7 (by decide) ?_
  refine j_top (nI ((n + 1) / 4)) (pk_div (by omega) (by decide) (by decide)) ?_
  exact j_ireturn C E dX8_conditions_8 (rfl) (by decide) (by decide) (⟨rfl, rfl, rfl, rfl⟩)

set_option maxHeartbeats 4000000 in
set_option maxRecDepth 100000 in
theorem c_X8_columnOf (l : Launch) (ω : jW) (γ : jG) (M : jM) (R : jR) {b : Nat} (g : gText ω γ b) (hT : TC M b) (k : Nat) : Ct l ω yX8_columnOf cX8_columnOf 2 (some .int) 2 0 0 [.ref b, .int (nI k)] γ M R (jx γ (some (.int (rTCol M b k))) M R) := by
  refine Ct_of (by decide) (Nat.le_of_ble_eq_true rfl) rfl (jcat_of rfl) ?_
  intro X C E hnm hxl hxn
  subst hxl
  have g0 := g.1
  refine j_aload_n C dX8_columnOf_0 rfl ?_
  refine j_iload_n C dX8_columnOf_1 rfl ?_
  refine j_iconst C (nI 4) dX8_columnOf_2 (by decide) ?_
  first | with_reducible refine j_imulN C dX8_columnOf_3 ?_ | refine j_imul C dX8_columnOf_3 ?_
  refine j_cVi C (c_X8_characterAt _ _ _ _ _ (by assumption) (by assumption) _) yc_X8_characterAt mn_X8_26 im_X8_characterAt se_X8_characterAt rfl rfl dX8_columnOf_4 rfl rfl (by assumption) (by decide) (Nat.le_of_ble_eq_true rfl) (by decide) ?_
  refine j_bipush C (nI 97) dX8_columnOf_7 (by decide) ?_
  refine j_isub C dX8_columnOf_9 ?_
  exact j_ireturn C E dX8_columnOf_10 (rfl) (by decide) (by decide) (⟨rfl, rfl, rfl, rfl⟩)

set_option maxHeartbeats 4000000 in
set_option maxRecDepth 100000 in
theorem c_X8_operatorOf (l : Launch) (ω : jW) (γ : jG) (M : jM) (R : jR) {b : Nat} (g : gText ω γ b) (hT : TC M b) (k : Nat) : Ct l ω yX8_operatorOf cX8_operatorOf 2 (some .int) 5 0 0 [.ref b, .int (nI k)] γ M R (jx γ (some (.int (rTOp M b k))) M R) := by
  refine Ct_of (by decide) (Nat.le_of_ble_eq_true rfl) rfl (jcat_of rfl) ?_
  intro X C E hnm hxl hxn
  subst hxl
  have g0 := g.1
  refine j_ldcS C C.xi.2.2.2.2.2.2.1 dX8_operatorOf_0 ?_
  refine j_aload_n C dX8_operatorOf_2 rfl ?_
  refine j_iload_n C dX8_operatorOf_3 rfl ?_
  refine j_iconst C (nI 4) dX8_operatorOf_4 (by decide) ?_
  first | with_reducible refine j_imulN C dX8_operatorOf_5 ?_ | refine j_imul C dX8_operatorOf_5 ?_
  refine j_iconst C (nI 1) dX8_operatorOf_6 (by decide) ?_
  first | with_reducible refine j_iaddN C dX8_operatorOf_7 ?_ | refine j_iadd C dX8_operatorOf_7 ?_
  refine j_cVi C (c_X8_characterAt _ _ _ _ _ (by assumption) (by assumption) _) yc_X8_characterAt mn_X8_26 im_X8_characterAt se_X8_characterAt rfl rfl dX8_operatorOf_8 rfl rfl (by assumption) (by decide) (Nat.le_of_ble_eq_true rfl) (by decide) ?_
  obtain ⟨cc, hcc, ec⟩ := rChr_N hT (nI (k * 4 + 1))
  have hct := c_XS_indexOf1 (xl X) ω γ M R hcc
  rw [← ec] at hct
  refine j_cXi C hct yc_XS_indexOf1 mn_X8_32 im_XS_indexOf1 se_XS_indexOf1 rfl rfl dX8_operatorOf_11 rfl rfl (Nat.le_of_ble_eq_true rfl) (by decide) ?_
  exact j_ireturn C E dX8_operatorOf_14 (rfl) (by decide) (by decide) (⟨rfl, rfl, rfl, rfl⟩)

set_option maxHeartbeats 4000000 in
set_option maxRecDepth 100000 in
theorem c_X8_append (l : Launch) (ω : jW) (γ : jG) (M : jM) (R : jR) {b n ch : Nat} (g : gText ω γ b) (hl : M b 1 = nI n) (hn : n < 30) (hc : ch < 128) : Ct l ω yX8_append cX8_append 2 (some .int) 1 0 0 [.ref b, .int (nI ch)] γ M R (jx γ (some (.int (nI (n + 1)))) (jup (jup M (b + 1) n (nI ch)) b 1 (nI (n + 1))) R) := by
  refine Ct_of (by decide) (Nat.le_of_ble_eq_true rfl) rfl (jcat_of rfl) ?_
  intro X C E hnm hxl hxn
  subst hxl
  have g0 := g.1
  have g1 := g.2.1
  have g2 := g.2.2
  refine j_aload_n C dX8_append_0 rfl ?_
  refine j_getI C fl_X8_15 (by assumption) dX8_append_1 (by decide) rfl ?_
  refine j_top (nI n) (hl) ?_
  refine j_if_lt C 39 dX8_append_4 (by decide) (fun h => absurd h (nI_pos (by omega))) (fun _ => ?_)
  refine j_aload_n C dX8_append_7 rfl ?_
  refine j_getI C fl_X8_15 (by assumption) dX8_append_8 (by decide) rfl ?_
  refine j_top (nI n) (hl) ?_
  refine j_aload_n C dX8_append_11 rfl ?_
  refine j_getR C fl_X8_9 (by assumption) dX8_append_12 (by decide) rfl (by assumption) ?_
  refine j_alen C (by assumption) rfl (by decide) dX8_append_15 ?_
  refine j_icmp_ge C 39 dX8_append_16 (by decide) (fun h => absurd h (nI_ge hn (by decide))) (fun _ => ?_)
  refine j_aload_n C dX8_append_19 rfl ?_
  refine j_getR C fl_X8_9 (by assumption) dX8_append_20 (by decide) rfl (by assumption) ?_
  refine j_aload_n C dX8_append_23 rfl ?_
  refine j_getI C fl_X8_15 (by assumption) dX8_append_24 (by decide) rfl ?_
  refine j_top (nI n) (hl) ?_
  refine j_iload_n C dX8_append_27 rfl ?_
  refine j_cast C (by assumption) (vp_in_nI hn (by decide)) (c_small ch hc) dX8_append_28 ?_
  rw [nI_clamp (by omega)]
  refine j_aload_n C dX8_append_29 rfl ?_
  refine j_dup C dX8_append_30 rfl ?_
  refine j_getI C fl_X8_15 (by assumption) dX8_append_31 (by decide) rfl ?_
  refine j_top (nI n) (by rw [jup_na _ _ (by omega)]; exact hl) ?_
  refine j_iconst C (nI 1) dX8_append_34 (by decide) ?_
  first | with_reducible refine j_iaddN C dX8_append_35 ?_ | refine j_iadd C dX8_append_35 ?_
  refine j_putI C fl_X8_15 (by assumption) dX8_append_36 (by decide) rfl (rfl) (rfl) ?_
  refine j_aload_n C dX8_append_39 rfl ?_
  refine j_getI C fl_X8_15 (by assumption) dX8_append_40 (by decide) rfl ?_
  refine j_top (nI (n + 1)) (jup_eq _ _ _ _) ?_
  exact j_ireturn C E dX8_append_43 (rfl) (by decide) (by decide) (⟨rfl, rfl, rfl, rfl⟩)

set_option maxHeartbeats 4000000 in
set_option maxRecDepth 100000 in
theorem c_X8_empty (l : Launch) (ω : jW) (γ : jG) (M : jM) (R : jR) {b : Nat} (g0 : jAt ω γ b 8) : Ct l ω yX8_empty cX8_empty 2 (some .int) 1 0 0 [.ref b] γ M R (jx γ (some (.int (M b 1))) (jup M b 1 (nI 0)) R) := by
  refine Ct_of (by decide) (Nat.le_of_ble_eq_true rfl) rfl (jcat_of rfl) ?_
  intro X C E hnm hxl hxn
  subst hxl
  refine j_aload_n C dX8_empty_0 rfl ?_
  refine j_getI C fl_X8_15 (by assumption) dX8_empty_1 (by decide) rfl ?_
  refine j_istore_n C dX8_empty_4 (by rw [hxn]; decide) ?_
  refine j_aload_n C dX8_empty_5 rfl ?_
  refine j_iconst C (nI 0) dX8_empty_6 (by decide) ?_
  refine j_putI C fl_X8_15 (by assumption) dX8_empty_7 (by decide) rfl (rfl) (rfl) ?_
  refine j_iload_n C dX8_empty_10 rfl ?_
  exact j_ireturn C E dX8_empty_11 (rfl) (by decide) (by decide) (⟨rfl, rfl, rfl, rfl⟩)

set_option maxHeartbeats 4000000 in
set_option maxRecDepth 100000 in
theorem c_X5_isOf (l : Launch) (ω : jW) (γ : jG) (M : jM) (R : jR) {t b n nc : Nat} (gt : gStm ω γ t) (g : gText ω γ b) (hT : TC M b) (hl : M b 1 = nI n) (hn : n ≤ 30) (hc : M t 2 = nI nc) (hnc : nc ≤ 4) : Ct l ω yX5_isOf cX5_isOf 3 (some .boolean) 6 0 0 [.ref t, .ref b] γ M R (jx γ (some (.int (rIsOf M t b n nc))) M R) := by
  refine Ct_of (by decide) (Nat.le_of_ble_eq_true rfl) rfl (jcat_of rfl) ?_
  intro X C E hnm hxl hxn
  subst hxl
  have g0 := g.1
  have gt0 := gt.1
  refine j_aload_n C dX5_isOf_0 rfl ?_
  refine j_cVi C (c_X8_conditions _ ω γ M R g0 hl hn) yc_X8_conditions mn_X5_33 im_X8_conditions se_X8_conditions rfl rfl dX5_isOf_1 rfl rfl (by assumption) (by decide) (Nat.le_of_ble_eq_true rfl) (by decide) ?_
  refine j_aload_n C dX5_isOf_4 rfl ?_
  refine j_getI C fl_X5_18 (by assumption) dX5_isOf_5 (by decide) rfl ?_
  refine j_top (nI nc) (hc) ?_
  refine j_icmp_eq C 13 dX5_isOf_8 (by decide) (fun h8 => ?_) (fun h8 => ?_)
  · skip
    refine j_iconst C (nI 0) dX5_isOf_13 (by decide) ?_
    refine j_istore_n C dX5_isOf_14 (by rw [hxn]; decide) ?_
    refine j_loop nc (fun k => [(0, .ref t), (1, .ref b), (2, .int (nI k))]) (fun _ => M) (fun _ => R) (fun k => ∀ j, j < k → qSame M t b j = true) (fun j hj => absurd hj (Nat.not_lt_zero j)) (fun k hk hI ih => ?_) (fun hI => ?_)
    · skip
      refine j_iload_n C dX5_isOf_15 rfl ?_
      refine j_aload_n C dX5_isOf_16 rfl ?_
      refine j_getI C fl_X5_18 (by assumption) dX5_isOf_17 (by decide) rfl ?_
      refine j_top (nI nc) (hc) ?_
      refine j_icmp_ge C 57 dX5_isOf_20 (by decide) (fun h => absurd h (nI_ge hk (by omega))) (fun _ => ?_)
      refine j_aload_n C dX5_isOf_23 rfl ?_
      refine j_iload_n C dX5_isOf_24 rfl ?_
      refine j_cVi C (c_X5_columnAt _ _ _ _ _ (by assumption) _) yc_X5_columnAt mn_X5_38 im_X5_columnAt se_X5_columnAt rfl rfl dX5_isOf_25 rfl rfl (by assumption) (by decide) (Nat.le_of_ble_eq_true rfl) (by decide) ?_
      refine j_aload_n C dX5_isOf_28 rfl ?_
      refine j_iload_n C dX5_isOf_29 rfl ?_
      refine j_cVi C (c_X8_columnOf _ ω γ M R g hT k) yc_X8_columnOf mn_X5_42 im_X8_columnOf se_X8_columnOf rfl rfl dX5_isOf_30 rfl rfl (by assumption) (by decide) (Nat.le_of_ble_eq_true rfl) (by decide) ?_
      refine j_icmp_ne C 49 dX5_isOf_33 (by decide) (fun h33 => ?_) (fun h33 => ?_)
      · skip
        refine j_iconst C (nI 0) dX5_isOf_49 (by decide) ?_
        exact j_ireturn C E dX5_isOf_50 (by decide) (by decide) (by decide) (⟨by rw [rIsOf_no h8 hk (by simp_all [qSame])], rfl, rfl, rfl⟩)
      · skip
        refine j_aload_n C dX5_isOf_36 rfl ?_
        refine j_iload_n C dX5_isOf_37 rfl ?_
        refine j_cVi C (c_X5_operatorAt _ _ _ _ _ (by assumption) _) yc_X5_operatorAt mn_X5_45 im_X5_operatorAt se_X5_operatorAt rfl rfl dX5_isOf_38 rfl rfl (by assumption) (by decide) (Nat.le_of_ble_eq_true rfl) (by decide) ?_
        refine j_aload_n C dX5_isOf_41 rfl ?_
        refine j_iload_n C dX5_isOf_42 rfl ?_
        refine j_cVi C (c_X8_operatorOf _ ω γ M R g hT k) yc_X8_operatorOf mn_X5_48 im_X8_operatorOf se_X8_operatorOf rfl rfl dX5_isOf_43 rfl rfl (by assumption) (by decide) (Nat.le_of_ble_eq_true rfl) (by decide) ?_
        refine j_icmp_eq C 51 dX5_isOf_46 (by decide) (fun h46 => ?_) (fun h46 => ?_)
        · skip
          first | refine j_iinc1 C dX5_isOf_51 rfl (by rw [hxn]; decide) ?_ | refine j_iinc C _ dX5_isOf_51 rfl rfl (by rw [hxn]; decide) ?_
          refine j_goto C 15 dX5_isOf_54 (by decide) ?_
          exact ih (lt_s hI (by simp_all [qSame]))
        · skip
          refine j_iconst C (nI 0) dX5_isOf_49 (by decide) ?_
          exact j_ireturn C E dX5_isOf_50 (by decide) (by decide) (by decide) (⟨by rw [rIsOf_no h8 hk (by simp_all [qSame])], rfl, rfl, rfl⟩)
    · skip
      refine j_iload_n C dX5_isOf_15 rfl ?_
      refine j_aload_n C dX5_isOf_16 rfl ?_
      refine j_getI C fl_X5_18 (by assumption) dX5_isOf_17 (by decide) rfl ?_
      refine j_top (nI nc) (hc) ?_
      refine j_icmp_ge C 57 dX5_isOf_20 (by decide) (fun _ => ?_) (fun h => absurd (Int32.le_refl _) h)
      refine j_iconst C (nI 1) dX5_isOf_57 (by decide) ?_
      exact j_ireturn C E dX5_isOf_58 (by decide) (by decide) (by decide) (⟨by rw [rIsOf_yes h8 hI], rfl, rfl, rfl⟩)
  · skip
    refine j_iconst C (nI 0) dX5_isOf_11 (by decide) ?_
    exact j_ireturn C E dX5_isOf_12 (by decide) (by decide) (by decide) (⟨by rw [rIsOf, if_neg h8], rfl, rfl, rfl⟩)

set_option maxHeartbeats 4000000 in
set_option maxRecDepth 100000 in
theorem c_X5_readFrom (l : Launch) (ω : jW) (γ : jG) (M : jM) (R : jR) {t b n nc : Nat} (gt : gStm ω γ t) (g : gText ω γ b) (hT : TC M b) (hl : M b 1 = nI n) (hn : n ≤ 30) (hc : (n + 1) / 4 = nc) (hnc : nc ≤ 4) (hd : b + 2 ≤ t ∨ t + 3 ≤ b) : Ct l ω yX5_readFrom cX5_readFrom 3 none 6 0 0 [.ref t, .ref b] γ M R (jx γ none (rRead M t b nc) R) := by
  refine Ct_of (by decide) (Nat.le_of_ble_eq_true rfl) rfl (jcat_of rfl) ?_
  intro X C E hnm hxl hxn
  subst hxl
  obtain ⟨gt0, gt1, gt2, gt3, gt4⟩ := gt
  have g0 := g.1
  subst hc
  refine j_aload_n C dX5_readFrom_0 rfl ?_
  refine j_aload_n C dX5_readFrom_1 rfl ?_
  refine j_cVi C (c_X8_conditions _ ω γ M R g0 hl hn) yc_X8_conditions mn_X5_33 im_X8_conditions se_X8_conditions rfl rfl dX5_readFrom_2 rfl rfl (by assumption) (by decide) (Nat.le_of_ble_eq_true rfl) (by decide) ?_
  refine j_iconst C (nI 4) dX5_readFrom_5 (by decide) ?_
  refine j_min C ml_min5 (by decide) (Nat.le_of_ble_eq_true rfl) (by decide) dX5_readFrom_6 ?_
  refine j_top (nI ((n + 1) / 4)) (if_neg (nI_nlt hnc (by omega))) ?_
  refine j_putI C fl_X5_18 (by assumption) dX5_readFrom_9 (by decide) rfl (rfl) (rfl) ?_
  refine j_iconst C (nI 0) dX5_readFrom_12 (by decide) ?_
  refine j_istore_n C dX5_readFrom_13 (by rw [hxn]; decide) ?_
  refine j_loop ((n + 1) / 4) (fun k => [(0, .ref t), (1, .ref b), (2, .int (nI k))]) (fun k => rRdK M t b ((n + 1) / 4) k) (fun _ => R) (fun _ => True) trivial (fun k hk _ ih => ?_) (fun _ => ?_)
  · skip
    have eb : ∀ x, x ≠ t → x ≠ t + 1 → x ≠ t + 2 → rRdK M t b ((n + 1) / 4) k x = M x := fun x h0 h1 h2 => rRdK_o M h0 h1 h2 k
    have hTk : TC (rRdK M t b ((n + 1) / 4) k) b := TC_o hT (eb _ (by omega) (by omega) (by omega))
    refine j_iload_n C dX5_readFrom_14 rfl ?_
    refine j_aload_n C dX5_readFrom_15 rfl ?_
    refine j_getI C fl_X5_18 (by assumption) dX5_readFrom_16 (by decide) rfl ?_
    refine j_top (nI ((n + 1) / 4)) (rRdK_2 M k) ?_
    refine j_icmp_ge C 54 dX5_readFrom_19 (by decide) (fun h => absurd h (nI_ge hk (by omega))) (fun _ => ?_)
    refine j_aload_n C dX5_readFrom_22 rfl ?_
    refine j_getR C fl_X5_9 (by assumption) dX5_readFrom_23 (by decide) rfl (by assumption) ?_
    refine j_iload_n C dX5_readFrom_26 rfl ?_
    refine j_aload_n C dX5_readFrom_27 rfl ?_
    refine j_iload_n C dX5_readFrom_28 rfl ?_
    refine j_cVi C (c_X8_columnOf _ ω γ _ R g hTk k) yc_X8_columnOf mn_X5_42 im_X8_columnOf se_X8_columnOf rfl rfl dX5_readFrom_29 rfl rfl (by assumption) (by decide) (Nat.le_of_ble_eq_true rfl) (by decide) ?_
    refine j_cSv C (c_X9_putN _ ω γ _ R gt2 (by decide) (show k < 4 by omega) _) yc_X9_put mn_X5_57 st_X9_put dX5_readFrom_32 rfl rfl (Nat.le_of_ble_eq_true rfl) (by decide) ?_
    refine j_aload_n C dX5_readFrom_35 rfl ?_
    refine j_getR C fl_X5_15 (by assumption) dX5_readFrom_36 (by decide) rfl (by assumption) ?_
    refine j_iload_n C dX5_readFrom_39 rfl ?_
    refine j_aload_n C dX5_readFrom_40 rfl ?_
    refine j_iload_n C dX5_readFrom_41 rfl ?_
    refine j_cVi C (c_X8_operatorOf _ ω γ _ R g (TC_o hTk (jup_row _ _ (by omega))) k) yc_X8_operatorOf mn_X5_48 im_X8_operatorOf se_X8_operatorOf rfl rfl dX5_readFrom_42 rfl rfl (by assumption) (by decide) (Nat.le_of_ble_eq_true rfl) (by decide) ?_
    refine j_cSv C (c_X9_putN _ ω γ _ R gt4 (by decide) (show k < 4 by omega) _) yc_X9_put mn_X5_57 st_X9_put dX5_readFrom_45 rfl rfl (Nat.le_of_ble_eq_true rfl) (by decide) ?_
    first | refine j_iinc1 C dX5_readFrom_48 rfl (by rw [hxn]; decide) ?_ | refine j_iinc C _ dX5_readFrom_48 rfl rfl (by rw [hxn]; decide) ?_
    refine j_goto C 14 dX5_readFrom_51 (by decide) ?_
    exact ih trivial
  · skip
    refine j_iload_n C dX5_readFrom_14 rfl ?_
    refine j_aload_n C dX5_readFrom_15 rfl ?_
    refine j_getI C fl_X5_18 (by assumption) dX5_readFrom_16 (by decide) rfl ?_
    refine j_top (nI ((n + 1) / 4)) (rRdK_2 M _) ?_
    refine j_icmp_ge C 54 dX5_readFrom_19 (by decide) (fun _ => ?_) (fun h => absurd (Int32.le_refl _) h)
    refine j_aload_n C dX5_readFrom_54 rfl ?_
    refine j_iconst C (nI 0) dX5_readFrom_55 (by decide) ?_
    refine j_putI C fl_X5_61 (by assumption) dX5_readFrom_56 (by decide) rfl (rfl) (rfl) ?_
    exact j_return C E dX5_readFrom_59 (by decide) (by decide) (⟨rfl, rfl, rfl, rfl⟩)
