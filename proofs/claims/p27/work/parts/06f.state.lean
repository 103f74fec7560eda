set_option maxHeartbeats 4000000 in
set_option maxRecDepth 100000 in
theorem c_X4_statementWith (l : Launch) (ω : jW) (γ : jG) (M : jM) (R : jR) {a b n c : Nat} (g : gState ω γ a) (ss : SS R a) (gT : gText ω γ b) (hT : TC M b) (hl : M b 1 = nI n) (hn : n ≤ 30) (hc : M a 8 = nI c) (hc6 : c ≤ 6) (hcs : ∀ t, t < c → M (a + 25 + 3 * t) 2 = nI (rNC M (a + 25 + 3 * t)) ∧ rNC M (a + 25 + 3 * t) ≤ 4) : Ct l ω yX4_statementWith cX4_statementWith 3 (some .int) 7 0 0 [.ref a, .ref b] γ M R (jx γ (some (.int (rFirst (qStm M a b n) c))) M R) := by
  refine Ct_of (by decide) (Nat.le_of_ble_eq_true rfl) rfl (jcat_of rfl) ?_
  intro X C E hnm hxl hxn
  subst hxl
  have s0 := g.1
  have gm : ∀ t, t < 6 → gStm ω γ (a + 25 + 3 * t) := g.2.2.2.2.2.2.2.2.2.2.2.2.2.2.2
  refine j_iconst C (nI 0) dX4_statementWith_0 (by decide) ?_
  refine j_istore_n C dX4_statementWith_1 (by rw [hxn]; decide) ?_
  refine j_loop c (fun k => [(0, .ref a), (1, .ref b), (2, .int (nI k))]) (fun _ => M) (fun _ => R) (fun k => ∀ j, j < k → qStm M a b n j = false) (fun j hj => absurd hj (Nat.not_lt_zero j)) (fun k hk hI ih => ?_) (fun hI => ?_)
  · skip
    refine j_iload_n C dX4_statementWith_2 rfl ?_
    refine j_aload_n C dX4_statementWith_3 rfl ?_
    refine j_getI C fl_X4_93 (by assumption) dX4_statementWith_4 (by decide) rfl ?_
    refine j_top (nI c) (hc) ?_
    refine j_icmp_ge C 30 dX4_statementWith_7 (by decide) (fun h => absurd h (nI_ge hk (by omega))) (fun _ => ?_)
    refine j_aload_n C dX4_statementWith_10 rfl ?_
    refine j_iload_n C dX4_statementWith_11 rfl ?_
    refine j_cVr C (c_X4_statementAtN _ ω γ M R g ss (show k < 6 by omega)) yc_X4_statementAt mn_X4_73 im_X4_statementAt se_X4_statementAt rfl rfl dX4_statementWith_12 rfl rfl (by assumption) (by decide) (Nat.le_of_ble_eq_true rfl) (by decide) ?_
    refine j_aload_n C dX4_statementWith_15 rfl ?_
    refine j_cVi C (c_X5_isOf _ ω γ M R (gm k (by omega)) gT hT hl hn (hcs k hk).1 (hcs k hk).2) yc_X5_isOf mn_X4_96 im_X5_isOf se_X5_isOf rfl rfl dX4_statementWith_16 rfl rfl ((gm k (by omega)).1) (by decide) (Nat.le_of_ble_eq_true rfl) (by decide) ?_
    refine j_if_eq C 24 dX4_statementWith_19 (by decide) (fun h19 => ?_) (fun h19 => ?_)
    · skip
      first | refine j_iinc1 C dX4_statementWith_24 rfl (by rw [hxn]; decide) ?_ | refine j_iinc C _ dX4_statementWith_24 rfl rfl (by rw [hxn]; decide) ?_
      refine j_goto C 2 dX4_statementWith_27 (by decide) ?_
      exact ih (lt_s hI (by simpa [qStm] using h19))
    · skip
      refine j_iload_n C dX4_statementWith_22 rfl ?_
      exact j_ireturn C E dX4_statementWith_23 (rfl) (by decide) (by decide) (⟨by rw [rFirst_yes hk (by simp [qStm, h19]) hI], rfl, rfl, rfl⟩)
  · skip
    refine j_iload_n C dX4_statementWith_2 rfl ?_
    refine j_aload_n C dX4_statementWith_3 rfl ?_
    refine j_getI C fl_X4_93 (by assumption) dX4_statementWith_4 (by decide) rfl ?_
    refine j_top (nI c) (hc) ?_
    refine j_icmp_ge C 30 dX4_statementWith_7 (by decide) (fun _ => ?_) (fun h => absurd (Int32.le_refl _) h)
    refine j_iconst C (-1) dX4_statementWith_30 (by decide) ?_
    exact j_ireturn C E dX4_statementWith_31 (rfl) (by decide) (by decide) (⟨by rw [rFirst_no hI], rfl, rfl, rfl⟩)

set_option maxHeartbeats 4000000 in
set_option maxRecDepth 100000 in
theorem c_X4_addStatement (l : Launch) (ω : jW) (γ : jG) (M : jM) (R : jR) {a b n c : Nat} (g : gState ω γ a) (ss : SS R a) (gT : gText ω γ b) (hT : TC M b) (hl : M b 1 = nI n) (hn : n ≤ 30) (hc : M a 8 = nI c) (hc6 : c < 6) (hd : a + 43 ≤ b) (hn4 : (n + 1) / 4 ≤ 4) : Ct l ω yX4_addStatement cX4_addStatement 2 (some .int) 7 0 0 [.ref a, .ref b] γ M R (jx γ (some (.int (nI c))) (jup (rRead M (a + 25 + 3 * c) b ((n + 1) / 4)) a 8 (nI (c + 1))) R) := by
  refine Ct_of (by decide) (Nat.le_of_ble_eq_true rfl) rfl (jcat_of rfl) ?_
  intro X C E hnm hxl hxn
  subst hxl
  have s0 := g.1
  have gm : ∀ t, t < 6 → gStm ω γ (a + 25 + 3 * t) := g.2.2.2.2.2.2.2.2.2.2.2.2.2.2.2
  have er : rRead M (a + 25 + 3 * c) b ((n + 1) / 4) a = M a := by rw [rRead, jup_row _ _ (by omega), rRdK_o M (by omega) (by omega) (by omega)]
  refine j_aload_n C dX4_addStatement_0 rfl ?_
  refine j_aload_n C dX4_addStatement_1 rfl ?_
  refine j_getI C fl_X4_93 (by assumption) dX4_addStatement_2 (by decide) rfl ?_
  refine j_top (nI c) hc ?_
  refine j_cVr C (c_X4_statementAtN _ ω γ M R g ss hc6) yc_X4_statementAt mn_X4_73 im_X4_statementAt se_X4_statementAt rfl rfl dX4_addStatement_5 rfl rfl (by assumption) (by decide) (Nat.le_of_ble_eq_true rfl) (by decide) ?_
  refine j_aload_n C dX4_addStatement_8 rfl ?_
  refine j_cVv C (c_X5_readFrom _ ω γ M R (gm c hc6) gT hT hl hn rfl hn4 (by omega)) yc_X5_readFrom mn_X4_100 im_X5_readFrom se_X5_readFrom rfl rfl dX4_addStatement_9 rfl rfl ((gm c hc6).1) (by decide) (Nat.le_of_ble_eq_true rfl) (by decide) ?_
  refine j_aload_n C dX4_addStatement_12 rfl ?_
  refine j_dup C dX4_addStatement_13 rfl ?_
  refine j_getI C fl_X4_93 (by assumption) dX4_addStatement_14 (by decide) rfl ?_
  refine j_top (nI c) (by rw [er]; exact hc) ?_
  refine j_iconst C (nI 1) dX4_addStatement_17 (by decide) ?_
  first | with_reducible refine j_iaddN C dX4_addStatement_18 ?_ | refine j_iadd C dX4_addStatement_18 ?_
  refine j_putI C fl_X4_93 (by assumption) dX4_addStatement_19 (by decide) rfl (rfl) (rfl) ?_
  refine j_aload_n C dX4_addStatement_22 rfl ?_
  refine j_getI C fl_X4_93 (by assumption) dX4_addStatement_23 (by decide) rfl ?_
  refine j_top (nI (c + 1)) (jup_eq _ _ _ _) ?_
  refine j_iconst C (nI 1) dX4_addStatement_26 (by decide) ?_
  refine j_isubN C dX4_addStatement_27 (by omega) ?_
  exact j_ireturn C E dX4_addStatement_28 (rfl) (by decide) (by decide) (⟨rfl, rfl, rfl, rfl⟩)

set_option maxHeartbeats 4000000 in
set_option maxRecDepth 100000 in
theorem c_X4_execute (l : Launch) (ω : jW) (γ : jG) (M : jM) (R : jR) {a s v n nc r : Nat} (g : gState ω γ a) (ss : SS R a) (hs : SR R (a + 11)) (hkp : M (a + 11) 2 = nI n) (hn : n ≤ 8) (h6 : s < 6) (hv : jArr ω γ v 12 4) (hvr : a + 43 ≤ v) (hc : M (a + 25 + 3 * s) 2 = nI nc) (hnc : nc ≤ 4) (hr : M (a + 1) 2 = nI r) (hr30 : r ≤ 30) : Ct l ω yX4_execute cX4_execute 4 (some .int) 7 0 0 [.ref a, .int (nI s), .ref v] γ M R (jx γ (some (.int (sI (rTWF (rExM M R a (a + 25 + 3 * s) v s n nc) (a + 1) (a + 25 + 3 * s) v nc) r))) (rExM M R a (a + 25 + 3 * s) v s n nc) (rExR M R a (a + 25 + 3 * s) v s n nc)) := by
  refine Ct_of (by decide) (Nat.le_of_ble_eq_true rfl) rfl (jcat_of rfl) ?_
  intro X C E hnm hxl hxn
  subst hxl
  have s0 : jAt ω γ a 4 := g.1
  have p0 : jP γ a 0 = some (a + 1) := g.2.1
  have gt : gTable ω γ (a + 1) := g.2.2.1
  have p1 : jP γ a 1 = some (a + 5) := g.2.2.2.1
  have gs : gSums ω γ (a + 5) := g.2.2.2.2.1
  have p2 : jP γ a 2 = some (a + 7) := g.2.2.2.2.2.1
  have ga : jArr ω γ (a + 7) 15 6 := g.2.2.2.2.2.2.1
  have p4 : jP γ a 4 = some (a + 11) := g.2.2.2.2.2.2.2.2.2.1
  have gh : gShelf ω γ (a + 11) := g.2.2.2.2.2.2.2.2.2.2.1
  have p5 : jP γ a 5 = some (a + 22) := g.2.2.2.2.2.2.2.2.2.2.2.1
  have gl : gLast ω γ (a + 22) := g.2.2.2.2.2.2.2.2.2.2.2.2.1
  have p6 : jP γ a 6 = some (a + 24) := g.2.2.2.2.2.2.2.2.2.2.2.2.2.1
  have gc : jArr ω γ (a + 24) 12 5 := g.2.2.2.2.2.2.2.2.2.2.2.2.2.2.1
  have gm : ∀ t, t < 6 → gStm ω γ (a + 25 + 3 * t) := g.2.2.2.2.2.2.2.2.2.2.2.2.2.2.2
  have gh0 : jAt ω γ (a + 11) 3 := gh.1
  have gl0 : jAt ω γ (a + 22) 1 := gl.1
  have gt0 : jAt ω γ (a + 1) 7 := gt.1
  have gs0 : jAt ω γ (a + 5) 6 := gs.1
  have gtp : jP γ (a + 1) 1 = some (a + 3) := gt.2.2.2.1
  have gu : gSums ω γ (a + 3) := gt.2.2.2.2
  have gu0 : jAt ω γ (a + 3) 6 := gu.1
  have ht : gStm ω γ (a + 25 + 3 * s) := gm s h6
  have ht0 : jAt ω γ (a + 25 + 3 * s) 5 := ht.1
  have e2 : ∀ y, y ≠ a → y ≠ a + 25 + 3 * s → rE2 M a (a + 25 + 3 * s) y = M y := fun y h1 h2 => by rw [rE2, jup_row _ _ h2, jup_row _ _ h1]
  have e2t : rE2 M a (a + 25 + 3 * s) (a + 25 + 3 * s) 2 = nI nc := by rw [rE2, jup_nk _ _ (by decide), jup_row _ _ (by omega)]; exact hc
  have e3 : ∀ y, y ≠ a + 22 → y ≠ a + 23 → rE3 M a (a + 25 + 3 * s) v s nc y = rE2 M a (a + 25 + 3 * s) y := fun y h1 h2 => rLBegin_o _ h1 h2
  have e3k : rE3 M a (a + 25 + 3 * s) v s nc (a + 11) 2 = nI n := by rw [e3 _ (by omega) (by omega), e2 _ (by omega) (by omega)]; exact hkp
  have e3t : rE3 M a (a + 25 + 3 * s) v s nc (a + 25 + 3 * s) 2 = nI nc := by rw [e3 _ (by omega) (by omega)]; exact e2t
  obtain ⟨m4, hm4, e4k⟩ := rPFM_k (t := a + 25 + 3 * s) (v := v) (nc := nc) hs e3k hn
  have e4 : ∀ y, (y < a + 11 ∨ a + 22 < y) ∧ y ≠ a → rE4 M R a (a + 25 + 3 * s) v s n nc y = rE3 M a (a + 25 + 3 * s) v s nc y := fun y hy => rPFM_o hs e3k hn hy
  have hp := rPFP_rg hs e3k hn
  have hpa : jAt ω γ (rEP M R a (a + 25 + 3 * s) v s n nc) 2 := rPFP_at g hs e3k hn
  have hR4 := rPFR_SR hs e3k hn
  have hN4 : rN (rE4 M R a (a + 25 + 3 * s) v s n nc) (a + 11) = m4 := rN_eq e4k hm4
  have hpe : rEP M R a (a + 25 + 3 * s) v s n nc = rPFP (rE3 M a (a + 25 + 3 * s) v s nc) R a n := rfl
  have e5 : ∀ y, y ≠ a → (y < a + 11 ∨ a + 22 < y) → rExM M R a (a + 25 + 3 * s) v s n nc y = rE4 M R a (a + 25 + 3 * s) v s n nc y := fun y h1 h2 => rUseM_o _ h1 (by omega) (by omega) (by omega)
  refine j_aload_n C dX4_execute_0 rfl ?_
  refine j_iload_n C dX4_execute_1 rfl ?_
  refine j_cVr C (c_X4_statementAtN _ ω γ M R g ss h6) yc_X4_statementAt mn_X4_73 im_X4_statementAt se_X4_statementAt rfl rfl dX4_execute_2 rfl rfl (by assumption) (by decide) (Nat.le_of_ble_eq_true rfl) (by decide) ?_
  refine j_astore_n C dX4_execute_5 (by rw [hxn]; decide) ?_
  refine j_aload_n C dX4_execute_6 rfl ?_
  refine j_dup C dX4_execute_7 rfl ?_
  refine j_getI C fl_X4_128 (by assumption) dX4_execute_8 (by decide) rfl ?_
  refine j_iconst C (nI 1) dX4_execute_11 (by decide) ?_
  first | with_reducible refine j_iaddN C dX4_execute_12 ?_ | refine j_iadd C dX4_execute_12 ?_
  refine j_putI C fl_X4_128 (by assumption) dX4_execute_13 (by decide) rfl (rfl) (rfl) ?_
  refine j_aload_n C dX4_execute_16 rfl ?_
  refine j_dup C dX4_execute_17 rfl ?_
  refine j_getI C fl_X4_131 (by assumption) dX4_execute_18 (by decide) rfl ?_
  refine j_iconst C (nI 1) dX4_execute_21 (by decide) ?_
  first | with_reducible refine j_iaddN C dX4_execute_22 ?_ | refine j_iadd C dX4_execute_22 ?_
  refine j_putI C fl_X4_131 (by assumption) dX4_execute_23 (by decide) rfl (rfl) (rfl) ?_
  refine j_mem (rE2 M a (a + 25 + 3 * s)) rfl ?_
  refine j_aload_n C dX4_execute_26 rfl ?_
  refine j_getR C fl_X4_46 (by assumption) dX4_execute_27 (by decide) rfl (by assumption) ?_
  refine j_iload_n C dX4_execute_30 rfl ?_
  refine j_aload_n C dX4_execute_31 rfl ?_
  refine j_aload_n C dX4_execute_32 rfl ?_
  refine j_aload_n C dX4_execute_33 rfl ?_
  refine j_aload_n C dX4_execute_34 rfl ?_
  refine j_cVi C (c_X4_classWith _ ω γ _ R g ht hv e2t hnc) yc_X4_classWith mn_X4_132 im_X4_classWith se_X4_classWith rfl rfl dX4_execute_35 rfl rfl (by assumption) (by decide) (Nat.le_of_ble_eq_true rfl) (by decide) ?_
  refine j_cVv C (c_X1_begin _ ω γ _ R gl hv (by omega) _ _) yc_X1_begin mn_X4_136 im_X1_begin se_X1_begin rfl rfl dX4_execute_38 rfl rfl (by assumption) (by decide) (Nat.le_of_ble_eq_true rfl) (by decide) ?_
  refine j_mem (rE3 M a (a + 25 + 3 * s) v s nc) rfl ?_
  refine j_aload_n C dX4_execute_41 rfl ?_
  refine j_aload_n C dX4_execute_42 rfl ?_
  refine j_aload_n C dX4_execute_43 rfl ?_
  refine j_aload_n C dX4_execute_44 rfl ?_
  refine j_cVr C (c_X4_planForLastRun _ ω γ _ R g hs e3k hn ht (by omega) hv e3t hnc) yc_X4_planForLastRun mn_X4_140 im_X4_planForLastRun se_X4_planForLastRun rfl rfl dX4_execute_45 rfl rfl (by assumption) (by decide) (Nat.le_of_ble_eq_true rfl) (by decide) ?_
  change J _ ω γ (rE4 M R a (a + 25 + 3 * s) v s n nc) (rER M R a (a + 25 + 3 * s) v s n nc) _ _ _ _ (.ref (rEP M R a (a + 25 + 3 * s) v s n nc) :: _)
  refine j_aload_n C dX4_execute_48 rfl ?_
  refine j_aload_n C dX4_execute_49 rfl ?_
  refine j_cVv C (c_X4_use _ ω γ _ _ g hR4.1 (show rE4 M R a (a + 25 + 3 * s) v s n nc (a + 11) 2 = nI (rN (rE4 M R a (a + 25 + 3 * s) v s n nc) (a + 11)) by rw [hN4]; exact e4k) (by rw [hN4]; exact hm4) hpa (by omega) ht hv) yc_X4_use mn_X4_144 im_X4_use se_X4_use rfl rfl dX4_execute_50 rfl rfl (by assumption) (by decide) (Nat.le_of_ble_eq_true rfl) (by decide) ?_
  change J _ ω γ (rExM M R a (a + 25 + 3 * s) v s n nc) (rExR M R a (a + 25 + 3 * s) v s n nc) _ _ _ _ _
  refine j_aload_n C dX4_execute_53 rfl ?_
  refine j_getR C fl_X4_12 (by assumption) dX4_execute_54 (by decide) rfl (by assumption) ?_
  refine j_aload_n C dX4_execute_57 rfl ?_
  refine j_aload_n C dX4_execute_58 rfl ?_
  refine j_cVi C (c_X7_weightWhere _ ω γ _ _ gt ht hv (by rw [e5 _ (by omega) (by omega), e4 _ (by omega)]; exact e3t) hnc (by rw [e5 _ (by omega) (by omega), e4 _ (by omega), e3 _ (by omega) (by omega), e2 _ (by omega) (by omega)]; exact hr) hr30) yc_X7_weightWhere mn_X4_148 im_X7_weightWhere se_X7_weightWhere rfl rfl dX4_execute_59 rfl rfl (by assumption) (by decide) (Nat.le_of_ble_eq_true rfl) (by decide) ?_
  exact j_ireturn C E dX4_execute_62 (rfl) (by decide) (by decide) (⟨rfl, rfl, rfl, rfl⟩)

set_option maxHeartbeats 4000000 in
set_option maxRecDepth 100000 in
theorem c_X9_record (l : Launch) (ω : jW) (γ : jG) (M : jM) (R : jR) {x a h T v : Nat} (g : gX ω γ x a h T v) {nh : Nat} (H : CI M R a h nh) : Ct l ω yX9_record cX9_record 1 none 6 0 0 [.ref x] γ M R (jx γ none (rPuM M R h a nh) (rPuR R h nh)) := by
  refine Ct_of (by decide) (Nat.le_of_ble_eq_true rfl) rfl (jcat_of rfl) ?_
  intro X C E hnm hxl hxn
  subst hxl
  obtain ⟨x0, xa, ga, xh, gh, xT, gT, xv, gv, d1, d2, d3, d4⟩ := g
  have ga0 := ga.1
  have gh0 := gh.1
  have gT0 := gT.1
  obtain ⟨i1, i2, i3, i4, i5⟩ := H
  refine j_aload_n C dX9_record_0 rfl ?_
  refine j_getR C fl_X9_19 (by assumption) dX9_record_1 (by decide) rfl (by assumption) ?_
  refine j_aload_n C dX9_record_4 rfl ?_
  refine j_getR C fl_X9_10 (by assumption) dX9_record_5 (by decide) rfl (by assumption) ?_
  refine j_cVv C (c_X0_push _ ω γ M R gh i1 i2 i3 ga i4 i5 d2) yc_X0_push mn_X9_271 im_X0_push se_X0_push rfl rfl dX9_record_8 rfl rfl (by assumption) (by decide) (Nat.le_of_ble_eq_true rfl) (by decide) ?_
  exact j_return C E dX9_record_11 (by decide) (by decide) (⟨rfl, rfl, rfl, rfl⟩)

set_option maxHeartbeats 4000000 in
set_option maxRecDepth 100000 in
theorem c_X9_gathered (l : Launch) (ω : jW) (γ : jG) (M : jM) (R : jR) {x a h T v : Nat} (g : gX ω γ x a h T v) (v0 v1 v2 v3 : Int32) : Ct l ω yX9_gathered cX9_gathered 5 (some (.array .int)) 2 0 0 [.ref x, .int v0, .int v1, .int v2, .int v3] γ M R (jx γ (some (.ref v)) (rGiv M v v0 v1 v2 v3) R) := by
  refine Ct_of (by decide) (Nat.le_of_ble_eq_true rfl) rfl (jcat_of rfl) ?_
  intro X C E hnm hxl hxn
  subst hxl
  obtain ⟨x0, xa, ga, xh, gh, xT, gT, xv, gv, d1, d2, d3, d4⟩ := g
  have ga0 := ga.1
  have gh0 := gh.1
  have gT0 := gT.1
  refine j_aload_n C dX9_gathered_0 rfl ?_
  refine j_getR C fl_X9_30 (by assumption) dX9_gathered_1 (by decide) rfl (by assumption) ?_
  refine j_iconst C (nI 0) dX9_gathered_4 (by decide) ?_
  refine j_iload_n C dX9_gathered_5 rfl ?_
  refine j_cSv C (c_X9_putN _ ω γ _ R gv (by decide) (show 0 < 4 by decide) _) yc_X9_put mn_X9_278 st_X9_put dX9_gathered_6 rfl rfl (Nat.le_of_ble_eq_true rfl) (by decide) ?_
  refine j_aload_n C dX9_gathered_9 rfl ?_
  refine j_getR C fl_X9_30 (by assumption) dX9_gathered_10 (by decide) rfl (by assumption) ?_
  refine j_iconst C (nI 1) dX9_gathered_13 (by decide) ?_
  refine j_iload_n C dX9_gathered_14 rfl ?_
  refine j_cSv C (c_X9_putN _ ω γ _ R gv (by decide) (show 1 < 4 by decide) _) yc_X9_put mn_X9_278 st_X9_put dX9_gathered_15 rfl rfl (Nat.le_of_ble_eq_true rfl) (by decide) ?_
  refine j_aload_n C dX9_gathered_18 rfl ?_
  refine j_getR C fl_X9_30 (by assumption) dX9_gathered_19 (by decide) rfl (by assumption) ?_
  refine j_iconst C (nI 2) dX9_gathered_22 (by decide) ?_
  refine j_iload_n C dX9_gathered_23 rfl ?_
  refine j_cSv C (c_X9_putN _ ω γ _ R gv (by decide) (show 2 < 4 by decide) _) yc_X9_put mn_X9_278 st_X9_put dX9_gathered_24 rfl rfl (Nat.le_of_ble_eq_true rfl) (by decide) ?_
  refine j_aload_n C dX9_gathered_27 rfl ?_
  refine j_getR C fl_X9_30 (by assumption) dX9_gathered_28 (by decide) rfl (by assumption) ?_
  refine j_iconst C (nI 3) dX9_gathered_31 (by decide) ?_
  refine j_iload C dX9_gathered_32 rfl ?_
  refine j_cSv C (c_X9_putN _ ω γ _ R gv (by decide) (show 3 < 4 by decide) _) yc_X9_put mn_X9_278 st_X9_put dX9_gathered_34 rfl rfl (Nat.le_of_ble_eq_true rfl) (by decide) ?_
  refine j_aload_n C dX9_gathered_37 rfl ?_
  refine j_getR C fl_X9_30 (by assumption) dX9_gathered_38 (by decide) rfl (by assumption) ?_
  exact j_areturn C E dX9_gathered_41 (by first | exact Or.inl ⟨_, rfl⟩ | exact Or.inr ⟨_, rfl⟩) (by decide) (by decide) (⟨rfl, rfl, rfl, rfl⟩)

set_option maxHeartbeats 4000000 in
set_option maxRecDepth 100000 in
theorem c_X9_accepts (l : Launch) (ω : jW) (γ : jG) (M : jM) (R : jR) {x a h T v : Nat} (g : gX ω γ x a h T v) (ss : SS R a) (s v0 v1 v2 v3 : Int32) : Ct l ω yX9_accepts cX9_accepts 7 (some .boolean) 4 0 0 [.ref x, .int s, .int v0, .int v1, .int v2, .int v3] γ M R (jx γ (some (.int (rAcc M a s v0 v1 v2 v3))) M R) := by
  refine Ct_of (by decide) (Nat.le_of_ble_eq_true rfl) rfl (jcat_of rfl) ?_
  intro X C E hnm hxl hxn
  subst hxl
  obtain ⟨x0, xa, ga, xh, gh, xT, gT, xv, gv, d1, d2, d3, d4⟩ := g
  have ga0 := ga.1
  have gh0 := gh.1
  have gT0 := gT.1
  have gk := rSA_g ga s
  have gk0 := gk.1
  refine j_aload_n C dX9_accepts_0 rfl ?_
  refine j_getR C fl_X9_10 (by assumption) dX9_accepts_1 (by decide) rfl (by assumption) ?_
  refine j_iload_n C dX9_accepts_4 rfl ?_
  refine j_cVi C (c_X4_hasStatement _ _ _ _ _ (by assumption) _) yc_X4_hasStatement mn_X9_120 im_X4_hasStatement se_X4_hasStatement rfl rfl dX9_accepts_5 rfl rfl (by assumption) (by decide) (Nat.le_of_ble_eq_true rfl) (by decide) ?_
  refine j_if_ne C 13 dX9_accepts_8 (by decide) (fun h8 => ?_) (fun h8 => ?_)
  · skip
    refine j_aload_n C dX9_accepts_13 rfl ?_
    refine j_getR C fl_X9_10 (by assumption) dX9_accepts_14 (by decide) rfl (by assumption) ?_
    refine j_iload_n C dX9_accepts_17 rfl ?_
    refine j_cVr C (c_X4_statementAt _ ω γ M R ga ss _) yc_X4_statementAt mn_X9_123 im_X4_statementAt se_X4_statementAt rfl rfl dX9_accepts_18 rfl rfl (by assumption) (by decide) (Nat.le_of_ble_eq_true rfl) (by decide) ?_
    refine j_astore C dX9_accepts_21 (by rw [hxn]; decide) ?_
    refine j_aload C dX9_accepts_23 rfl ?_
    refine j_iconst C (nI 0) dX9_accepts_25 (by decide) ?_
    refine j_iload_n C dX9_accepts_26 rfl ?_
    refine j_cVi C (c_X5_takes _ ω γ M R gk _ _) yc_X5_takes mn_X9_274 im_X5_takes se_X5_takes rfl rfl dX9_accepts_27 rfl rfl (by assumption) (by decide) (Nat.le_of_ble_eq_true rfl) (by decide) ?_
    refine j_if_eq C 69 dX9_accepts_30 (by decide) (fun h30 => ?_) (fun h30 => ?_)
    · skip
      refine j_iconst C (nI 0) dX9_accepts_69 (by decide) ?_
      exact j_ireturn C E dX9_accepts_70 (by decide) (by decide) (by decide) (⟨by simp only [rAcc, if_neg h8, if_pos h30], rfl, rfl, rfl⟩)
    · skip
      refine j_aload C dX9_accepts_33 rfl ?_
      refine j_iconst C (nI 1) dX9_accepts_35 (by decide) ?_
      refine j_iload_n C dX9_accepts_36 rfl ?_
      refine j_cVi C (c_X5_takes _ ω γ M R gk _ _) yc_X5_takes mn_X9_274 im_X5_takes se_X5_takes rfl rfl dX9_accepts_37 rfl rfl (by assumption) (by decide) (Nat.le_of_ble_eq_true rfl) (by decide) ?_
      refine j_if_eq C 69 dX9_accepts_40 (by decide) (fun h40 => ?_) (fun h40 => ?_)
      · skip
        refine j_iconst C (nI 0) dX9_accepts_69 (by decide) ?_
        exact j_ireturn C E dX9_accepts_70 (by decide) (by decide) (by decide) (⟨by simp only [rAcc, if_neg h8, if_neg h30, if_pos h40], rfl, rfl, rfl⟩)
      · skip
        refine j_aload C dX9_accepts_43 rfl ?_
        refine j_iconst C (nI 2) dX9_accepts_45 (by decide) ?_
        refine j_iload C dX9_accepts_46 rfl ?_
        refine j_cVi C (c_X5_takes _ ω γ M R gk _ _) yc_X5_takes mn_X9_274 im_X5_takes se_X5_takes rfl rfl dX9_accepts_48 rfl rfl (by assumption) (by decide) (Nat.le_of_ble_eq_true rfl) (by decide) ?_
        refine j_if_eq C 69 dX9_accepts_51 (by decide) (fun h51 => ?_) (fun h51 => ?_)
        · skip
          refine j_iconst C (nI 0) dX9_accepts_69 (by decide) ?_
          exact j_ireturn C E dX9_accepts_70 (by decide) (by decide) (by decide) (⟨by simp only [rAcc, if_neg h8, if_neg h30, if_neg h40, if_pos h51], rfl, rfl, rfl⟩)
        · skip
          refine j_aload C dX9_accepts_54 rfl ?_
          refine j_iconst C (nI 3) dX9_accepts_56 (by decide) ?_
          refine j_iload C dX9_accepts_57 rfl ?_
          refine j_cVi C (c_X5_takes _ ω γ M R gk _ _) yc_X5_takes mn_X9_274 im_X5_takes se_X5_takes rfl rfl dX9_accepts_59 rfl rfl (by assumption) (by decide) (Nat.le_of_ble_eq_true rfl) (by decide) ?_
          refine j_if_eq C 69 dX9_accepts_62 (by decide) (fun h62 => ?_) (fun h62 => ?_)
          · skip
            refine j_iconst C (nI 0) dX9_accepts_69 (by decide) ?_
            exact j_ireturn C E dX9_accepts_70 (by decide) (by decide) (by decide) (⟨by simp only [rAcc, if_neg h8, if_neg h30, if_neg h40, if_neg h51, if_pos h62], rfl, rfl, rfl⟩)
          · skip
            refine j_iconst C (nI 1) dX9_accepts_65 (by decide) ?_
            refine j_goto C 70 dX9_accepts_66 (by decide) ?_
            exact j_ireturn C E dX9_accepts_70 (by decide) (by decide) (by decide) (⟨by simp only [rAcc, if_neg h8, if_neg h30, if_neg h40, if_neg h51, if_neg h62], rfl, rfl, rfl⟩)
  · skip
    refine j_iconst C (nI 0) dX9_accepts_11 (by decide) ?_
    exact j_ireturn C E dX9_accepts_12 (by decide) (by decide) (by decide) (⟨by simp only [rAcc, if_pos h8], rfl, rfl, rfl⟩)
