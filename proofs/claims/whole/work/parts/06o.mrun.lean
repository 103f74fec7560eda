set_option maxHeartbeats 4000000 in
set_option maxRecDepth 100000 in
theorem c_X10_bestCost (l : Launch) (ω : jW) (γ : jG) (M : jM) (R : jR) {m : Nat} (g : gM ω γ m) {r : Nat} (hr : M (m + 1) 0 = nI r) (hr30 : r ≤ 30) {c : Nat} (hc : M (m + 1) 3 = nI c) (hc6 : c ≤ 6) (hst : ∀ t, t < c → zSt (M (m + 1)) t (zN (M (m + 1)) t))  : Ct l ω yX10_bestCost cX10_bestCost 3 (some .int) 6 0 0 [.ref m] γ M R (jx γ (some (.int (zfBestC (M (m + 1)) (mTk M m (M (m + 1) 17) (M (m + 1) 18) (M (m + 1) 19) (M (m + 1) 20) (m + 4)) r))) (zmBestC M m) R) := by
  refine Ct_of (by decide) (Nat.le_of_ble_eq_true rfl) rfl (jcat_of rfl) ?_
  intro X C E hnm hxl hxn
  subst hxl
  have g9 := g
  obtain ⟨g0, g1, g2, g3, g4, g5, g6, g7, g8⟩ := g
  have eS : ∀ b, b ≠ m + 4 → (mTk M m (M (m + 1) 17) (M (m + 1) 18) (M (m + 1) 19) (M (m + 1) 20)) b = M b := fun b hb => mTk_o M _ _ _ _ hb
  refine j_aload_n C dX10_bestCost_0 rfl ?_
  refine j_getR C fl_X10_7 (by assumption) dX10_bestCost_1 (by decide) rfl (by assumption) ?_
  refine j_bipush C (nI 16) dX10_bestCost_4 (by decide) ?_
  refine j_ialdN C (by assumption) dX10_bestCost_6 (by omega) (by decide) ?_
  refine j_istore_n C dX10_bestCost_7 (by rw [hxn]; decide) ?_
  refine j_iload_n C dX10_bestCost_8 rfl ?_
  refine j_if_ge C 15 dX10_bestCost_9 (by decide) (fun h9 => ?_) (fun h9 => ?_)
  · skip
    refine j_aload_n C dX10_bestCost_15 rfl ?_
    refine j_iload_n C dX10_bestCost_16 rfl ?_
    refine j_aload_n C dX10_bestCost_17 rfl ?_
    refine j_getR C fl_X10_7 (by assumption) dX10_bestCost_18 (by decide) rfl (by assumption) ?_
    refine j_bipush C (nI 17) dX10_bestCost_21 (by decide) ?_
    refine j_ialdN C (by assumption) dX10_bestCost_23 (by omega) (by decide) ?_
    refine j_aload_n C dX10_bestCost_24 rfl ?_
    refine j_getR C fl_X10_7 (by assumption) dX10_bestCost_25 (by decide) rfl (by assumption) ?_
    refine j_bipush C (nI 18) dX10_bestCost_28 (by decide) ?_
    refine j_ialdN C (by assumption) dX10_bestCost_30 (by omega) (by decide) ?_
    refine j_aload_n C dX10_bestCost_31 rfl ?_
    refine j_getR C fl_X10_7 (by assumption) dX10_bestCost_32 (by decide) rfl (by assumption) ?_
    refine j_bipush C (nI 19) dX10_bestCost_35 (by decide) ?_
    refine j_ialdN C (by assumption) dX10_bestCost_37 (by omega) (by decide) ?_
    refine j_aload_n C dX10_bestCost_38 rfl ?_
    refine j_getR C fl_X10_7 (by assumption) dX10_bestCost_39 (by decide) rfl (by assumption) ?_
    refine j_bipush C (nI 20) dX10_bestCost_42 (by decide) ?_
    refine j_ialdN C (by assumption) dX10_bestCost_44 (by omega) (by decide) ?_
    refine j_cVi C (c_X10_takes _ ω γ M R g9 hc hc6 hst _ _ _ _ _) yc_X10_takes mn_X10_131 im_X10_takes se_X10_takes rfl rfl dX10_bestCost_45 rfl rfl (by assumption) (by decide) (Nat.le_of_ble_eq_true rfl) (by decide) ?_
    refine j_istore_n C dX10_bestCost_48 (by rw [hxn]; decide) ?_
    refine j_iload_n C dX10_bestCost_49 rfl ?_
    refine j_if_eq C 68 dX10_bestCost_50 (by decide) (fun h50 => ?_) (fun h50 => ?_)
    · skip
      refine j_bipush C (-4) dX10_bestCost_68 (by decide) ?_
      exact j_ireturn C E dX10_bestCost_70 (rfl) (by decide) (by decide) (⟨by first | (simp only [zfBestC, if_pos h9, if_pos h50, eck]; done) | (simp only [zfBestC, if_pos h9, if_pos h50]; done), rfl, by simp only [zmBestC, if_pos h9, if_pos h50], rfl⟩)
    · skip
      obtain ⟨t, htc, et⟩ := zIs_N hc (by omega) (zTk_nz h50)
      have ht := hst t htc
      have eck : (M (m + 1) 16).toNatClampNeg = t := by rw [et]; exact nI_clamp (by have := ht.1; omega)
      have ht9 : zSt ((mTk M m (M (m + 1) 17) (M (m + 1) 18) (M (m + 1) 19) (M (m + 1) 20)) (m + 1)) t (zN (M (m + 1)) t) := by rw [eS _ (by omega)]; exact ht
      have hr9 : (mTk M m (M (m + 1) 17) (M (m + 1) 18) (M (m + 1) 19) (M (m + 1) 20)) (m + 1) 0 = nI r := by rw [eS _ (by omega)]; exact hr
      refine j_aload_n C dX10_bestCost_53 rfl ?_
      refine j_iload_n C dX10_bestCost_54 rfl ?_
      refine j_top (nI t) et ?_
      refine j_aload_n C dX10_bestCost_55 rfl ?_
      refine j_iload_n C dX10_bestCost_56 rfl ?_
      refine j_top (nI t) et ?_
      refine j_iconst C (nI 1) dX10_bestCost_57 (by decide) ?_
      refine j_cVi C (c_X10_bestWay1 _ ω γ (mTk M m (M (m + 1) 17) (M (m + 1) 18) (M (m + 1) 19) (M (m + 1) 20)) R g9 ht9 hr9 hr30) yc_X10_bestWay mn_X10_117 im_X10_bestWay se_X10_bestWay rfl rfl dX10_bestCost_58 rfl rfl (by assumption) (by decide) (Nat.le_of_ble_eq_true rfl) (by decide) ?_
      rw [eS (m + 1) (by omega)]
      refine j_iconst C (nI 1) dX10_bestCost_61 (by decide) ?_
      refine j_cVi C (c_X10_cost1 _ ω γ (mTk M m (M (m + 1) 17) (M (m + 1) 18) (M (m + 1) 19) (M (m + 1) 20)) R g9 ht9 hr9 hr30 (w := zBest (M (m + 1)) (zC1 (M (m + 1)) (mTk M m (M (m + 1) 17) (M (m + 1) 18) (M (m + 1) 19) (M (m + 1) 20) (m + 4)) t r) t (zN (M (m + 1)) t) (zN (M (m + 1)) t)) (zBest_rg _ _ _ _ _ (Nat.le_refl _))) yc_X10_cost mn_X10_101 im_X10_cost se_X10_cost rfl rfl dX10_bestCost_62 rfl rfl (by assumption) (by decide) (Nat.le_of_ble_eq_true rfl) (by decide) ?_
      rw [eS (m + 1) (by omega)]
      refine j_goto C 70 dX10_bestCost_65 (by decide) ?_
      exact j_ireturn C E dX10_bestCost_70 (rfl) (by decide) (by decide) (⟨by first | (simp only [zfBestC, if_pos h9, if_neg h50, eck]; done) | (simp only [zfBestC, if_pos h9, if_neg h50]; done), rfl, by simp only [zmBestC, if_pos h9, if_neg h50], rfl⟩)
  · skip
    refine j_bipush C (-4) dX10_bestCost_12 (by decide) ?_
    exact j_ireturn C E dX10_bestCost_14 (rfl) (by decide) (by decide) (⟨by first | (simp only [zfBestC, if_neg h9, eck]; done) | (simp only [zfBestC, if_neg h9]; done), rfl, by simp only [zmBestC, if_neg h9], rfl⟩)

set_option maxHeartbeats 4000000 in
set_option maxRecDepth 100000 in
theorem c_X10_analyse (l : Launch) (ω : jW) (γ : jG) (M : jM) (R : jR) {m : Nat} (g : gM ω γ m) {r : Nat} (hr : M (m + 1) 0 = nI r) (hr30 : r ≤ 30) {np : Nat} (hp : M m 2 = nI np) (hp4 : np ≤ 4) (hv : zRows (M (m + 1)) r) : Ct l ω yX10_analyse cX10_analyse 3 (some .int) 3 0 0 [.ref m] γ M R (jx γ (some (.int (sI (zRowW (M (m + 1))) r))) (zmAna M m np r) R) := by
  refine Ct_of (by decide) (Nat.le_of_ble_eq_true rfl) rfl (jcat_of rfl) ?_
  intro X C E hnm hxl hxn
  subst hxl
  have g9 := g
  obtain ⟨g0, g1, g2, g3, g4, g5, g6, g7, g8⟩ := g
  have eS : mChg M m np (m + 1) = M (m + 1) := mChg_o M (by omega) (by omega)
  have eA : ∀ r9 c9 j, j < 179 → (zAi (M (m + 1)) (zAo (M (m + 1)) (zZr (mChg M m np) m 128) m r9) m r9 c9) (m + 1) j = M (m + 1) j := fun r9 c9 j hj => by rw [zAi_a _ _ _ hj, zAo_a _ _ _ hj, zZr_a _ hj, eS]
  have eO : ∀ r9 j, j < 179 → zAo (M (m + 1)) (zZr (mChg M m np) m 128) m r9 (m + 1) j = M (m + 1) j := fun r9 j hj => by rw [zAo_a _ _ _ hj, zZr_a _ hj, eS]
  refine j_aload_n C dX10_analyse_0 rfl ?_
  refine j_cVv C (c_X10_changes _ ω γ M R g9 hp hp4) yc_X10_changes mn_X10_34 im_X10_changes se_X10_changes rfl rfl dX10_analyse_1 rfl rfl (by assumption) (by decide) (Nat.le_of_ble_eq_true rfl) (by decide) ?_
  refine j_iconst C (nI 0) dX10_analyse_4 (by decide) ?_
  refine j_istore_n C dX10_analyse_5 (by rw [hxn]; decide) ?_
  refine j_mem _ (zZr_0 (mChg M m np) m).symm ?_
  refine j_loop 128 (fun k => [(0, .ref m), (1, .int (nI k))]) (fun k => zZr (mChg M m np) m k) (fun _ => R) (fun _ => True) trivial (fun k hk _ ih => ?_) (fun _ => ?_)
  · skip
    refine j_iload_n C dX10_analyse_6 rfl ?_
    refine j_sipush C (nI 128) dX10_analyse_7 (by decide) ?_
    refine j_icmp_ge C 30 dX10_analyse_10 (by decide) (fun h => absurd h (nI_ge hk (by decide))) (fun _ => ?_)
    refine j_aload_n C dX10_analyse_13 rfl ?_
    refine j_getR C fl_X10_7 (by assumption) dX10_analyse_14 (by decide) rfl (by assumption) ?_
    refine j_sipush C (nI 179) dX10_analyse_17 (by decide) ?_
    refine j_iload_n C dX10_analyse_20 rfl ?_
    first | with_reducible refine j_iaddN C dX10_analyse_21 ?_ | refine j_iadd C dX10_analyse_21 ?_
    refine j_iconst C (nI 0) dX10_analyse_22 (by decide) ?_
    refine j_iastN C (by assumption) dX10_analyse_23 (by omega) (by decide) ?_
    rw [zZr_s]
    first | refine j_iinc1 C dX10_analyse_24 rfl (by rw [hxn]; decide) ?_ | refine j_iinc C _ dX10_analyse_24 rfl rfl (by rw [hxn]; decide) ?_
    refine j_goto C 6 dX10_analyse_27 (by decide) ?_
    exact ih trivial
  · skip
    refine j_iload_n C dX10_analyse_6 rfl ?_
    refine j_sipush C (nI 128) dX10_analyse_7 (by decide) ?_
    refine j_icmp_ge C 30 dX10_analyse_10 (by decide) (fun _ => ?_) (fun h => absurd (Int32.le_refl _) h)
    refine j_iconst C (nI 0) dX10_analyse_30 (by decide) ?_
    refine j_istore_n C dX10_analyse_31 (by rw [hxn]; decide) ?_
    refine j_loop r (fun k => [(0, .ref m), (1, .int (nI k))]) (fun k => zAo (M (m + 1)) (zZr (mChg M m np) m 128) m k) (fun _ => R) (fun _ => True) trivial (fun k hk _ ih => ?_) (fun _ => ?_)
    · skip
      refine j_iload_n C dX10_analyse_32 rfl ?_
      refine j_aload_n C dX10_analyse_33 rfl ?_
      refine j_getR C fl_X10_7 (by assumption) dX10_analyse_34 (by decide) rfl (by assumption) ?_
      refine j_iconst C (nI 0) dX10_analyse_37 (by decide) ?_
      refine j_ialdN C (by assumption) dX10_analyse_38 (by omega) (by decide) ?_
      refine j_top (nI r) (by rw [eO _ _ (by decide)]; exact hr) ?_
      refine j_icmp_ge C 90 dX10_analyse_39 (by decide) (fun h => absurd h (nI_ge hk (by omega))) (fun _ => ?_)
      refine j_iconst C (nI 0) dX10_analyse_42 (by decide) ?_
      refine j_istore_n C dX10_analyse_43 (by rw [hxn]; decide) ?_
      refine j_loop 4 (fun c => [(0, .ref m), (1, .int (nI k)), (2, .int (nI c))]) (fun c => (zAi (M (m + 1)) (zAo (M (m + 1)) (zZr (mChg M m np) m 128) m k) m k c)) (fun _ => R) (fun _ => True) trivial (fun c hc _ ih => ?_) (fun _ => ?_)
      · skip
        obtain ⟨hv1, hv2⟩ := hv k hk c hc
        refine j_iload_n C dX10_analyse_44 rfl ?_
        refine j_iconst C (nI 4) dX10_analyse_45 (by decide) ?_
        refine j_icmp_ge C 84 dX10_analyse_46 (by decide) (fun h => absurd h (nI_ge hc (by decide))) (fun _ => ?_)
        refine j_aload_n C dX10_analyse_49 rfl ?_
        refine j_getR C fl_X10_7 (by assumption) dX10_analyse_50 (by decide) rfl (by assumption) ?_
        refine j_sipush C (nI 179) dX10_analyse_53 (by decide) ?_
        refine j_bipush C (nI 32) dX10_analyse_56 (by decide) ?_
        refine j_iload_n C dX10_analyse_58 rfl ?_
        first | with_reducible refine j_imulN C dX10_analyse_59 ?_ | refine j_imul C dX10_analyse_59 ?_
        first | with_reducible refine j_iaddN C dX10_analyse_60 ?_ | refine j_iadd C dX10_analyse_60 ?_
        refine j_aload_n C dX10_analyse_61 rfl ?_
        refine j_iload_n C dX10_analyse_62 rfl ?_
        refine j_iload_n C dX10_analyse_63 rfl ?_
        refine j_cVi C (c_X10_ofRow _ _ _ _ _ (by assumption) (by omega)) yc_X10_ofRow mn_X10_40 im_X10_ofRow se_X10_ofRow rfl rfl dX10_analyse_64 rfl rfl (by assumption) (by decide) (Nat.le_of_ble_eq_true rfl) (by decide) ?_
        refine j_top (nI (zV (M (m + 1)) k c)) (by rw [eA _ _ _ (by omega)]; exact hv1) ?_
        first | with_reducible refine j_iaddN C dX10_analyse_67 ?_ | refine j_iadd C dX10_analyse_67 ?_
        refine j_dup2 C dX10_analyse_68 rfl rfl ?_
        refine j_ialdN C (by assumption) dX10_analyse_69 (by omega) (by decide) ?_
        refine j_aload_n C dX10_analyse_70 rfl ?_
        refine j_iload_n C dX10_analyse_71 rfl ?_
        refine j_iconst C (nI 4) dX10_analyse_72 (by decide) ?_
        refine j_cVi C (c_X10_ofRow _ _ _ _ _ (by assumption) (by omega)) yc_X10_ofRow mn_X10_40 im_X10_ofRow se_X10_ofRow rfl rfl dX10_analyse_73 rfl rfl (by assumption) (by decide) (Nat.le_of_ble_eq_true rfl) (by decide) ?_
        rw [eA k c _ (show 29 + 5 * k + 4 < 179 by omega)]
        first | with_reducible refine j_iaddN C dX10_analyse_76 ?_ | refine j_iadd C dX10_analyse_76 ?_
        refine j_iastN C (by assumption) dX10_analyse_77 (by omega) (by decide) ?_
        first | refine j_iinc1 C dX10_analyse_78 rfl (by rw [hxn]; decide) ?_ | refine j_iinc C _ dX10_analyse_78 rfl rfl (by rw [hxn]; decide) ?_
        refine j_goto C 44 dX10_analyse_81 (by decide) ?_
        exact ih trivial
      · skip
        refine j_iload_n C dX10_analyse_44 rfl ?_
        refine j_iconst C (nI 4) dX10_analyse_45 (by decide) ?_
        refine j_icmp_ge C 84 dX10_analyse_46 (by decide) (fun _ => ?_) (fun h => absurd (Int32.le_refl _) h)
        first | refine j_iinc1 C dX10_analyse_84 rfl (by rw [hxn]; decide) ?_ | refine j_iinc C _ dX10_analyse_84 rfl rfl (by rw [hxn]; decide) ?_
        refine j_goto C 32 dX10_analyse_87 (by decide) ?_
        refine j_locs [0, 1] rfl ?_
        exact ih trivial
    · skip
      refine j_iload_n C dX10_analyse_32 rfl ?_
      refine j_aload_n C dX10_analyse_33 rfl ?_
      refine j_getR C fl_X10_7 (by assumption) dX10_analyse_34 (by decide) rfl (by assumption) ?_
      refine j_iconst C (nI 0) dX10_analyse_37 (by decide) ?_
      refine j_ialdN C (by assumption) dX10_analyse_38 (by omega) (by decide) ?_
      refine j_top (nI r) (by rw [eO _ _ (by decide)]; exact hr) ?_
      refine j_icmp_ge C 90 dX10_analyse_39 (by decide) (fun _ => ?_) (fun h => absurd (Int32.le_refl _) h)
      refine j_aload_n C dX10_analyse_90 rfl ?_
      refine j_getR C fl_X10_7 (by assumption) dX10_analyse_91 (by decide) rfl (by assumption) ?_
      refine j_iconst C (nI 2) dX10_analyse_94 (by decide) ?_
      refine j_aload_n C dX10_analyse_95 rfl ?_
      refine j_cVi C (c_X10_size _ ω γ _ R g9 (r := r) (by rw [eO _ _ (by decide)]; exact hr) hr30) yc_X10_size mn_X10_57 im_X10_size se_X10_size rfl rfl dX10_analyse_96 rfl rfl (by assumption) (by decide) (Nat.le_of_ble_eq_true rfl) (by decide) ?_
      rw [show sI (zRowW (zAo (M (m + 1)) (zZr (mChg M m np) m 128) m r (m + 1))) r = sI (zRowW (M (m + 1))) r from sI_congr (fun k hk => eO _ _ (by omega))]
      refine j_iastN C (by assumption) dX10_analyse_99 (by omega) (by decide) ?_
      refine j_aload_n C dX10_analyse_100 rfl ?_
      refine j_getR C fl_X10_7 (by assumption) dX10_analyse_101 (by decide) rfl (by assumption) ?_
      refine j_iconst C (nI 2) dX10_analyse_104 (by decide) ?_
      refine j_ialdN C (by assumption) dX10_analyse_105 (by omega) (by decide) ?_
      refine j_top (sI (zRowW (M (m + 1))) r) (jup_eq _ _ _ _) ?_
      exact j_ireturn C E dX10_analyse_106 (rfl) (by decide) (by decide) (⟨rfl, rfl, rfl, rfl⟩)

set_option maxHeartbeats 4000000 in
set_option maxRecDepth 100000 in
theorem c_X10_tells (l : Launch) (ω : jW) (γ : jG) (M : jM) (R : jR) {m : Nat} (g : gM ω γ m) (o n w e c h : Int32) : Ct l ω yX10_tells cX10_tells 7 none 1 0 0 [.ref m, .int o, .int n, .int w, .int e, .int c, .int h] γ M R (jx γ none (mTl M m o n w e c h) R) := by
  refine Ct_of (by decide) (Nat.le_of_ble_eq_true rfl) rfl (jcat_of rfl) ?_
  intro X C E hnm hxl hxn
  subst hxl
  have g9 := g
  obtain ⟨g0, g1, g2, g3, g4, g5, g6, g7, g8⟩ := g
  refine j_aload_n C dX10_tells_0 rfl ?_
  refine j_getR C fl_X10_7 (by assumption) dX10_tells_1 (by decide) rfl (by assumption) ?_
  refine j_bipush C (nI 21) dX10_tells_4 (by decide) ?_
  refine j_iload_n C dX10_tells_6 rfl ?_
  refine j_iastN C (by assumption) dX10_tells_7 (by omega) (by decide) ?_
  refine j_aload_n C dX10_tells_8 rfl ?_
  refine j_getR C fl_X10_7 (by assumption) dX10_tells_9 (by decide) rfl (by assumption) ?_
  refine j_bipush C (nI 22) dX10_tells_12 (by decide) ?_
  refine j_iload_n C dX10_tells_14 rfl ?_
  refine j_iastN C (by assumption) dX10_tells_15 (by omega) (by decide) ?_
  refine j_aload_n C dX10_tells_16 rfl ?_
  refine j_getR C fl_X10_7 (by assumption) dX10_tells_17 (by decide) rfl (by assumption) ?_
  refine j_bipush C (nI 23) dX10_tells_20 (by decide) ?_
  refine j_iload_n C dX10_tells_22 rfl ?_
  refine j_iastN C (by assumption) dX10_tells_23 (by omega) (by decide) ?_
  refine j_aload_n C dX10_tells_24 rfl ?_
  refine j_getR C fl_X10_7 (by assumption) dX10_tells_25 (by decide) rfl (by assumption) ?_
  refine j_bipush C (nI 24) dX10_tells_28 (by decide) ?_
  refine j_iload C dX10_tells_30 rfl ?_
  refine j_iastN C (by assumption) dX10_tells_32 (by omega) (by decide) ?_
  refine j_aload_n C dX10_tells_33 rfl ?_
  refine j_getR C fl_X10_7 (by assumption) dX10_tells_34 (by decide) rfl (by assumption) ?_
  refine j_bipush C (nI 25) dX10_tells_37 (by decide) ?_
  refine j_iload C dX10_tells_39 rfl ?_
  refine j_iastN C (by assumption) dX10_tells_41 (by omega) (by decide) ?_
  refine j_aload_n C dX10_tells_42 rfl ?_
  refine j_getR C fl_X10_7 (by assumption) dX10_tells_43 (by decide) rfl (by assumption) ?_
  refine j_bipush C (nI 26) dX10_tells_46 (by decide) ?_
  refine j_iload C dX10_tells_48 rfl ?_
  refine j_iastN C (by assumption) dX10_tells_50 (by omega) (by decide) ?_
  exact j_return C E dX10_tells_51 (by decide) (by decide) (⟨rfl, rfl, rfl, rfl⟩)

set_option maxHeartbeats 4000000 in
set_option maxRecDepth 100000 in
theorem c_X10_keeps (l : Launch) (ω : jW) (γ : jG) (M : jM) (R : jR) {m : Nat} (g : gM ω γ m) {n : Nat} (hn : M (m + 1) 4 = nI n) (hn8 : n ≤ 8) (h7 : ¬ nI n < M (m + 1) 15 ∨ n < 8) (t o w e : Int32) : Ct l ω yX10_keeps cX10_keeps 6 (some .int) 1 0 0 [.ref m, .int t, .int o, .int w, .int e] γ M R (jx γ (some (.int (zfKp (M (m + 1)) n))) (zmKp M m n t o w e) R) := by
  refine Ct_of (by decide) (Nat.le_of_ble_eq_true rfl) rfl (jcat_of rfl) ?_
  intro X C E hnm hxl hxn
  subst hxl
  have g9 := g
  obtain ⟨g0, g1, g2, g3, g4, g5, g6, g7, g8⟩ := g
  refine j_aload_n C dX10_keeps_0 rfl ?_
  refine j_getR C fl_X10_7 (by assumption) dX10_keeps_1 (by decide) rfl (by assumption) ?_
  refine j_iconst C (nI 4) dX10_keeps_4 (by decide) ?_
  refine j_ialdN C (by assumption) dX10_keeps_5 (by omega) (by decide) ?_
  refine j_top (nI n) hn ?_
  refine j_aload_n C dX10_keeps_6 rfl ?_
  refine j_getR C fl_X10_7 (by assumption) dX10_keeps_7 (by decide) rfl (by assumption) ?_
  refine j_bipush C (nI 15) dX10_keeps_10 (by decide) ?_
  refine j_ialdN C (by assumption) dX10_keeps_12 (by omega) (by decide) ?_
  refine j_icmp_lt C 19 dX10_keeps_13 (by decide) (fun h13 => ?_) (fun h13 => ?_)
  · skip
    have hn7 : n < 8 := h7.elim (fun q => absurd h13 q) id
    refine j_sipush C (nI 367) dX10_keeps_19 (by decide) ?_
    refine j_bipush C (nI 9) dX10_keeps_22 (by decide) ?_
    refine j_aload_n C dX10_keeps_24 rfl ?_
    refine j_getR C fl_X10_7 (by assumption) dX10_keeps_25 (by decide) rfl (by assumption) ?_
    refine j_iconst C (nI 4) dX10_keeps_28 (by decide) ?_
    refine j_ialdN C (by assumption) dX10_keeps_29 (by omega) (by decide) ?_
    refine j_top (nI n) hn ?_
    first | with_reducible refine j_imulN C dX10_keeps_30 ?_ | refine j_imul C dX10_keeps_30 ?_
    first | with_reducible refine j_iaddN C dX10_keeps_31 ?_ | refine j_iadd C dX10_keeps_31 ?_
    refine j_istore C dX10_keeps_32 (by rw [hxn]; decide) ?_
    refine j_aload_n C dX10_keeps_34 rfl ?_
    refine j_getR C fl_X10_7 (by assumption) dX10_keeps_35 (by decide) rfl (by assumption) ?_
    refine j_iload C dX10_keeps_38 rfl ?_
    refine j_iconst C (nI 0) dX10_keeps_40 (by decide) ?_
    first | with_reducible refine j_iaddN C dX10_keeps_41 ?_ | refine j_iadd C dX10_keeps_41 ?_
    refine j_aload_n C dX10_keeps_42 rfl ?_
    refine j_getR C fl_X10_7 (by assumption) dX10_keeps_43 (by decide) rfl (by assumption) ?_
    refine j_iconst C (nI 5) dX10_keeps_46 (by decide) ?_
    refine j_ialdN C (by assumption) dX10_keeps_47 (by omega) (by decide) ?_
    refine j_iastN C (by assumption) dX10_keeps_48 (by omega) (by decide) ?_
    refine j_aload_n C dX10_keeps_49 rfl ?_
    refine j_getR C fl_X10_7 (by assumption) dX10_keeps_50 (by decide) rfl (by assumption) ?_
    refine j_iload C dX10_keeps_53 rfl ?_
    refine j_iconst C (nI 1) dX10_keeps_55 (by decide) ?_
    first | with_reducible refine j_iaddN C dX10_keeps_56 ?_ | refine j_iadd C dX10_keeps_56 ?_
    refine j_iload_n C dX10_keeps_57 rfl ?_
    refine j_iastN C (by assumption) dX10_keeps_58 (by omega) (by decide) ?_
    refine j_aload_n C dX10_keeps_59 rfl ?_
    refine j_getR C fl_X10_7 (by assumption) dX10_keeps_60 (by decide) rfl (by assumption) ?_
    refine j_iload C dX10_keeps_63 rfl ?_
    refine j_iconst C (nI 2) dX10_keeps_65 (by decide) ?_
    first | with_reducible refine j_iaddN C dX10_keeps_66 ?_ | refine j_iadd C dX10_keeps_66 ?_
    refine j_iload_n C dX10_keeps_67 rfl ?_
    refine j_iastN C (by assumption) dX10_keeps_68 (by omega) (by decide) ?_
    refine j_aload_n C dX10_keeps_69 rfl ?_
    refine j_getR C fl_X10_7 (by assumption) dX10_keeps_70 (by decide) rfl (by assumption) ?_
    refine j_iload C dX10_keeps_73 rfl ?_
    refine j_iconst C (nI 3) dX10_keeps_75 (by decide) ?_
    first | with_reducible refine j_iaddN C dX10_keeps_76 ?_ | refine j_iadd C dX10_keeps_76 ?_
    refine j_iload_n C dX10_keeps_77 rfl ?_
    refine j_iastN C (by assumption) dX10_keeps_78 (by omega) (by decide) ?_
    refine j_aload_n C dX10_keeps_79 rfl ?_
    refine j_getR C fl_X10_7 (by assumption) dX10_keeps_80 (by decide) rfl (by assumption) ?_
    refine j_iload C dX10_keeps_83 rfl ?_
    refine j_iconst C (nI 4) dX10_keeps_85 (by decide) ?_
    first | with_reducible refine j_iaddN C dX10_keeps_86 ?_ | refine j_iadd C dX10_keeps_86 ?_
    refine j_iload C dX10_keeps_87 rfl ?_
    refine j_iastN C (by assumption) dX10_keeps_89 (by omega) (by decide) ?_
    refine j_aload_n C dX10_keeps_90 rfl ?_
    refine j_getR C fl_X10_7 (by assumption) dX10_keeps_91 (by decide) rfl (by assumption) ?_
    refine j_iload C dX10_keeps_94 rfl ?_
    refine j_iconst C (nI 5) dX10_keeps_96 (by decide) ?_
    first | with_reducible refine j_iaddN C dX10_keeps_97 ?_ | refine j_iadd C dX10_keeps_97 ?_
    refine j_iconst C (nI 0) dX10_keeps_98 (by decide) ?_
    refine j_iastN C (by assumption) dX10_keeps_99 (by omega) (by decide) ?_
    refine j_aload_n C dX10_keeps_100 rfl ?_
    refine j_getR C fl_X10_7 (by assumption) dX10_keeps_101 (by decide) rfl (by assumption) ?_
    refine j_iload C dX10_keeps_104 rfl ?_
    refine j_bipush C (nI 6) dX10_keeps_106 (by decide) ?_
    first | with_reducible refine j_iaddN C dX10_keeps_108 ?_ | refine j_iadd C dX10_keeps_108 ?_
    refine j_iconst C (nI 0) dX10_keeps_109 (by decide) ?_
    refine j_iastN C (by assumption) dX10_keeps_110 (by omega) (by decide) ?_
    refine j_aload_n C dX10_keeps_111 rfl ?_
    refine j_getR C fl_X10_7 (by assumption) dX10_keeps_112 (by decide) rfl (by assumption) ?_
    refine j_iload C dX10_keeps_115 rfl ?_
    refine j_bipush C (nI 7) dX10_keeps_117 (by decide) ?_
    first | with_reducible refine j_iaddN C dX10_keeps_119 ?_ | refine j_iadd C dX10_keeps_119 ?_
    refine j_iconst C (nI 0) dX10_keeps_120 (by decide) ?_
    refine j_iastN C (by assumption) dX10_keeps_121 (by omega) (by decide) ?_
    refine j_aload_n C dX10_keeps_122 rfl ?_
    refine j_getR C fl_X10_7 (by assumption) dX10_keeps_123 (by decide) rfl (by assumption) ?_
    refine j_iload C dX10_keeps_126 rfl ?_
    refine j_bipush C (nI 8) dX10_keeps_128 (by decide) ?_
    first | with_reducible refine j_iaddN C dX10_keeps_130 ?_ | refine j_iadd C dX10_keeps_130 ?_
    refine j_iconst C (nI 0) dX10_keeps_131 (by decide) ?_
    refine j_iastN C (by assumption) dX10_keeps_132 (by omega) (by decide) ?_
    refine j_aload_n C dX10_keeps_133 rfl ?_
    refine j_getR C fl_X10_7 (by assumption) dX10_keeps_134 (by decide) rfl (by assumption) ?_
    refine j_iconst C (nI 5) dX10_keeps_137 (by decide) ?_
    refine j_dup2 C dX10_keeps_138 rfl rfl ?_
    refine j_ialdN C (by assumption) dX10_keeps_139 (by omega) (by decide) ?_
    refine j_top (M (m + 1) 5) (by simp only [jup]; repeat rw [if_neg (by omega)]) ?_
    refine j_iconst C (nI 1) dX10_keeps_140 (by decide) ?_
    first | with_reducible refine j_iaddN C dX10_keeps_141 ?_ | refine j_iadd C dX10_keeps_141 ?_
    refine j_iastN C (by assumption) dX10_keeps_142 (by omega) (by decide) ?_
    refine j_aload_n C dX10_keeps_143 rfl ?_
    refine j_getR C fl_X10_7 (by assumption) dX10_keeps_144 (by decide) rfl (by assumption) ?_
    refine j_iconst C (nI 4) dX10_keeps_147 (by decide) ?_
    refine j_dup2 C dX10_keeps_148 rfl rfl ?_
    refine j_ialdN C (by assumption) dX10_keeps_149 (by omega) (by decide) ?_
    refine j_top (nI n) (by rw [jup_nk _ _ (by decide)]; (repeat rw [jup_nk _ _ (by omega)]); exact hn) ?_
    refine j_iconst C (nI 1) dX10_keeps_150 (by decide) ?_
    first | with_reducible refine j_iaddN C dX10_keeps_151 ?_ | refine j_iadd C dX10_keeps_151 ?_
    refine j_iastN C (by assumption) dX10_keeps_152 (by omega) (by decide) ?_
    refine j_aload_n C dX10_keeps_153 rfl ?_
    refine j_getR C fl_X10_7 (by assumption) dX10_keeps_154 (by decide) rfl (by assumption) ?_
    refine j_iconst C (nI 4) dX10_keeps_157 (by decide) ?_
    refine j_ialdN C (by assumption) dX10_keeps_158 (by omega) (by decide) ?_
    refine j_top (nI (n + 1)) (jup_eq _ _ _ _) ?_
    refine j_iconst C (nI 1) dX10_keeps_159 (by decide) ?_
    refine j_isubN C dX10_keeps_160 (by omega) ?_
    exact j_ireturn C E dX10_keeps_161 (rfl) (by decide) (by decide) (⟨by simp only [zfKp, if_pos h13]; rfl, rfl, by simp only [zmKp, if_pos h13]; rfl, rfl⟩)
  · skip
    refine j_bipush C (-4) dX10_keeps_16 (by decide) ?_
    exact j_ireturn C E dX10_keeps_18 (rfl) (by decide) (by decide) (⟨by simp only [zfKp, if_neg h13], rfl, by simp only [zmKp, if_neg h13] <;> rfl, rfl⟩)
