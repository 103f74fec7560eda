set_option maxHeartbeats 4000000 in
set_option maxRecDepth 100000 in
theorem c_X10_changes (l : Launch) (ω : jW) (γ : jG) (M : jM) (R : jR) {m : Nat} (g : gM ω γ m) {np : Nat} (hp : M m 2 = nI np) (hp4 : np ≤ 4)  : Ct l ω yX10_changes cX10_changes 2 none 1 0 0 [.ref m] γ M R (jx γ none (mChg M m np) R) := by
  refine Ct_of (by decide) (Nat.le_of_ble_eq_true rfl) rfl (jcat_of rfl) ?_
  intro X C E hnm hxl hxn
  subst hxl
  have g9 := g
  obtain ⟨g0, g1, g2, g3, g4, g5, g6, g7, g8⟩ := g
  refine j_aload_n C dX10_changes_0 rfl ?_
  refine j_getI C fl_X10_22 (by assumption) dX10_changes_1 (by decide) rfl ?_
  refine j_top (nI np) hp ?_
  refine j_iconst C (nI 4) dX10_changes_4 (by decide) ?_
  refine j_icmp_ne C 49 dX10_changes_5 (by decide) (fun h5 => ?_) (fun h5 => ?_)
  · skip
    have e9 : ¬ np = 4 := fun q => h5 (by rw [q])
    obtain ⟨M0, n0, hM0, hp0, hn0, hF⟩ : ∃ M0 n0, M = M0 ∧ M0 m 2 = nI n0 ∧ n0 ≤ 3 ∧ mChg M m np = jup (zCp M0 m n0 439) m 2 (nI (n0 + 1)) := ⟨M, np, rfl, hp, by omega, by rw [mChg, if_neg e9]⟩
    refine j_mem M0 hM0 ?_
    refine j_iconst C (nI 0) dX10_changes_49 (by decide) ?_
    refine j_istore_n C dX10_changes_50 (by rw [hxn]; decide) ?_
    rw [show J X ω γ M0 R = J X ω γ (zCp M0 m n0 0) R from by rw [zCp_0]]
    first | skip | skip
    refine j_loop 439 (fun k => [(0, .ref m), (1, .int (nI k))]) (fun k => zCp M0 m n0 k) (fun _ => R) (fun _ => True) trivial (fun k hk _ ih => ?_) (fun _ => ?_)
    · skip
      refine j_iload_n C dX10_changes_51 rfl ?_
      refine j_sipush C (nI 439) dX10_changes_52 (by decide) ?_
      refine j_icmp_ge C 85 dX10_changes_55 (by decide) (fun h => absurd h (nI_ge hk (by decide))) (fun _ => ?_)
      refine j_aload_n C dX10_changes_58 rfl ?_
      refine j_getR C fl_X10_13 (by assumption) dX10_changes_59 (by decide) rfl (by assumption) ?_
      refine j_sipush C (nI 439) dX10_changes_62 (by decide) ?_
      refine j_aload_n C dX10_changes_65 rfl ?_
      refine j_getI C fl_X10_22 (by assumption) dX10_changes_66 (by decide) rfl ?_
      refine j_top (nI n0) (by rw [zCp_o _ (by omega)]; exact hp0) ?_
      first | with_reducible refine j_imulN C dX10_changes_69 ?_ | refine j_imul C dX10_changes_69 ?_
      refine j_iload_n C dX10_changes_70 rfl ?_
      first | with_reducible refine j_iaddN C dX10_changes_71 ?_ | refine j_iadd C dX10_changes_71 ?_
      refine j_aload_n C dX10_changes_72 rfl ?_
      refine j_getR C fl_X10_7 (by assumption) dX10_changes_73 (by decide) rfl (by assumption) ?_
      refine j_iload_n C dX10_changes_76 rfl ?_
      refine j_ialdN C (by assumption) dX10_changes_77 (by omega) (by decide) ?_
      refine j_iastN C (by assumption) dX10_changes_78 (by omega) (by decide) ?_
      rw [zCp_s]
      first | refine j_iinc1 C dX10_changes_79 rfl (by rw [hxn]; decide) ?_ | refine j_iinc C _ dX10_changes_79 rfl rfl (by rw [hxn]; decide) ?_
      refine j_goto C 51 dX10_changes_82 (by decide) ?_
      exact ih trivial
    · skip
      refine j_iload_n C dX10_changes_51 rfl ?_
      refine j_sipush C (nI 439) dX10_changes_52 (by decide) ?_
      refine j_icmp_ge C 85 dX10_changes_55 (by decide) (fun _ => ?_) (fun h => absurd (Int32.le_refl _) h)
      refine j_aload_n C dX10_changes_85 rfl ?_
      refine j_dup C dX10_changes_86 rfl ?_
      refine j_getI C fl_X10_22 (by assumption) dX10_changes_87 (by decide) rfl ?_
      refine j_top (nI n0) (by rw [zCp_o _ (by omega)]; exact hp0) ?_
      refine j_iconst C (nI 1) dX10_changes_90 (by decide) ?_
      first | with_reducible refine j_iaddN C dX10_changes_91 ?_ | refine j_iadd C dX10_changes_91 ?_
      refine j_putI C fl_X10_22 (by assumption) dX10_changes_92 (by decide) rfl (rfl) (rfl) ?_
      exact j_return C E dX10_changes_95 (by decide) (by decide) (⟨rfl, rfl, hF.symm, rfl⟩)
  · skip
    have e9 : np = 4 := (by decide : ∀ x : Fin 5, nI x.val = nI 4 → x.val = 4) ⟨np, by omega⟩ h5
    refine j_iconst C (nI 0) dX10_changes_8 (by decide) ?_
    refine j_istore_n C dX10_changes_9 (by rw [hxn]; decide) ?_
    rw [show J X ω γ M R = J X ω γ (zSh M m 0) R from by rw [zSh_0]]
    refine j_loop 1317 (fun k => [(0, .ref m), (1, .int (nI k))]) (fun k => zSh M m k) (fun _ => R) (fun _ => True) trivial (fun k hk _ ih => ?_) (fun _ => ?_)
    · skip
      refine j_iload_n C dX10_changes_10 rfl ?_
      refine j_sipush C (nI 1317) dX10_changes_11 (by decide) ?_
      refine j_icmp_ge C 39 dX10_changes_14 (by decide) (fun h => absurd h (nI_ge hk (by decide))) (fun _ => ?_)
      refine j_aload_n C dX10_changes_17 rfl ?_
      refine j_getR C fl_X10_13 (by assumption) dX10_changes_18 (by decide) rfl (by assumption) ?_
      refine j_iload_n C dX10_changes_21 rfl ?_
      refine j_aload_n C dX10_changes_22 rfl ?_
      refine j_getR C fl_X10_13 (by assumption) dX10_changes_23 (by decide) rfl (by assumption) ?_
      refine j_iload_n C dX10_changes_26 rfl ?_
      refine j_sipush C (nI 439) dX10_changes_27 (by decide) ?_
      first | with_reducible refine j_iaddN C dX10_changes_30 ?_ | refine j_iadd C dX10_changes_30 ?_
      refine j_ialdN C (by assumption) dX10_changes_31 (by omega) (by decide) ?_
      refine j_iastN C (by assumption) dX10_changes_32 (by omega) (by decide) ?_
      rw [zSh_s]
      first | refine j_iinc1 C dX10_changes_33 rfl (by rw [hxn]; decide) ?_ | refine j_iinc C _ dX10_changes_33 rfl rfl (by rw [hxn]; decide) ?_
      refine j_goto C 10 dX10_changes_36 (by decide) ?_
      exact ih trivial
    · skip
      refine j_iload_n C dX10_changes_10 rfl ?_
      refine j_sipush C (nI 1317) dX10_changes_11 (by decide) ?_
      refine j_icmp_ge C 39 dX10_changes_14 (by decide) (fun _ => ?_) (fun h => absurd (Int32.le_refl _) h)
      refine j_aload_n C dX10_changes_39 rfl ?_
      refine j_dup C dX10_changes_40 rfl ?_
      refine j_getI C fl_X10_22 (by assumption) dX10_changes_41 (by decide) rfl ?_
      refine j_top (nI 4) (by rw [zSh_o _ (by omega)]; exact hp.trans h5) ?_
      refine j_iconst C (nI 1) dX10_changes_44 (by decide) ?_
      refine j_isubN C dX10_changes_45 (by decide) ?_
      refine j_putI C fl_X10_22 (by assumption) dX10_changes_46 (by decide) rfl (rfl) (rfl) ?_
      obtain ⟨M0, n0, hM0, hp0, hn0, hF⟩ : ∃ M0 n0, jup (zSh M m 1317) m 2 (nI (4 - 1)) = M0 ∧ M0 m 2 = nI n0 ∧ n0 ≤ 3 ∧ mChg M m np = jup (zCp M0 m n0 439) m 2 (nI (n0 + 1)) := ⟨_, 3, rfl, jup_eq _ _ _ _, by decide, by rw [mChg, if_pos e9]⟩
      refine j_mem M0 hM0 ?_
      refine j_iconst C (nI 0) dX10_changes_49 (by decide) ?_
      refine j_istore_n C dX10_changes_50 (by rw [hxn]; decide) ?_
      rw [show J X ω γ M0 R = J X ω γ (zCp M0 m n0 0) R from by rw [zCp_0]]
      first | skip | skip
      refine j_loop 439 (fun k => [(0, .ref m), (1, .int (nI k))]) (fun k => zCp M0 m n0 k) (fun _ => R) (fun _ => True) trivial (fun k hk _ ih => ?_) (fun _ => ?_)
      · skip
        refine j_iload_n C dX10_changes_51 rfl ?_
        refine j_sipush C (nI 439) dX10_changes_52 (by decide) ?_
        refine j_icmp_ge C 85 dX10_changes_55 (by decide) (fun h => absurd h (nI_ge hk (by decide))) (fun _ => ?_)
        refine j_aload_n C dX10_changes_58 rfl ?_
        refine j_getR C fl_X10_13 (by assumption) dX10_changes_59 (by decide) rfl (by assumption) ?_
        refine j_sipush C (nI 439) dX10_changes_62 (by decide) ?_
        refine j_aload_n C dX10_changes_65 rfl ?_
        refine j_getI C fl_X10_22 (by assumption) dX10_changes_66 (by decide) rfl ?_
        refine j_top (nI n0) (by rw [zCp_o _ (by omega)]; exact hp0) ?_
        first | with_reducible refine j_imulN C dX10_changes_69 ?_ | refine j_imul C dX10_changes_69 ?_
        refine j_iload_n C dX10_changes_70 rfl ?_
        first | with_reducible refine j_iaddN C dX10_changes_71 ?_ | refine j_iadd C dX10_changes_71 ?_
        refine j_aload_n C dX10_changes_72 rfl ?_
        refine j_getR C fl_X10_7 (by assumption) dX10_changes_73 (by decide) rfl (by assumption) ?_
        refine j_iload_n C dX10_changes_76 rfl ?_
        refine j_ialdN C (by assumption) dX10_changes_77 (by omega) (by decide) ?_
        refine j_iastN C (by assumption) dX10_changes_78 (by omega) (by decide) ?_
        rw [zCp_s]
        first | refine j_iinc1 C dX10_changes_79 rfl (by rw [hxn]; decide) ?_ | refine j_iinc C _ dX10_changes_79 rfl rfl (by rw [hxn]; decide) ?_
        refine j_goto C 51 dX10_changes_82 (by decide) ?_
        exact ih trivial
      · skip
        refine j_iload_n C dX10_changes_51 rfl ?_
        refine j_sipush C (nI 439) dX10_changes_52 (by decide) ?_
        refine j_icmp_ge C 85 dX10_changes_55 (by decide) (fun _ => ?_) (fun h => absurd (Int32.le_refl _) h)
        refine j_aload_n C dX10_changes_85 rfl ?_
        refine j_dup C dX10_changes_86 rfl ?_
        refine j_getI C fl_X10_22 (by assumption) dX10_changes_87 (by decide) rfl ?_
        refine j_top (nI n0) (by rw [zCp_o _ (by omega)]; exact hp0) ?_
        refine j_iconst C (nI 1) dX10_changes_90 (by decide) ?_
        first | with_reducible refine j_iaddN C dX10_changes_91 ?_ | refine j_iadd C dX10_changes_91 ?_
        refine j_putI C fl_X10_22 (by assumption) dX10_changes_92 (by decide) rfl (rfl) (rfl) ?_
        exact j_return C E dX10_changes_95 (by decide) (by decide) (⟨rfl, rfl, hF.symm, rfl⟩)

set_option maxHeartbeats 4000000 in
set_option maxRecDepth 100000 in
theorem c_X10_takesOut (l : Launch) (ω : jW) (γ : jG) (M : jM) (R : jR) {m : Nat} (g : gM ω γ m) {n : Nat} (hn : M (m + 1) 4 = nI n) (hn8 : n ≤ 8) {p : Nat} (hpn : p < n) : Ct l ω yX10_takesOut cX10_takesOut 3 none 1 0 0 [.ref m, .int (nI p)] γ M R (jx γ none (mOut M m n p) R) := by
  refine Ct_of (by decide) (Nat.le_of_ble_eq_true rfl) rfl (jcat_of rfl) ?_
  intro X C E hnm hxl hxn
  subst hxl
  have g9 := g
  obtain ⟨g0, g1, g2, g3, g4, g5, g6, g7, g8⟩ := g
  refine j_aload_n C dX10_takesOut_0 rfl ?_
  refine j_getR C fl_X10_7 (by assumption) dX10_takesOut_1 (by decide) rfl (by assumption) ?_
  refine j_iconst C (nI 4) dX10_takesOut_4 (by decide) ?_
  refine j_dup2 C dX10_takesOut_5 rfl rfl ?_
  refine j_ialdN C (by assumption) dX10_takesOut_6 (by omega) (by decide) ?_
  refine j_top (nI n) hn ?_
  refine j_iconst C (nI 1) dX10_takesOut_7 (by decide) ?_
  refine j_isubN C dX10_takesOut_8 (by omega) ?_
  refine j_iastN C (by assumption) dX10_takesOut_9 (by omega) (by decide) ?_
  rw [zTo_0 M m 4 9 (n - 1) (367 + 9 * p)]
  refine j_sipush C (nI 367) dX10_takesOut_10 (by decide) ?_
  refine j_bipush C (nI 9) dX10_takesOut_13 (by decide) ?_
  refine j_iload_n C dX10_takesOut_15 rfl ?_
  first | with_reducible refine j_imulN C dX10_takesOut_16 ?_ | refine j_imul C dX10_takesOut_16 ?_
  first | with_reducible refine j_iaddN C dX10_takesOut_17 ?_ | refine j_iadd C dX10_takesOut_17 ?_
  refine j_istore_n C dX10_takesOut_18 (by rw [hxn]; decide) ?_
  refine j_loop (9 * (n - 1 - p)) (fun j => [(0, .ref m), (1, .int (nI p)), (2, .int (nI (367 + 9 * p + j)))]) (fun j => zTo M m 4 9 (n - 1) (367 + 9 * p) j) (fun _ => R) (fun _ => True) trivial (fun j hj _ ih => ?_) (fun _ => ?_)
  · skip
    refine j_iload_n C dX10_takesOut_19 rfl ?_
    refine j_sipush C (nI 367) dX10_takesOut_20 (by decide) ?_
    refine j_bipush C (nI 9) dX10_takesOut_23 (by decide) ?_
    refine j_aload_n C dX10_takesOut_25 rfl ?_
    refine j_getR C fl_X10_7 (by assumption) dX10_takesOut_26 (by decide) rfl (by assumption) ?_
    refine j_iconst C (nI 4) dX10_takesOut_29 (by decide) ?_
    refine j_ialdN C (by assumption) dX10_takesOut_30 (by omega) (by decide) ?_
    refine j_top (nI (n - 1)) (zTo_c _ _ _ _ _ _ _) ?_
    first | with_reducible refine j_imulN C dX10_takesOut_31 ?_ | refine j_imul C dX10_takesOut_31 ?_
    first | with_reducible refine j_iaddN C dX10_takesOut_32 ?_ | refine j_iadd C dX10_takesOut_32 ?_
    refine j_icmp_ge C 57 dX10_takesOut_33 (by decide) (fun h => absurd h (nI_ge (show 367 + 9 * p + j < 367 + 9 * (n - 1) by omega) (by omega))) (fun _ => ?_)
    refine j_aload_n C dX10_takesOut_36 rfl ?_
    refine j_getR C fl_X10_7 (by assumption) dX10_takesOut_37 (by decide) rfl (by assumption) ?_
    refine j_iload_n C dX10_takesOut_40 rfl ?_
    refine j_aload_n C dX10_takesOut_41 rfl ?_
    refine j_getR C fl_X10_7 (by assumption) dX10_takesOut_42 (by decide) rfl (by assumption) ?_
    refine j_iload_n C dX10_takesOut_45 rfl ?_
    refine j_bipush C (nI 9) dX10_takesOut_46 (by decide) ?_
    first | with_reducible refine j_iaddN C dX10_takesOut_48 ?_ | refine j_iadd C dX10_takesOut_48 ?_
    refine j_ialdN C (by assumption) dX10_takesOut_49 (by omega) (by decide) ?_
    refine j_iastN C (by assumption) dX10_takesOut_50 (by omega) (by decide) ?_
    rw [zTo_s M (show 4 < 367 + 9 * p by omega) (by decide)]
    first | refine j_iinc1 C dX10_takesOut_51 rfl (by rw [hxn]; decide) ?_ | refine j_iinc C _ dX10_takesOut_51 rfl rfl (by rw [hxn]; decide) ?_
    refine j_goto C 19 dX10_takesOut_54 (by decide) ?_
    exact ih trivial
  · skip
    refine j_iload_n C dX10_takesOut_19 rfl ?_
    refine j_sipush C (nI 367) dX10_takesOut_20 (by decide) ?_
    refine j_bipush C (nI 9) dX10_takesOut_23 (by decide) ?_
    refine j_aload_n C dX10_takesOut_25 rfl ?_
    refine j_getR C fl_X10_7 (by assumption) dX10_takesOut_26 (by decide) rfl (by assumption) ?_
    refine j_iconst C (nI 4) dX10_takesOut_29 (by decide) ?_
    refine j_ialdN C (by assumption) dX10_takesOut_30 (by omega) (by decide) ?_
    refine j_top (nI (n - 1)) (zTo_c _ _ _ _ _ _ _) ?_
    first | with_reducible refine j_imulN C dX10_takesOut_31 ?_ | refine j_imul C dX10_takesOut_31 ?_
    first | with_reducible refine j_iaddN C dX10_takesOut_32 ?_ | refine j_iadd C dX10_takesOut_32 ?_
    refine j_icmp_ge C 57 dX10_takesOut_33 (by decide) (fun _ => ?_) (fun h => absurd (by rw [show 367 + 9 * p + 9 * (n - 1 - p) = 367 + 9 * (n - 1) by omega]; exact Int32.le_refl _) h)
    exact j_return C E dX10_takesOut_57 (by decide) (by decide) (⟨rfl, rfl, rfl, rfl⟩)

set_option maxHeartbeats 4000000 in
set_option maxRecDepth 100000 in
theorem c_X10_row (l : Launch) (ω : jW) (γ : jG) (M : jM) (R : jR) {m : Nat} (g : gM ω γ m) {r : Nat} (hr : M (m + 1) 0 = nI r) (hr30 : r ≤ 30) {np : Nat} (hp : M m 2 = nI np) (hp4 : np ≤ 4) (a b c d w : Int32) : Ct l ω yX10_row cX10_row 7 (some .int) 3 0 0 [.ref m, .int a, .int b, .int c, .int d, .int w] γ M R (jx γ (some (.int (zfRow r a b c d w))) (zmRow M m np r a b c d w) R) := by
  refine Ct_of (by decide) (Nat.le_of_ble_eq_true rfl) rfl (jcat_of rfl) ?_
  intro X C E hnm hxl hxn
  subst hxl
  have g9 := g
  obtain ⟨g0, g1, g2, g3, g4, g5, g6, g7, g8⟩ := g
  have eS : mChg M m np (m + 1) = M (m + 1) := mChg_o M (by omega) (by omega)
  refine j_iload_n C dX10_row_0 rfl ?_
  refine j_cSi C (c_X10_isValue _ _ _ _ _ _) yc_X10_isValue mn_X10_30 st_X10_isValue dX10_row_1 rfl rfl (Nat.le_of_ble_eq_true rfl) (by decide) ?_
  refine j_if_eq C 41 dX10_row_4 (by decide) (fun h4 => ?_) (fun h4 => ?_)
  · skip
    refine j_iconst C (-1) dX10_row_41 (by decide) ?_
    exact j_ireturn C E dX10_row_42 (rfl) (by decide) (by decide) (⟨by first | (simp_all [zfRow, zNo]; done) | skip, rfl, by first | (simp_all [zmRow, zNo, mRowX]; done) | skip, rfl⟩)
  · skip
    refine j_iload_n C dX10_row_7 rfl ?_
    refine j_cSi C (c_X10_isValue _ _ _ _ _ _) yc_X10_isValue mn_X10_30 st_X10_isValue dX10_row_8 rfl rfl (Nat.le_of_ble_eq_true rfl) (by decide) ?_
    refine j_if_eq C 41 dX10_row_11 (by decide) (fun h11 => ?_) (fun h11 => ?_)
    · skip
      refine j_iconst C (-1) dX10_row_41 (by decide) ?_
      exact j_ireturn C E dX10_row_42 (rfl) (by decide) (by decide) (⟨by first | (simp_all [zfRow, zNo]; done) | skip, rfl, by first | (simp_all [zmRow, zNo, mRowX]; done) | skip, rfl⟩)
    · skip
      refine j_iload_n C dX10_row_14 rfl ?_
      refine j_cSi C (c_X10_isValue _ _ _ _ _ _) yc_X10_isValue mn_X10_30 st_X10_isValue dX10_row_15 rfl rfl (Nat.le_of_ble_eq_true rfl) (by decide) ?_
      refine j_if_eq C 41 dX10_row_18 (by decide) (fun h18 => ?_) (fun h18 => ?_)
      · skip
        refine j_iconst C (-1) dX10_row_41 (by decide) ?_
        exact j_ireturn C E dX10_row_42 (rfl) (by decide) (by decide) (⟨by first | (simp_all [zfRow, zNo]; done) | skip, rfl, by first | (simp_all [zmRow, zNo, mRowX]; done) | skip, rfl⟩)
      · skip
        refine j_iload C dX10_row_21 rfl ?_
        refine j_cSi C (c_X10_isValue _ _ _ _ _ _) yc_X10_isValue mn_X10_30 st_X10_isValue dX10_row_23 rfl rfl (Nat.le_of_ble_eq_true rfl) (by decide) ?_
        refine j_if_eq C 41 dX10_row_26 (by decide) (fun h26 => ?_) (fun h26 => ?_)
        · skip
          refine j_iconst C (-1) dX10_row_41 (by decide) ?_
          exact j_ireturn C E dX10_row_42 (rfl) (by decide) (by decide) (⟨by first | (simp_all [zfRow, zNo]; done) | skip, rfl, by first | (simp_all [zmRow, zNo, mRowX]; done) | skip, rfl⟩)
        · skip
          refine j_iload C dX10_row_29 rfl ?_
          refine j_iconst C (nI 1) dX10_row_31 (by decide) ?_
          refine j_sipush C (nI 999) dX10_row_32 (by decide) ?_
          refine j_cSi C (c_X10_in _ _ _ _ _ _ _ _) yc_X10_in mn_X10_26 st_X10_in dX10_row_35 rfl rfl (Nat.le_of_ble_eq_true rfl) (by decide) ?_
          refine j_if_ne C 43 dX10_row_38 (by decide) (fun h38 => ?_) (fun h38 => ?_)
          · skip
            refine j_aload_n C dX10_row_43 rfl ?_
            refine j_getR C fl_X10_7 (by assumption) dX10_row_44 (by decide) rfl (by assumption) ?_
            refine j_iconst C (nI 0) dX10_row_47 (by decide) ?_
            refine j_ialdN C (by assumption) dX10_row_48 (by omega) (by decide) ?_
            refine j_top (nI r) hr ?_
            refine j_istore C dX10_row_49 (by rw [hxn]; decide) ?_
            refine j_iload C dX10_row_51 rfl ?_
            refine j_bipush C (nI 30) dX10_row_53 (by decide) ?_
            refine j_icmp_ne C 61 dX10_row_55 (by decide) (fun h55 => ?_) (fun h55 => ?_)
            · skip
              refine j_aload_n C dX10_row_61 rfl ?_
              refine j_cVv C (c_X10_changes _ ω γ M R g9 hp hp4) yc_X10_changes mn_X10_34 im_X10_changes se_X10_changes rfl rfl dX10_row_62 rfl rfl (by assumption) (by decide) (Nat.le_of_ble_eq_true rfl) (by decide) ?_
              refine j_aload_n C dX10_row_65 rfl ?_
              refine j_getR C fl_X10_7 (by assumption) dX10_row_66 (by decide) rfl (by assumption) ?_
              refine j_bipush C (nI 29) dX10_row_69 (by decide) ?_
              refine j_iconst C (nI 5) dX10_row_71 (by decide) ?_
              refine j_iload C dX10_row_72 rfl ?_
              first | with_reducible refine j_imulN C dX10_row_74 ?_ | refine j_imul C dX10_row_74 ?_
              first | with_reducible refine j_iaddN C dX10_row_75 ?_ | refine j_iadd C dX10_row_75 ?_
              refine j_iload_n C dX10_row_76 rfl ?_
              refine j_iastN C (by assumption) dX10_row_77 (by omega) (by decide) ?_
              refine j_aload_n C dX10_row_78 rfl ?_
              refine j_getR C fl_X10_7 (by assumption) dX10_row_79 (by decide) rfl (by assumption) ?_
              refine j_bipush C (nI 29) dX10_row_82 (by decide) ?_
              refine j_iconst C (nI 5) dX10_row_84 (by decide) ?_
              refine j_iload C dX10_row_85 rfl ?_
              first | with_reducible refine j_imulN C dX10_row_87 ?_ | refine j_imul C dX10_row_87 ?_
              first | with_reducible refine j_iaddN C dX10_row_88 ?_ | refine j_iadd C dX10_row_88 ?_
              refine j_iconst C (nI 1) dX10_row_89 (by decide) ?_
              first | with_reducible refine j_iaddN C dX10_row_90 ?_ | refine j_iadd C dX10_row_90 ?_
              refine j_iload_n C dX10_row_91 rfl ?_
              refine j_iastN C (by assumption) dX10_row_92 (by omega) (by decide) ?_
              refine j_aload_n C dX10_row_93 rfl ?_
              refine j_getR C fl_X10_7 (by assumption) dX10_row_94 (by decide) rfl (by assumption) ?_
              refine j_bipush C (nI 29) dX10_row_97 (by decide) ?_
              refine j_iconst C (nI 5) dX10_row_99 (by decide) ?_
              refine j_iload C dX10_row_100 rfl ?_
              first | with_reducible refine j_imulN C dX10_row_102 ?_ | refine j_imul C dX10_row_102 ?_
              first | with_reducible refine j_iaddN C dX10_row_103 ?_ | refine j_iadd C dX10_row_103 ?_
              refine j_iconst C (nI 2) dX10_row_104 (by decide) ?_
              first | with_reducible refine j_iaddN C dX10_row_105 ?_ | refine j_iadd C dX10_row_105 ?_
              refine j_iload_n C dX10_row_106 rfl ?_
              refine j_iastN C (by assumption) dX10_row_107 (by omega) (by decide) ?_
              refine j_aload_n C dX10_row_108 rfl ?_
              refine j_getR C fl_X10_7 (by assumption) dX10_row_109 (by decide) rfl (by assumption) ?_
              refine j_bipush C (nI 29) dX10_row_112 (by decide) ?_
              refine j_iconst C (nI 5) dX10_row_114 (by decide) ?_
              refine j_iload C dX10_row_115 rfl ?_
              first | with_reducible refine j_imulN C dX10_row_117 ?_ | refine j_imul C dX10_row_117 ?_
              first | with_reducible refine j_iaddN C dX10_row_118 ?_ | refine j_iadd C dX10_row_118 ?_
              refine j_iconst C (nI 3) dX10_row_119 (by decide) ?_
              first | with_reducible refine j_iaddN C dX10_row_120 ?_ | refine j_iadd C dX10_row_120 ?_
              refine j_iload C dX10_row_121 rfl ?_
              refine j_iastN C (by assumption) dX10_row_123 (by omega) (by decide) ?_
              refine j_aload_n C dX10_row_124 rfl ?_
              refine j_getR C fl_X10_7 (by assumption) dX10_row_125 (by decide) rfl (by assumption) ?_
              refine j_bipush C (nI 29) dX10_row_128 (by decide) ?_
              refine j_iconst C (nI 5) dX10_row_130 (by decide) ?_
              refine j_iload C dX10_row_131 rfl ?_
              first | with_reducible refine j_imulN C dX10_row_133 ?_ | refine j_imul C dX10_row_133 ?_
              first | with_reducible refine j_iaddN C dX10_row_134 ?_ | refine j_iadd C dX10_row_134 ?_
              refine j_iconst C (nI 4) dX10_row_135 (by decide) ?_
              first | with_reducible refine j_iaddN C dX10_row_136 ?_ | refine j_iadd C dX10_row_136 ?_
              refine j_iload C dX10_row_137 rfl ?_
              refine j_iastN C (by assumption) dX10_row_139 (by omega) (by decide) ?_
              refine j_aload_n C dX10_row_140 rfl ?_
              refine j_getR C fl_X10_7 (by assumption) dX10_row_141 (by decide) rfl (by assumption) ?_
              refine j_iconst C (nI 0) dX10_row_144 (by decide) ?_
              refine j_dup2 C dX10_row_145 rfl rfl ?_
              refine j_ialdN C (by assumption) dX10_row_146 (by omega) (by decide) ?_
              refine j_top (nI r) (by simp only [jup]; rw [if_neg (by omega), if_neg (by omega), if_neg (by omega), if_neg (by omega), if_neg (by omega), eS]; exact hr) ?_
              refine j_iconst C (nI 1) dX10_row_147 (by decide) ?_
              first | with_reducible refine j_iaddN C dX10_row_148 ?_ | refine j_iadd C dX10_row_148 ?_
              refine j_iastN C (by assumption) dX10_row_149 (by omega) (by decide) ?_
              refine j_iload C dX10_row_150 rfl ?_
              exact j_ireturn C E dX10_row_152 (rfl) (by decide) (by decide) (⟨by first | (simp_all [zfRow, zNo]; done) | skip, rfl, by first | (simp_all [zmRow, zNo, mRowX]; done) | skip, rfl⟩)
            · skip
              refine j_bipush C (-3) dX10_row_58 (by decide) ?_
              exact j_ireturn C E dX10_row_60 (rfl) (by decide) (by decide) (⟨by first | (simp_all [zfRow, zNo]; done) | skip, rfl, by first | (simp_all [zmRow, zNo, mRowX]; done) | skip, rfl⟩)
          · skip
            refine j_iconst C (-1) dX10_row_41 (by decide) ?_
            exact j_ireturn C E dX10_row_42 (rfl) (by decide) (by decide) (⟨by first | (simp_all [zfRow, zNo]; done) | skip, rfl, by first | (simp_all [zmRow, zNo, mRowX]; done) | skip, rfl⟩)

set_option maxHeartbeats 4000000 in
set_option maxRecDepth 100000 in
theorem c_X10_dropRow (l : Launch) (ω : jW) (γ : jG) (M : jM) (R : jR) {m : Nat} (g : gM ω γ m) {r : Nat} (hr : M (m + 1) 0 = nI r) (hr30 : r ≤ 30) {np : Nat} (hp : M m 2 = nI np) (hp4 : np ≤ 4) (x : Int32) : Ct l ω yX10_dropRow cX10_dropRow 4 (some .int) 3 0 0 [.ref m, .int x] γ M R (jx γ (some (.int (zfDrow (M (m + 1)) x))) (zmDrow M m np r x) R) := by
  refine Ct_of (by decide) (Nat.le_of_ble_eq_true rfl) rfl (jcat_of rfl) ?_
  intro X C E hnm hxl hxn
  subst hxl
  have g9 := g
  obtain ⟨g0, g1, g2, g3, g4, g5, g6, g7, g8⟩ := g
  have eS : mChg M m np (m + 1) = M (m + 1) := mChg_o M (by omega) (by omega)
  refine j_aload_n C dX10_dropRow_0 rfl ?_
  refine j_iload_n C dX10_dropRow_1 rfl ?_
  refine j_cVi C (c_X10_isRow _ _ _ _ _ (by assumption) _) yc_X10_isRow mn_X10_37 im_X10_isRow se_X10_isRow rfl rfl dX10_dropRow_2 rfl rfl (by assumption) (by decide) (Nat.le_of_ble_eq_true rfl) (by decide) ?_
  refine j_if_ne C 10 dX10_dropRow_5 (by decide) (fun h5 => ?_) (fun h5 => ?_)
  · skip
    obtain ⟨p, hpr, ek⟩ := zIs_N hr (by omega) h5
    have eck : x.toNatClampNeg = p := by rw [ek]; exact nI_clamp (by omega)
    refine j_aload_n C dX10_dropRow_10 rfl ?_
    refine j_cVv C (c_X10_changes _ ω γ M R g9 hp hp4) yc_X10_changes mn_X10_34 im_X10_changes se_X10_changes rfl rfl dX10_dropRow_11 rfl rfl (by assumption) (by decide) (Nat.le_of_ble_eq_true rfl) (by decide) ?_
    refine j_aload_n C dX10_dropRow_14 rfl ?_
    refine j_iload_n C dX10_dropRow_15 rfl ?_
    refine j_top (nI p) ek ?_
    refine j_iconst C (nI 4) dX10_dropRow_16 (by decide) ?_
    refine j_cVi C (c_X10_ofRow _ _ _ _ _ (by assumption) (by omega)) yc_X10_ofRow mn_X10_40 im_X10_ofRow se_X10_ofRow rfl rfl dX10_dropRow_17 rfl rfl (by assumption) (by decide) (Nat.le_of_ble_eq_true rfl) (by decide) ?_
    rw [eS]
    refine j_istore_n C dX10_dropRow_20 (by rw [hxn]; decide) ?_
    refine j_aload_n C dX10_dropRow_21 rfl ?_
    refine j_getR C fl_X10_7 (by assumption) dX10_dropRow_22 (by decide) rfl (by assumption) ?_
    refine j_iconst C (nI 0) dX10_dropRow_25 (by decide) ?_
    refine j_dup2 C dX10_dropRow_26 rfl rfl ?_
    refine j_ialdN C (by assumption) dX10_dropRow_27 (by omega) (by decide) ?_
    refine j_top (nI r) (by rw [eS]; exact hr) ?_
    refine j_iconst C (nI 1) dX10_dropRow_28 (by decide) ?_
    refine j_isubN C dX10_dropRow_29 (by omega) ?_
    refine j_iastN C (by assumption) dX10_dropRow_30 (by omega) (by decide) ?_
    rw [zTo_0 (mChg M m np) m 0 5 (r - 1) (29 + 5 * p)]
    refine j_bipush C (nI 29) dX10_dropRow_31 (by decide) ?_
    refine j_iconst C (nI 5) dX10_dropRow_33 (by decide) ?_
    refine j_iload_n C dX10_dropRow_34 rfl ?_
    refine j_top (nI p) ek ?_
    first | with_reducible refine j_imulN C dX10_dropRow_35 ?_ | refine j_imul C dX10_dropRow_35 ?_
    first | with_reducible refine j_iaddN C dX10_dropRow_36 ?_ | refine j_iadd C dX10_dropRow_36 ?_
    refine j_istore_n C dX10_dropRow_37 (by rw [hxn]; decide) ?_
    refine j_loop (5 * (r - 1 - p)) (fun j => [(0, .ref m), (1, .int x), (2, .int (M (m + 1) (29 + 5 * p + 4))), (3, .int (nI (29 + 5 * p + j)))]) (fun j => zTo (mChg M m np) m 0 5 (r - 1) (29 + 5 * p) j) (fun _ => R) (fun _ => True) trivial (fun j hj _ ih => ?_) (fun _ => ?_)
    · skip
      refine j_iload_n C dX10_dropRow_38 rfl ?_
      refine j_bipush C (nI 29) dX10_dropRow_39 (by decide) ?_
      refine j_iconst C (nI 5) dX10_dropRow_41 (by decide) ?_
      refine j_aload_n C dX10_dropRow_42 rfl ?_
      refine j_getR C fl_X10_7 (by assumption) dX10_dropRow_43 (by decide) rfl (by assumption) ?_
      refine j_iconst C (nI 0) dX10_dropRow_46 (by decide) ?_
      refine j_ialdN C (by assumption) dX10_dropRow_47 (by omega) (by decide) ?_
      refine j_top (nI (r - 1)) (zTo_c _ _ _ _ _ _ _) ?_
      first | with_reducible refine j_imulN C dX10_dropRow_48 ?_ | refine j_imul C dX10_dropRow_48 ?_
      first | with_reducible refine j_iaddN C dX10_dropRow_49 ?_ | refine j_iadd C dX10_dropRow_49 ?_
      refine j_icmp_ge C 73 dX10_dropRow_50 (by decide) (fun h => absurd h (nI_ge (show 29 + 5 * p + j < 29 + 5 * (r - 1) by omega) (by omega))) (fun _ => ?_)
      refine j_aload_n C dX10_dropRow_53 rfl ?_
      refine j_getR C fl_X10_7 (by assumption) dX10_dropRow_54 (by decide) rfl (by assumption) ?_
      refine j_iload_n C dX10_dropRow_57 rfl ?_
      refine j_aload_n C dX10_dropRow_58 rfl ?_
      refine j_getR C fl_X10_7 (by assumption) dX10_dropRow_59 (by decide) rfl (by assumption) ?_
      refine j_iload_n C dX10_dropRow_62 rfl ?_
      refine j_iconst C (nI 5) dX10_dropRow_63 (by decide) ?_
      first | with_reducible refine j_iaddN C dX10_dropRow_64 ?_ | refine j_iadd C dX10_dropRow_64 ?_
      refine j_ialdN C (by assumption) dX10_dropRow_65 (by omega) (by decide) ?_
      refine j_iastN C (by assumption) dX10_dropRow_66 (by omega) (by decide) ?_
      rw [zTo_s _ (show 0 < 29 + 5 * p by omega) (by decide)]
      first | refine j_iinc1 C dX10_dropRow_67 rfl (by rw [hxn]; decide) ?_ | refine j_iinc C _ dX10_dropRow_67 rfl rfl (by rw [hxn]; decide) ?_
      refine j_goto C 38 dX10_dropRow_70 (by decide) ?_
      exact ih trivial
    · skip
      refine j_iload_n C dX10_dropRow_38 rfl ?_
      refine j_bipush C (nI 29) dX10_dropRow_39 (by decide) ?_
      refine j_iconst C (nI 5) dX10_dropRow_41 (by decide) ?_
      refine j_aload_n C dX10_dropRow_42 rfl ?_
      refine j_getR C fl_X10_7 (by assumption) dX10_dropRow_43 (by decide) rfl (by assumption) ?_
      refine j_iconst C (nI 0) dX10_dropRow_46 (by decide) ?_
      refine j_ialdN C (by assumption) dX10_dropRow_47 (by omega) (by decide) ?_
      refine j_top (nI (r - 1)) (zTo_c _ _ _ _ _ _ _) ?_
      first | with_reducible refine j_imulN C dX10_dropRow_48 ?_ | refine j_imul C dX10_dropRow_48 ?_
      first | with_reducible refine j_iaddN C dX10_dropRow_49 ?_ | refine j_iadd C dX10_dropRow_49 ?_
      refine j_icmp_ge C 73 dX10_dropRow_50 (by decide) (fun _ => ?_) (fun h => absurd (by rw [show 29 + 5 * p + 5 * (r - 1 - p) = 29 + 5 * (r - 1) by omega]; exact Int32.le_refl _) h)
      refine j_iload_n C dX10_dropRow_73 rfl ?_
      exact j_ireturn C E dX10_dropRow_74 (rfl) (by decide) (by decide) (⟨by simp only [zfDrow, if_neg h5] <;> first | done | rw [eck], rfl, by simp only [zmDrow, if_neg h5] <;> first | done | rw [eck], rfl⟩)
  · skip
    refine j_iconst C (-1) dX10_dropRow_8 (by decide) ?_
    exact j_ireturn C E dX10_dropRow_9 (rfl) (by decide) (by decide) (⟨by simp only [zfDrow, if_pos h5] <;> first | done | rw [eck], rfl, by simp only [zmDrow, if_pos h5] <;> first | done | rw [eck], rfl⟩)

set_option maxHeartbeats 4000000 in
set_option maxRecDepth 100000 in
theorem c_X10_drop (l : Launch) (ω : jW) (γ : jG) (M : jM) (R : jR) {m : Nat} (g : gM ω γ m) {n : Nat} (hn : M (m + 1) 4 = nI n) (hn8 : n ≤ 8) {np : Nat} (hp : M m 2 = nI np) (hp4 : np ≤ 4) (x : Int32) : Ct l ω yX10_drop cX10_drop 3 (some .int) 3 0 0 [.ref m, .int x] γ M R (jx γ (some (.int (zfDrop (M (m + 1)) n x))) (zmDrop M m np n x) R) := by
  refine Ct_of (by decide) (Nat.le_of_ble_eq_true rfl) rfl (jcat_of rfl) ?_
  intro X C E hnm hxl hxn
  subst hxl
  have g9 := g
  obtain ⟨g0, g1, g2, g3, g4, g5, g6, g7, g8⟩ := g
  have eS : mChg M m np (m + 1) = M (m + 1) := mChg_o M (by omega) (by omega)
  refine j_aload_n C dX10_drop_0 rfl ?_
  refine j_iload_n C dX10_drop_1 rfl ?_
  refine j_cVi C (c_X10_placeOf _ _ _ _ _ (by assumption) (by assumption) (by assumption) _) yc_X10_placeOf mn_X10_138 im_X10_placeOf se_X10_placeOf rfl rfl dX10_drop_2 rfl rfl (by assumption) (by decide) (Nat.le_of_ble_eq_true rfl) (by decide) ?_
  refine j_istore_n C dX10_drop_5 (by rw [hxn]; decide) ?_
  refine j_iload_n C dX10_drop_6 rfl ?_
  refine j_if_ge C 12 dX10_drop_7 (by decide) (fun h7 => ?_) (fun h7 => ?_)
  · skip
    obtain ⟨p, hpn, hp2, ek⟩ := zLast_N (Int32.not_lt.mpr h7)
    have eck : (zLast (zPlc (M (m + 1)) x) n).toNatClampNeg = p := by rw [ek]; exact nI_clamp (by omega)
    refine j_aload_n C dX10_drop_12 rfl ?_
    refine j_iload_n C dX10_drop_13 rfl ?_
    refine j_top (nI p) ek ?_
    refine j_bipush C (nI 7) dX10_drop_14 (by decide) ?_
    refine j_cVi C (c_X10_ofPlan _ _ _ _ _ (by assumption) (by omega)) yc_X10_ofPlan mn_X10_47 im_X10_ofPlan se_X10_ofPlan rfl rfl dX10_drop_16 rfl rfl (by assumption) (by decide) (Nat.le_of_ble_eq_true rfl) (by decide) ?_
    refine j_iconst C (nI 1) dX10_drop_19 (by decide) ?_
    refine j_icmp_ne C 26 dX10_drop_20 (by decide) (fun h20 => ?_) (fun h20 => ?_)
    · skip
      refine j_aload_n C dX10_drop_26 rfl ?_
      refine j_cVv C (c_X10_changes _ ω γ M R g9 hp hp4) yc_X10_changes mn_X10_34 im_X10_changes se_X10_changes rfl rfl dX10_drop_27 rfl rfl (by assumption) (by decide) (Nat.le_of_ble_eq_true rfl) (by decide) ?_
      refine j_aload_n C dX10_drop_30 rfl ?_
      refine j_iload_n C dX10_drop_31 rfl ?_
      refine j_top (nI p) ek ?_
      refine j_cVv C (c_X10_takesOut _ ω γ (mChg M m np) R g9 (by rw [eS]; exact hn) hn8 hpn) yc_X10_takesOut mn_X10_53 im_X10_takesOut se_X10_takesOut rfl rfl dX10_drop_32 rfl rfl (by assumption) (by decide) (Nat.le_of_ble_eq_true rfl) (by decide) ?_
      refine j_aload_n C dX10_drop_35 rfl ?_
      refine j_getR C fl_X10_7 (by assumption) dX10_drop_36 (by decide) rfl (by assumption) ?_
      refine j_bipush C (nI 10) dX10_drop_39 (by decide) ?_
      refine j_dup2 C dX10_drop_41 rfl rfl ?_
      refine j_ialdN C (by assumption) dX10_drop_42 (by omega) (by decide) ?_
      refine j_iconst C (nI 1) dX10_drop_43 (by decide) ?_
      first | with_reducible refine j_iaddN C dX10_drop_44 ?_ | refine j_iadd C dX10_drop_44 ?_
      refine j_iastN C (by assumption) dX10_drop_45 (by omega) (by decide) ?_
      refine j_aload_n C dX10_drop_46 rfl ?_
      refine j_getR C fl_X10_7 (by assumption) dX10_drop_47 (by decide) rfl (by assumption) ?_
      refine j_iconst C (nI 4) dX10_drop_50 (by decide) ?_
      refine j_ialdN C (by assumption) dX10_drop_51 (by omega) (by decide) ?_
      refine j_top (nI (n - 1)) (by rw [jup_nk _ _ (by decide)]; exact zTo_c _ _ _ _ _ _ _) ?_
      exact j_ireturn C E dX10_drop_52 (rfl) (by decide) (by decide) (⟨by first | (simp only [zfDrop, if_pos h7, if_neg h20, eck]; done) | (simp only [zfDrop, if_pos h7, if_neg h20]; done), rfl, by first | (simp only [zmDrop, if_pos h7, if_neg h20, eck]; done) | (simp only [zmDrop, if_pos h7, if_neg h20]; done), rfl⟩)
    · skip
      refine j_bipush C (-2) dX10_drop_23 (by decide) ?_
      exact j_ireturn C E dX10_drop_25 (rfl) (by decide) (by decide) (⟨by first | (simp only [zfDrop, if_pos h7, if_pos h20, eck]; done) | (simp only [zfDrop, if_pos h7, if_pos h20]; done), rfl, by first | (simp only [zmDrop, if_pos h7, if_pos h20, eck]; done) | (simp only [zmDrop, if_pos h7, if_pos h20]; done), rfl⟩)
  · skip
    refine j_iconst C (-1) dX10_drop_10 (by decide) ?_
    exact j_ireturn C E dX10_drop_11 (rfl) (by decide) (by decide) (⟨by first | (simp only [zfDrop, if_neg h7, eck]; done) | (simp only [zfDrop, if_neg h7]; done), rfl, by first | (simp only [zmDrop, if_neg h7, eck]; done) | (simp only [zmDrop, if_neg h7]; done), rfl⟩)

set_option maxHeartbeats 4000000 in
set_option maxRecDepth 100000 in
theorem c_X10_pin (l : Launch) (ω : jW) (γ : jG) (M : jM) (R : jR) {m : Nat} (g : gM ω γ m) {n : Nat} (hn : M (m + 1) 4 = nI n) (hn8 : n ≤ 8) {np : Nat} (hp : M m 2 = nI np) (hp4 : np ≤ 4) (x w : Int32) : Ct l ω yX10_pin cX10_pin 4 (some .int) 3 0 0 [.ref m, .int x, .int w] γ M R (jx γ (some (.int (zfPin M m np n x w))) (zmPin M m np n x w) R) := by
  refine Ct_of (by decide) (Nat.le_of_ble_eq_true rfl) rfl (jcat_of rfl) ?_
  intro X C E hnm hxl hxn
  subst hxl
  have g9 := g
  obtain ⟨g0, g1, g2, g3, g4, g5, g6, g7, g8⟩ := g
  have eS : mChg M m np (m + 1) = M (m + 1) := mChg_o M (by omega) (by omega)
  refine j_aload_n C dX10_pin_0 rfl ?_
  refine j_iload_n C dX10_pin_1 rfl ?_
  refine j_cVi C (c_X10_placeOf _ _ _ _ _ (by assumption) (by assumption) (by assumption) _) yc_X10_placeOf mn_X10_138 im_X10_placeOf se_X10_placeOf rfl rfl dX10_pin_2 rfl rfl (by assumption) (by decide) (Nat.le_of_ble_eq_true rfl) (by decide) ?_
  refine j_istore_n C dX10_pin_5 (by rw [hxn]; decide) ?_
  refine j_iload_n C dX10_pin_6 rfl ?_
  refine j_if_lt C 19 dX10_pin_7 (by decide) (fun h7 => ?_) (fun h7 => ?_)
  · skip
    refine j_iconst C (-1) dX10_pin_19 (by decide) ?_
    exact j_ireturn C E dX10_pin_20 (rfl) (by decide) (by decide) (⟨by first | (simp only [zfPin, zmPin, if_pos h7, eck]; done) | (simp only [zfPin, if_pos h7]; done), rfl, by first | (simp only [zmPin, if_pos h7, eck]; done) | (simp only [zmPin, if_pos h7]; done), rfl⟩)
  · skip
    obtain ⟨p, hpn, hp2, ek⟩ := zLast_N h7
    have eck : (zLast (zPlc (M (m + 1)) x) n).toNatClampNeg = p := by rw [ek]; exact nI_clamp (by omega)
    refine j_iload_n C dX10_pin_10 rfl ?_
    refine j_iconst C (nI 0) dX10_pin_11 (by decide) ?_
    refine j_iconst C (nI 1) dX10_pin_12 (by decide) ?_
    refine j_cSi C (c_X10_in _ _ _ _ _ _ _ _) yc_X10_in mn_X10_26 st_X10_in dX10_pin_13 rfl rfl (Nat.le_of_ble_eq_true rfl) (by decide) ?_
    refine j_if_ne C 21 dX10_pin_16 (by decide) (fun h16 => ?_) (fun h16 => ?_)
    · skip
      refine j_aload_n C dX10_pin_21 rfl ?_
      refine j_cVv C (c_X10_changes _ ω γ M R g9 hp hp4) yc_X10_changes mn_X10_34 im_X10_changes se_X10_changes rfl rfl dX10_pin_22 rfl rfl (by assumption) (by decide) (Nat.le_of_ble_eq_true rfl) (by decide) ?_
      refine j_aload_n C dX10_pin_25 rfl ?_
      refine j_getR C fl_X10_7 (by assumption) dX10_pin_26 (by decide) rfl (by assumption) ?_
      refine j_sipush C (nI 367) dX10_pin_29 (by decide) ?_
      refine j_bipush C (nI 9) dX10_pin_32 (by decide) ?_
      refine j_iload_n C dX10_pin_34 rfl ?_
      refine j_top (nI p) ek ?_
      first | with_reducible refine j_imulN C dX10_pin_35 ?_ | refine j_imul C dX10_pin_35 ?_
      first | with_reducible refine j_iaddN C dX10_pin_36 ?_ | refine j_iadd C dX10_pin_36 ?_
      refine j_bipush C (nI 7) dX10_pin_37 (by decide) ?_
      first | with_reducible refine j_iaddN C dX10_pin_39 ?_ | refine j_iadd C dX10_pin_39 ?_
      refine j_iload_n C dX10_pin_40 rfl ?_
      refine j_iastN C (by assumption) dX10_pin_41 (by omega) (by decide) ?_
      refine j_aload_n C dX10_pin_42 rfl ?_
      refine j_cVi C (c_X10_pinned _ ω γ _ R g9 (n := n) (by rw [jup_nk _ _ (by omega), eS]; exact hn) hn8) yc_X10_pinned mn_X10_141 im_X10_pinned se_X10_pinned rfl rfl dX10_pin_43 rfl rfl (by assumption) (by decide) (Nat.le_of_ble_eq_true rfl) (by decide) ?_
      exact j_ireturn C E dX10_pin_46 (rfl) (by decide) (by decide) (⟨by first | (simp only [zfPin, zmPin, if_neg h7, if_neg h16, eck]; done) | (simp only [zfPin, if_neg h7, if_neg h16]; done), rfl, by first | (simp only [zmPin, if_neg h7, if_neg h16, eck]; done) | (simp only [zmPin, if_neg h7, if_neg h16]; done), rfl⟩)
    · skip
      refine j_iconst C (-1) dX10_pin_19 (by decide) ?_
      exact j_ireturn C E dX10_pin_20 (rfl) (by decide) (by decide) (⟨by first | (simp only [zfPin, zmPin, if_neg h7, if_pos h16, eck]; done) | (simp only [zfPin, if_neg h7, if_pos h16]; done), rfl, by first | (simp only [zmPin, if_neg h7, if_pos h16, eck]; done) | (simp only [zmPin, if_neg h7, if_pos h16]; done), rfl⟩)

set_option maxHeartbeats 4000000 in
set_option maxRecDepth 100000 in
theorem c_X10_set (l : Launch) (ω : jW) (γ : jG) (M : jM) (R : jR) {m : Nat} (g : gM ω γ m) {np : Nat} (hp : M m 2 = nI np) (hp4 : np ≤ 4) (w x : Int32) : Ct l ω yX10_set cX10_set 4 (some .int) 3 0 0 [.ref m, .int w, .int x] γ M R (jx γ (some (.int (zfSet (M (m + 1)) w x))) (zmSet M m np w x) R) := by
  refine Ct_of (by decide) (Nat.le_of_ble_eq_true rfl) rfl (jcat_of rfl) ?_
  intro X C E hnm hxl hxn
  subst hxl
  have g9 := g
  obtain ⟨g0, g1, g2, g3, g4, g5, g6, g7, g8⟩ := g
  have eS : mChg M m np (m + 1) = M (m + 1) := mChg_o M (by omega) (by omega)
  refine j_iload_n C dX10_set_0 rfl ?_
  refine j_iconst C (nI 0) dX10_set_1 (by decide) ?_
  refine j_iconst C (nI 4) dX10_set_2 (by decide) ?_
  refine j_cSi C (c_X10_in _ _ _ _ _ _ _ _) yc_X10_in mn_X10_26 st_X10_in dX10_set_3 rfl rfl (Nat.le_of_ble_eq_true rfl) (by decide) ?_
  refine j_if_eq C 59 dX10_set_6 (by decide) (fun h6 => ?_) (fun h6 => ?_)
  · skip
    refine j_iconst C (-1) dX10_set_59 (by decide) ?_
    exact j_ireturn C E dX10_set_60 (rfl) (by decide) (by decide) (⟨by first | exact absurd h22 h12 | exact absurd h12 h22 | (simp only [zfSet, zBad, if_pos h6, eck]; done) | (simp only [zfSet, zBad, if_pos h6]; done) | (simp_all [zfSet, zBad]; done), rfl, by first | exact absurd h22 h12 | exact absurd h12 h22 | (simp only [zmSet, zBad, if_pos h6, eck]; done) | (simp only [zmSet, zBad, if_pos h6]; done) | (simp_all [zmSet, zBad]; done), rfl⟩)
  · skip
    obtain ⟨k, hk, ek⟩ := rIn_N (by decide) h6
    have eck : w.toNatClampNeg = k := by rw [ek]; exact nI_clamp (by omega)
    refine j_iload_n C dX10_set_9 rfl ?_
    refine j_iload_n C dX10_set_10 rfl ?_
    refine j_iconst C (nI 2) dX10_set_11 (by decide) ?_
    refine j_icmp_ge C 19 dX10_set_12 (by decide) (fun h12 => ?_) (fun h12 => ?_)
    · skip
      refine j_iconst C (nI 1) dX10_set_19 (by decide) ?_
      refine j_iload_n C dX10_set_20 rfl ?_
      refine j_iconst C (nI 2) dX10_set_21 (by decide) ?_
      refine j_icmp_ge C 31 dX10_set_22 (by decide) (fun h22 => ?_) (fun h22 => ?_)
      · skip
        refine j_iload_n C dX10_set_31 rfl ?_
        refine j_iconst C (nI 2) dX10_set_32 (by decide) ?_
        refine j_icmp_ne C 41 dX10_set_33 (by decide) (fun h33 => ?_) (fun h33 => ?_)
        · skip
          refine j_iload_n C dX10_set_41 rfl ?_
          refine j_iconst C (nI 3) dX10_set_42 (by decide) ?_
          refine j_icmp_ne C 51 dX10_set_43 (by decide) (fun h43 => ?_) (fun h43 => ?_)
          · skip
            refine j_bipush C (nI 8) dX10_set_51 (by decide) ?_
            refine j_cSi C (c_X10_in _ _ _ _ _ _ _ _) yc_X10_in mn_X10_26 st_X10_in dX10_set_53 rfl rfl (Nat.le_of_ble_eq_true rfl) (by decide) ?_
            refine j_if_ne C 61 dX10_set_56 (by decide) (fun h56 => ?_) (fun h56 => ?_)
            · skip
              refine j_aload_n C dX10_set_61 rfl ?_
              refine j_cVv C (c_X10_changes _ ω γ M R g9 hp hp4) yc_X10_changes mn_X10_34 im_X10_changes se_X10_changes rfl rfl dX10_set_62 rfl rfl (by assumption) (by decide) (Nat.le_of_ble_eq_true rfl) (by decide) ?_
              refine j_aload_n C dX10_set_65 rfl ?_
              refine j_getR C fl_X10_7 (by assumption) dX10_set_66 (by decide) rfl (by assumption) ?_
              refine j_bipush C (nI 11) dX10_set_69 (by decide) ?_
              refine j_iload_n C dX10_set_71 rfl ?_
              refine j_top (nI k) ek ?_
              first | with_reducible refine j_iaddN C dX10_set_72 ?_ | refine j_iadd C dX10_set_72 ?_
              refine j_ialdN C (by assumption) dX10_set_73 (by omega) (by decide) ?_
              rw [eS]
              refine j_istore_n C dX10_set_74 (by rw [hxn]; decide) ?_
              refine j_aload_n C dX10_set_75 rfl ?_
              refine j_getR C fl_X10_7 (by assumption) dX10_set_76 (by decide) rfl (by assumption) ?_
              refine j_bipush C (nI 11) dX10_set_79 (by decide) ?_
              refine j_iload_n C dX10_set_81 rfl ?_
              refine j_top (nI k) ek ?_
              first | with_reducible refine j_iaddN C dX10_set_82 ?_ | refine j_iadd C dX10_set_82 ?_
              refine j_iload_n C dX10_set_83 rfl ?_
              refine j_iastN C (by assumption) dX10_set_84 (by omega) (by decide) ?_
              refine j_iload_n C dX10_set_85 rfl ?_
              exact j_ireturn C E dX10_set_86 (rfl) (by decide) (by decide) (⟨by first | exact absurd h22 h12 | exact absurd h12 h22 | (simp only [zfSet, zBad, if_neg h6, if_pos h12, if_pos h22, if_neg h33, if_neg h43, if_neg h56, eck]; done) | (simp only [zfSet, zBad, if_neg h6, if_pos h12, if_pos h22, if_neg h33, if_neg h43, if_neg h56]; done) | (simp_all [zfSet, zBad]; done), rfl, by first | exact absurd h22 h12 | exact absurd h12 h22 | (simp only [zmSet, zBad, if_neg h6, if_pos h12, if_pos h22, if_neg h33, if_neg h43, if_neg h56, eck]; done) | (simp only [zmSet, zBad, if_neg h6, if_pos h12, if_pos h22, if_neg h33, if_neg h43, if_neg h56]; done) | (simp_all [zmSet, zBad]; done), rfl⟩)
            · skip
              refine j_iconst C (-1) dX10_set_59 (by decide) ?_
              exact j_ireturn C E dX10_set_60 (rfl) (by decide) (by decide) (⟨by first | exact absurd h22 h12 | exact absurd h12 h22 | (simp only [zfSet, zBad, if_neg h6, if_pos h12, if_pos h22, if_neg h33, if_neg h43, if_pos h56, eck]; done) | (simp only [zfSet, zBad, if_neg h6, if_pos h12, if_pos h22, if_neg h33, if_neg h43, if_pos h56]; done) | (simp_all [zfSet, zBad]; done), rfl, by first | exact absurd h22 h12 | exact absurd h12 h22 | (simp only [zmSet, zBad, if_neg h6, if_pos h12, if_pos h22, if_neg h33, if_neg h43, if_pos h56, eck]; done) | (simp only [zmSet, zBad, if_neg h6, if_pos h12, if_pos h22, if_neg h33, if_neg h43, if_pos h56]; done) | (simp_all [zmSet, zBad]; done), rfl⟩)
          · skip
            refine j_bipush C (nI 9) dX10_set_46 (by decide) ?_
            refine j_goto C 53 dX10_set_48 (by decide) ?_
            refine j_cSi C (c_X10_in _ _ _ _ _ _ _ _) yc_X10_in mn_X10_26 st_X10_in dX10_set_53 rfl rfl (Nat.le_of_ble_eq_true rfl) (by decide) ?_
            refine j_if_ne C 61 dX10_set_56 (by decide) (fun h56 => ?_) (fun h56 => ?_)
            · skip
              refine j_aload_n C dX10_set_61 rfl ?_
              refine j_cVv C (c_X10_changes _ ω γ M R g9 hp hp4) yc_X10_changes mn_X10_34 im_X10_changes se_X10_changes rfl rfl dX10_set_62 rfl rfl (by assumption) (by decide) (Nat.le_of_ble_eq_true rfl) (by decide) ?_
              refine j_aload_n C dX10_set_65 rfl ?_
              refine j_getR C fl_X10_7 (by assumption) dX10_set_66 (by decide) rfl (by assumption) ?_
              refine j_bipush C (nI 11) dX10_set_69 (by decide) ?_
              refine j_iload_n C dX10_set_71 rfl ?_
              refine j_top (nI k) ek ?_
              first | with_reducible refine j_iaddN C dX10_set_72 ?_ | refine j_iadd C dX10_set_72 ?_
              refine j_ialdN C (by assumption) dX10_set_73 (by omega) (by decide) ?_
              rw [eS]
              refine j_istore_n C dX10_set_74 (by rw [hxn]; decide) ?_
              refine j_aload_n C dX10_set_75 rfl ?_
              refine j_getR C fl_X10_7 (by assumption) dX10_set_76 (by decide) rfl (by assumption) ?_
              refine j_bipush C (nI 11) dX10_set_79 (by decide) ?_
              refine j_iload_n C dX10_set_81 rfl ?_
              refine j_top (nI k) ek ?_
              first | with_reducible refine j_iaddN C dX10_set_82 ?_ | refine j_iadd C dX10_set_82 ?_
              refine j_iload_n C dX10_set_83 rfl ?_
              refine j_iastN C (by assumption) dX10_set_84 (by omega) (by decide) ?_
              refine j_iload_n C dX10_set_85 rfl ?_
              exact j_ireturn C E dX10_set_86 (rfl) (by decide) (by decide) (⟨by first | exact absurd h22 h12 | exact absurd h12 h22 | (simp only [zfSet, zBad, if_neg h6, if_pos h12, if_pos h22, if_neg h33, if_pos h43, if_neg h56, eck]; done) | (simp only [zfSet, zBad, if_neg h6, if_pos h12, if_pos h22, if_neg h33, if_pos h43, if_neg h56]; done) | (simp_all [zfSet, zBad]; done), rfl, by first | exact absurd h22 h12 | exact absurd h12 h22 | (simp only [zmSet, zBad, if_neg h6, if_pos h12, if_pos h22, if_neg h33, if_pos h43, if_neg h56, eck]; done) | (simp only [zmSet, zBad, if_neg h6, if_pos h12, if_pos h22, if_neg h33, if_pos h43, if_neg h56]; done) | (simp_all [zmSet, zBad]; done), rfl⟩)
            · skip
              refine j_iconst C (-1) dX10_set_59 (by decide) ?_
              exact j_ireturn C E dX10_set_60 (rfl) (by decide) (by decide) (⟨by first | exact absurd h22 h12 | exact absurd h12 h22 | (simp only [zfSet, zBad, if_neg h6, if_pos h12, if_pos h22, if_neg h33, if_pos h43, if_pos h56, eck]; done) | (simp only [zfSet, zBad, if_neg h6, if_pos h12, if_pos h22, if_neg h33, if_pos h43, if_pos h56]; done) | (simp_all [zfSet, zBad]; done), rfl, by first | exact absurd h22 h12 | exact absurd h12 h22 | (simp only [zmSet, zBad, if_neg h6, if_pos h12, if_pos h22, if_neg h33, if_pos h43, if_pos h56, eck]; done) | (simp only [zmSet, zBad, if_neg h6, if_pos h12, if_pos h22, if_neg h33, if_pos h43, if_pos h56]; done) | (simp_all [zmSet, zBad]; done), rfl⟩)
        · skip
          refine j_bipush C (nI 99) dX10_set_36 (by decide) ?_
          refine j_goto C 53 dX10_set_38 (by decide) ?_
          refine j_cSi C (c_X10_in _ _ _ _ _ _ _ _) yc_X10_in mn_X10_26 st_X10_in dX10_set_53 rfl rfl (Nat.le_of_ble_eq_true rfl) (by decide) ?_
          refine j_if_ne C 61 dX10_set_56 (by decide) (fun h56 => ?_) (fun h56 => ?_)
          · skip
            refine j_aload_n C dX10_set_61 rfl ?_
            refine j_cVv C (c_X10_changes _ ω γ M R g9 hp hp4) yc_X10_changes mn_X10_34 im_X10_changes se_X10_changes rfl rfl dX10_set_62 rfl rfl (by assumption) (by decide) (Nat.le_of_ble_eq_true rfl) (by decide) ?_
            refine j_aload_n C dX10_set_65 rfl ?_
            refine j_getR C fl_X10_7 (by assumption) dX10_set_66 (by decide) rfl (by assumption) ?_
            refine j_bipush C (nI 11) dX10_set_69 (by decide) ?_
            refine j_iload_n C dX10_set_71 rfl ?_
            refine j_top (nI k) ek ?_
            first | with_reducible refine j_iaddN C dX10_set_72 ?_ | refine j_iadd C dX10_set_72 ?_
            refine j_ialdN C (by assumption) dX10_set_73 (by omega) (by decide) ?_
            rw [eS]
            refine j_istore_n C dX10_set_74 (by rw [hxn]; decide) ?_
            refine j_aload_n C dX10_set_75 rfl ?_
            refine j_getR C fl_X10_7 (by assumption) dX10_set_76 (by decide) rfl (by assumption) ?_
            refine j_bipush C (nI 11) dX10_set_79 (by decide) ?_
            refine j_iload_n C dX10_set_81 rfl ?_
            refine j_top (nI k) ek ?_
            first | with_reducible refine j_iaddN C dX10_set_82 ?_ | refine j_iadd C dX10_set_82 ?_
            refine j_iload_n C dX10_set_83 rfl ?_
            refine j_iastN C (by assumption) dX10_set_84 (by omega) (by decide) ?_
            refine j_iload_n C dX10_set_85 rfl ?_
            exact j_ireturn C E dX10_set_86 (rfl) (by decide) (by decide) (⟨by first | exact absurd h22 h12 | exact absurd h12 h22 | (simp only [zfSet, zBad, if_neg h6, if_pos h12, if_pos h22, if_pos h33, if_neg h56, eck]; done) | (simp only [zfSet, zBad, if_neg h6, if_pos h12, if_pos h22, if_pos h33, if_neg h56]; done) | (simp_all [zfSet, zBad]; done), rfl, by first | exact absurd h22 h12 | exact absurd h12 h22 | (simp only [zmSet, zBad, if_neg h6, if_pos h12, if_pos h22, if_pos h33, if_neg h56, eck]; done) | (simp only [zmSet, zBad, if_neg h6, if_pos h12, if_pos h22, if_pos h33, if_neg h56]; done) | (simp_all [zmSet, zBad]; done), rfl⟩)
          · skip
            refine j_iconst C (-1) dX10_set_59 (by decide) ?_
            exact j_ireturn C E dX10_set_60 (rfl) (by decide) (by decide) (⟨by first | exact absurd h22 h12 | exact absurd h12 h22 | (simp only [zfSet, zBad, if_neg h6, if_pos h12, if_pos h22, if_pos h33, if_pos h56, eck]; done) | (simp only [zfSet, zBad, if_neg h6, if_pos h12, if_pos h22, if_pos h33, if_pos h56]; done) | (simp_all [zfSet, zBad]; done), rfl, by first | exact absurd h22 h12 | exact absurd h12 h22 | (simp only [zmSet, zBad, if_neg h6, if_pos h12, if_pos h22, if_pos h33, if_pos h56, eck]; done) | (simp only [zmSet, zBad, if_neg h6, if_pos h12, if_pos h22, if_pos h33, if_pos h56]; done) | (simp_all [zmSet, zBad]; done), rfl⟩)
      · skip
        refine j_sipush C (nI 1000) dX10_set_25 (by decide) ?_
        refine j_goto C 53 dX10_set_28 (by decide) ?_
        refine j_cSi C (c_X10_in _ _ _ _ _ _ _ _) yc_X10_in mn_X10_26 st_X10_in dX10_set_53 rfl rfl (Nat.le_of_ble_eq_true rfl) (by decide) ?_
        refine j_if_ne C 61 dX10_set_56 (by decide) (fun h56 => ?_) (fun h56 => ?_)
        · skip
          refine j_aload_n C dX10_set_61 rfl ?_
          refine j_cVv C (c_X10_changes _ ω γ M R g9 hp hp4) yc_X10_changes mn_X10_34 im_X10_changes se_X10_changes rfl rfl dX10_set_62 rfl rfl (by assumption) (by decide) (Nat.le_of_ble_eq_true rfl) (by decide) ?_
          refine j_aload_n C dX10_set_65 rfl ?_
          refine j_getR C fl_X10_7 (by assumption) dX10_set_66 (by decide) rfl (by assumption) ?_
          refine j_bipush C (nI 11) dX10_set_69 (by decide) ?_
          refine j_iload_n C dX10_set_71 rfl ?_
          refine j_top (nI k) ek ?_
          first | with_reducible refine j_iaddN C dX10_set_72 ?_ | refine j_iadd C dX10_set_72 ?_
          refine j_ialdN C (by assumption) dX10_set_73 (by omega) (by decide) ?_
          rw [eS]
          refine j_istore_n C dX10_set_74 (by rw [hxn]; decide) ?_
          refine j_aload_n C dX10_set_75 rfl ?_
          refine j_getR C fl_X10_7 (by assumption) dX10_set_76 (by decide) rfl (by assumption) ?_
          refine j_bipush C (nI 11) dX10_set_79 (by decide) ?_
          refine j_iload_n C dX10_set_81 rfl ?_
          refine j_top (nI k) ek ?_
          first | with_reducible refine j_iaddN C dX10_set_82 ?_ | refine j_iadd C dX10_set_82 ?_
          refine j_iload_n C dX10_set_83 rfl ?_
          refine j_iastN C (by assumption) dX10_set_84 (by omega) (by decide) ?_
          refine j_iload_n C dX10_set_85 rfl ?_
          exact j_ireturn C E dX10_set_86 (rfl) (by decide) (by decide) (⟨by first | exact absurd h22 h12 | exact absurd h12 h22 | (simp only [zfSet, zBad, if_neg h6, if_pos h12, if_neg h22, if_neg h56, eck]; done) | (simp only [zfSet, zBad, if_neg h6, if_pos h12, if_neg h22, if_neg h56]; done) | (simp_all [zfSet, zBad]; done), rfl, by first | exact absurd h22 h12 | exact absurd h12 h22 | (simp only [zmSet, zBad, if_neg h6, if_pos h12, if_neg h22, if_neg h56, eck]; done) | (simp only [zmSet, zBad, if_neg h6, if_pos h12, if_neg h22, if_neg h56]; done) | (simp_all [zmSet, zBad]; done), rfl⟩)
        · skip
          refine j_iconst C (-1) dX10_set_59 (by decide) ?_
          exact j_ireturn C E dX10_set_60 (rfl) (by decide) (by decide) (⟨by first | exact absurd h22 h12 | exact absurd h12 h22 | (simp only [zfSet, zBad, if_neg h6, if_pos h12, if_neg h22, if_pos h56, eck]; done) | (simp only [zfSet, zBad, if_neg h6, if_pos h12, if_neg h22, if_pos h56]; done) | (simp_all [zfSet, zBad]; done), rfl, by first | exact absurd h22 h12 | exact absurd h12 h22 | (simp only [zmSet, zBad, if_neg h6, if_pos h12, if_neg h22, if_pos h56, eck]; done) | (simp only [zmSet, zBad, if_neg h6, if_pos h12, if_neg h22, if_pos h56]; done) | (simp_all [zmSet, zBad]; done), rfl⟩)
    · skip
      refine j_iconst C (nI 0) dX10_set_15 (by decide) ?_
      refine j_goto C 20 dX10_set_16 (by decide) ?_
      refine j_iload_n C dX10_set_20 rfl ?_
      refine j_iconst C (nI 2) dX10_set_21 (by decide) ?_
      refine j_icmp_ge C 31 dX10_set_22 (by decide) (fun h22 => ?_) (fun h22 => ?_)
      · skip
        refine j_iload_n C dX10_set_31 rfl ?_
        refine j_iconst C (nI 2) dX10_set_32 (by decide) ?_
        refine j_icmp_ne C 41 dX10_set_33 (by decide) (fun h33 => ?_) (fun h33 => ?_)
        · skip
          refine j_iload_n C dX10_set_41 rfl ?_
          refine j_iconst C (nI 3) dX10_set_42 (by decide) ?_
          refine j_icmp_ne C 51 dX10_set_43 (by decide) (fun h43 => ?_) (fun h43 => ?_)
          · skip
            refine j_bipush C (nI 8) dX10_set_51 (by decide) ?_
            refine j_cSi C (c_X10_in _ _ _ _ _ _ _ _) yc_X10_in mn_X10_26 st_X10_in dX10_set_53 rfl rfl (Nat.le_of_ble_eq_true rfl) (by decide) ?_
            refine j_if_ne C 61 dX10_set_56 (by decide) (fun h56 => ?_) (fun h56 => ?_)
            · skip
              refine j_aload_n C dX10_set_61 rfl ?_
              refine j_cVv C (c_X10_changes _ ω γ M R g9 hp hp4) yc_X10_changes mn_X10_34 im_X10_changes se_X10_changes rfl rfl dX10_set_62 rfl rfl (by assumption) (by decide) (Nat.le_of_ble_eq_true rfl) (by decide) ?_
              refine j_aload_n C dX10_set_65 rfl ?_
              refine j_getR C fl_X10_7 (by assumption) dX10_set_66 (by decide) rfl (by assumption) ?_
              refine j_bipush C (nI 11) dX10_set_69 (by decide) ?_
              refine j_iload_n C dX10_set_71 rfl ?_
              refine j_top (nI k) ek ?_
              first | with_reducible refine j_iaddN C dX10_set_72 ?_ | refine j_iadd C dX10_set_72 ?_
              refine j_ialdN C (by assumption) dX10_set_73 (by omega) (by decide) ?_
              rw [eS]
              refine j_istore_n C dX10_set_74 (by rw [hxn]; decide) ?_
              refine j_aload_n C dX10_set_75 rfl ?_
              refine j_getR C fl_X10_7 (by assumption) dX10_set_76 (by decide) rfl (by assumption) ?_
              refine j_bipush C (nI 11) dX10_set_79 (by decide) ?_
              refine j_iload_n C dX10_set_81 rfl ?_
              refine j_top (nI k) ek ?_
              first | with_reducible refine j_iaddN C dX10_set_82 ?_ | refine j_iadd C dX10_set_82 ?_
              refine j_iload_n C dX10_set_83 rfl ?_
              refine j_iastN C (by assumption) dX10_set_84 (by omega) (by decide) ?_
              refine j_iload_n C dX10_set_85 rfl ?_
              exact j_ireturn C E dX10_set_86 (rfl) (by decide) (by decide) (⟨by first | exact absurd h22 h12 | exact absurd h12 h22 | (simp only [zfSet, zBad, if_neg h6, if_neg h12, if_pos h22, if_neg h33, if_neg h43, if_neg h56, eck]; done) | (simp only [zfSet, zBad, if_neg h6, if_neg h12, if_pos h22, if_neg h33, if_neg h43, if_neg h56]; done) | (simp_all [zfSet, zBad]; done), rfl, by first | exact absurd h22 h12 | exact absurd h12 h22 | (simp only [zmSet, zBad, if_neg h6, if_neg h12, if_pos h22, if_neg h33, if_neg h43, if_neg h56, eck]; done) | (simp only [zmSet, zBad, if_neg h6, if_neg h12, if_pos h22, if_neg h33, if_neg h43, if_neg h56]; done) | (simp_all [zmSet, zBad]; done), rfl⟩)
            · skip
              refine j_iconst C (-1) dX10_set_59 (by decide) ?_
              exact j_ireturn C E dX10_set_60 (rfl) (by decide) (by decide) (⟨by first | exact absurd h22 h12 | exact absurd h12 h22 | (simp only [zfSet, zBad, if_neg h6, if_neg h12, if_pos h22, if_neg h33, if_neg h43, if_pos h56, eck]; done) | (simp only [zfSet, zBad, if_neg h6, if_neg h12, if_pos h22, if_neg h33, if_neg h43, if_pos h56]; done) | (simp_all [zfSet, zBad]; done), rfl, by first | exact absurd h22 h12 | exact absurd h12 h22 | (simp only [zmSet, zBad, if_neg h6, if_neg h12, if_pos h22, if_neg h33, if_neg h43, if_pos h56, eck]; done) | (simp only [zmSet, zBad, if_neg h6, if_neg h12, if_pos h22, if_neg h33, if_neg h43, if_pos h56]; done) | (simp_all [zmSet, zBad]; done), rfl⟩)
          · skip
            refine j_bipush C (nI 9) dX10_set_46 (by decide) ?_
            refine j_goto C 53 dX10_set_48 (by decide) ?_
            refine j_cSi C (c_X10_in _ _ _ _ _ _ _ _) yc_X10_in mn_X10_26 st_X10_in dX10_set_53 rfl rfl (Nat.le_of_ble_eq_true rfl) (by decide) ?_
            refine j_if_ne C 61 dX10_set_56 (by decide) (fun h56 => ?_) (fun h56 => ?_)
            · skip
              refine j_aload_n C dX10_set_61 rfl ?_
              refine j_cVv C (c_X10_changes _ ω γ M R g9 hp hp4) yc_X10_changes mn_X10_34 im_X10_changes se_X10_changes rfl rfl dX10_set_62 rfl rfl (by assumption) (by decide) (Nat.le_of_ble_eq_true rfl) (by decide) ?_
              refine j_aload_n C dX10_set_65 rfl ?_
              refine j_getR C fl_X10_7 (by assumption) dX10_set_66 (by decide) rfl (by assumption) ?_
              refine j_bipush C (nI 11) dX10_set_69 (by decide) ?_
              refine j_iload_n C dX10_set_71 rfl ?_
              refine j_top (nI k) ek ?_
              first | with_reducible refine j_iaddN C dX10_set_72 ?_ | refine j_iadd C dX10_set_72 ?_
              refine j_ialdN C (by assumption) dX10_set_73 (by omega) (by decide) ?_
              rw [eS]
              refine j_istore_n C dX10_set_74 (by rw [hxn]; decide) ?_
              refine j_aload_n C dX10_set_75 rfl ?_
              refine j_getR C fl_X10_7 (by assumption) dX10_set_76 (by decide) rfl (by assumption) ?_
              refine j_bipush C (nI 11) dX10_set_79 (by decide) ?_
              refine j_iload_n C dX10_set_81 rfl ?_
              refine j_top (nI k) ek ?_
              first | with_reducible refine j_iaddN C dX10_set_82 ?_ | refine j_iadd C dX10_set_82 ?_
              refine j_iload_n C dX10_set_83 rfl ?_
              refine j_iastN C (by assumption) dX10_set_84 (by omega) (by decide) ?_
              refine j_iload_n C dX10_set_85 rfl ?_
              exact j_ireturn C E dX10_set_86 (rfl) (by decide) (by decide) (⟨by first | exact absurd h22 h12 | exact absurd h12 h22 | (simp only [zfSet, zBad, if_neg h6, if_neg h12, if_pos h22, if_neg h33, if_pos h43, if_neg h56, eck]; done) | (simp only [zfSet, zBad, if_neg h6, if_neg h12, if_pos h22, if_neg h33, if_pos h43, if_neg h56]; done) | (simp_all [zfSet, zBad]; done), rfl, by first | exact absurd h22 h12 | exact absurd h12 h22 | (simp only [zmSet, zBad, if_neg h6, if_neg h12, if_pos h22, if_neg h33, if_pos h43, if_neg h56, eck]; done) | (simp only [zmSet, zBad, if_neg h6, if_neg h12, if_pos h22, if_neg h33, if_pos h43, if_neg h56]; done) | (simp_all [zmSet, zBad]; done), rfl⟩)
            · skip
              refine j_iconst C (-1) dX10_set_59 (by decide) ?_
              exact j_ireturn C E dX10_set_60 (rfl) (by decide) (by decide) (⟨by first | exact absurd h22 h12 | exact absurd h12 h22 | (simp only [zfSet, zBad, if_neg h6, if_neg h12, if_pos h22, if_neg h33, if_pos h43, if_pos h56, eck]; done) | (simp only [zfSet, zBad, if_neg h6, if_neg h12, if_pos h22, if_neg h33, if_pos h43, if_pos h56]; done) | (simp_all [zfSet, zBad]; done), rfl, by first | exact absurd h22 h12 | exact absurd h12 h22 | (simp only [zmSet, zBad, if_neg h6, if_neg h12, if_pos h22, if_neg h33, if_pos h43, if_pos h56, eck]; done) | (simp only [zmSet, zBad, if_neg h6, if_neg h12, if_pos h22, if_neg h33, if_pos h43, if_pos h56]; done) | (simp_all [zmSet, zBad]; done), rfl⟩)
        · skip
          refine j_bipush C (nI 99) dX10_set_36 (by decide) ?_
          refine j_goto C 53 dX10_set_38 (by decide) ?_
          refine j_cSi C (c_X10_in _ _ _ _ _ _ _ _) yc_X10_in mn_X10_26 st_X10_in dX10_set_53 rfl rfl (Nat.le_of_ble_eq_true rfl) (by decide) ?_
          refine j_if_ne C 61 dX10_set_56 (by decide) (fun h56 => ?_) (fun h56 => ?_)
          · skip
            refine j_aload_n C dX10_set_61 rfl ?_
            refine j_cVv C (c_X10_changes _ ω γ M R g9 hp hp4) yc_X10_changes mn_X10_34 im_X10_changes se_X10_changes rfl rfl dX10_set_62 rfl rfl (by assumption) (by decide) (Nat.le_of_ble_eq_true rfl) (by decide) ?_
            refine j_aload_n C dX10_set_65 rfl ?_
            refine j_getR C fl_X10_7 (by assumption) dX10_set_66 (by decide) rfl (by assumption) ?_
            refine j_bipush C (nI 11) dX10_set_69 (by decide) ?_
            refine j_iload_n C dX10_set_71 rfl ?_
            refine j_top (nI k) ek ?_
            first | with_reducible refine j_iaddN C dX10_set_72 ?_ | refine j_iadd C dX10_set_72 ?_
            refine j_ialdN C (by assumption) dX10_set_73 (by omega) (by decide) ?_
            rw [eS]
            refine j_istore_n C dX10_set_74 (by rw [hxn]; decide) ?_
            refine j_aload_n C dX10_set_75 rfl ?_
            refine j_getR C fl_X10_7 (by assumption) dX10_set_76 (by decide) rfl (by assumption) ?_
            refine j_bipush C (nI 11) dX10_set_79 (by decide) ?_
            refine j_iload_n C dX10_set_81 rfl ?_
            refine j_top (nI k) ek ?_
            first | with_reducible refine j_iaddN C dX10_set_82 ?_ | refine j_iadd C dX10_set_82 ?_
            refine j_iload_n C dX10_set_83 rfl ?_
            refine j_iastN C (by assumption) dX10_set_84 (by omega) (by decide) ?_
            refine j_iload_n C dX10_set_85 rfl ?_
            exact j_ireturn C E dX10_set_86 (rfl) (by decide) (by decide) (⟨by first | exact absurd h22 h12 | exact absurd h12 h22 | (simp only [zfSet, zBad, if_neg h6, if_neg h12, if_pos h22, if_pos h33, if_neg h56, eck]; done) | (simp only [zfSet, zBad, if_neg h6, if_neg h12, if_pos h22, if_pos h33, if_neg h56]; done) | (simp_all [zfSet, zBad]; done), rfl, by first | exact absurd h22 h12 | exact absurd h12 h22 | (simp only [zmSet, zBad, if_neg h6, if_neg h12, if_pos h22, if_pos h33, if_neg h56, eck]; done) | (simp only [zmSet, zBad, if_neg h6, if_neg h12, if_pos h22, if_pos h33, if_neg h56]; done) | (simp_all [zmSet, zBad]; done), rfl⟩)
          · skip
            refine j_iconst C (-1) dX10_set_59 (by decide) ?_
            exact j_ireturn C E dX10_set_60 (rfl) (by decide) (by decide) (⟨by first | exact absurd h22 h12 | exact absurd h12 h22 | (simp only [zfSet, zBad, if_neg h6, if_neg h12, if_pos h22, if_pos h33, if_pos h56, eck]; done) | (simp only [zfSet, zBad, if_neg h6, if_neg h12, if_pos h22, if_pos h33, if_pos h56]; done) | (simp_all [zfSet, zBad]; done), rfl, by first | exact absurd h22 h12 | exact absurd h12 h22 | (simp only [zmSet, zBad, if_neg h6, if_neg h12, if_pos h22, if_pos h33, if_pos h56, eck]; done) | (simp only [zmSet, zBad, if_neg h6, if_neg h12, if_pos h22, if_pos h33, if_pos h56]; done) | (simp_all [zmSet, zBad]; done), rfl⟩)
      · skip
        refine j_sipush C (nI 1000) dX10_set_25 (by decide) ?_
        refine j_goto C 53 dX10_set_28 (by decide) ?_
        refine j_cSi C (c_X10_in _ _ _ _ _ _ _ _) yc_X10_in mn_X10_26 st_X10_in dX10_set_53 rfl rfl (Nat.le_of_ble_eq_true rfl) (by decide) ?_
        refine j_if_ne C 61 dX10_set_56 (by decide) (fun h56 => ?_) (fun h56 => ?_)
        · skip
          refine j_aload_n C dX10_set_61 rfl ?_
          refine j_cVv C (c_X10_changes _ ω γ M R g9 hp hp4) yc_X10_changes mn_X10_34 im_X10_changes se_X10_changes rfl rfl dX10_set_62 rfl rfl (by assumption) (by decide) (Nat.le_of_ble_eq_true rfl) (by decide) ?_
          refine j_aload_n C dX10_set_65 rfl ?_
          refine j_getR C fl_X10_7 (by assumption) dX10_set_66 (by decide) rfl (by assumption) ?_
          refine j_bipush C (nI 11) dX10_set_69 (by decide) ?_
          refine j_iload_n C dX10_set_71 rfl ?_
          refine j_top (nI k) ek ?_
          first | with_reducible refine j_iaddN C dX10_set_72 ?_ | refine j_iadd C dX10_set_72 ?_
          refine j_ialdN C (by assumption) dX10_set_73 (by omega) (by decide) ?_
          rw [eS]
          refine j_istore_n C dX10_set_74 (by rw [hxn]; decide) ?_
          refine j_aload_n C dX10_set_75 rfl ?_
          refine j_getR C fl_X10_7 (by assumption) dX10_set_76 (by decide) rfl (by assumption) ?_
          refine j_bipush C (nI 11) dX10_set_79 (by decide) ?_
          refine j_iload_n C dX10_set_81 rfl ?_
          refine j_top (nI k) ek ?_
          first | with_reducible refine j_iaddN C dX10_set_82 ?_ | refine j_iadd C dX10_set_82 ?_
          refine j_iload_n C dX10_set_83 rfl ?_
          refine j_iastN C (by assumption) dX10_set_84 (by omega) (by decide) ?_
          refine j_iload_n C dX10_set_85 rfl ?_
          exact j_ireturn C E dX10_set_86 (rfl) (by decide) (by decide) (⟨by first | exact absurd h22 h12 | exact absurd h12 h22 | (simp only [zfSet, zBad, if_neg h6, if_neg h12, if_neg h22, if_neg h56, eck]; done) | (simp only [zfSet, zBad, if_neg h6, if_neg h12, if_neg h22, if_neg h56]; done) | (simp_all [zfSet, zBad]; done), rfl, by first | exact absurd h22 h12 | exact absurd h12 h22 | (simp only [zmSet, zBad, if_neg h6, if_neg h12, if_neg h22, if_neg h56, eck]; done) | (simp only [zmSet, zBad, if_neg h6, if_neg h12, if_neg h22, if_neg h56]; done) | (simp_all [zmSet, zBad]; done), rfl⟩)
        · skip
          refine j_iconst C (-1) dX10_set_59 (by decide) ?_
          exact j_ireturn C E dX10_set_60 (rfl) (by decide) (by decide) (⟨by first | exact absurd h22 h12 | exact absurd h12 h22 | (simp only [zfSet, zBad, if_neg h6, if_neg h12, if_neg h22, if_pos h56, eck]; done) | (simp only [zfSet, zBad, if_neg h6, if_neg h12, if_neg h22, if_pos h56]; done) | (simp_all [zfSet, zBad]; done), rfl, by first | exact absurd h22 h12 | exact absurd h12 h22 | (simp only [zmSet, zBad, if_neg h6, if_neg h12, if_neg h22, if_pos h56, eck]; done) | (simp only [zmSet, zBad, if_neg h6, if_neg h12, if_neg h22, if_pos h56]; done) | (simp_all [zmSet, zBad]; done), rfl⟩)

set_option maxHeartbeats 4000000 in
set_option maxRecDepth 100000 in
theorem c_X10_undo (l : Launch) (ω : jW) (γ : jG) (M : jM) (R : jR) {m : Nat} (g : gM ω γ m) {np : Nat} (hp : M m 2 = nI np) (hp4 : np ≤ 4)  : Ct l ω yX10_undo cX10_undo 2 (some .int) 2 0 0 [.ref m] γ M R (jx γ (some (.int (zfUndo np))) (zmUndo M m np) R) := by
  refine Ct_of (by decide) (Nat.le_of_ble_eq_true rfl) rfl (jcat_of rfl) ?_
  intro X C E hnm hxl hxn
  subst hxl
  have g9 := g
  obtain ⟨g0, g1, g2, g3, g4, g5, g6, g7, g8⟩ := g
  refine j_aload_n C dX10_undo_0 rfl ?_
  refine j_getI C fl_X10_22 (by assumption) dX10_undo_1 (by decide) rfl ?_
  refine j_if_ne C 10 dX10_undo_4 (by decide) (fun h4 => ?_) (fun h4 => ?_)
  · skip
    have e9 : ¬ np = 0 := fun q => h4 (by rw [hp, q]; rfl)
    refine j_aload_n C dX10_undo_10 rfl ?_
    refine j_dup C dX10_undo_11 rfl ?_
    refine j_getI C fl_X10_22 (by assumption) dX10_undo_12 (by decide) rfl ?_
    refine j_top (nI np) hp ?_
    refine j_iconst C (nI 1) dX10_undo_15 (by decide) ?_
    refine j_isubN C dX10_undo_16 (by omega) ?_
    refine j_putI C fl_X10_22 (by assumption) dX10_undo_17 (by decide) rfl (rfl) (rfl) ?_
    refine j_iconst C (nI 0) dX10_undo_20 (by decide) ?_
    refine j_istore_n C dX10_undo_21 (by rw [hxn]; decide) ?_
    refine j_mem _ (zBk_0 (jup M m 2 (nI (np - 1))) m (np - 1)).symm ?_
    refine j_loop 439 (fun k => [(0, .ref m), (1, .int (nI k))]) (fun k => zBk (jup M m 2 (nI (np - 1))) m (np - 1) k) (fun _ => R) (fun _ => True) trivial (fun k hk _ ih => ?_) (fun _ => ?_)
    · skip
      refine j_iload_n C dX10_undo_22 rfl ?_
      refine j_sipush C (nI 439) dX10_undo_23 (by decide) ?_
      refine j_icmp_ge C 56 dX10_undo_26 (by decide) (fun h => absurd h (nI_ge hk (by decide))) (fun _ => ?_)
      refine j_aload_n C dX10_undo_29 rfl ?_
      refine j_getR C fl_X10_7 (by assumption) dX10_undo_30 (by decide) rfl (by assumption) ?_
      refine j_iload_n C dX10_undo_33 rfl ?_
      refine j_aload_n C dX10_undo_34 rfl ?_
      refine j_getR C fl_X10_13 (by assumption) dX10_undo_35 (by decide) rfl (by assumption) ?_
      refine j_sipush C (nI 439) dX10_undo_38 (by decide) ?_
      refine j_aload_n C dX10_undo_41 rfl ?_
      refine j_getI C fl_X10_22 (by assumption) dX10_undo_42 (by decide) rfl ?_
      refine j_top (nI (np - 1)) (by rw [zBk_o _ (by omega)]; exact jup_eq _ _ _ _) ?_
      first | with_reducible refine j_imulN C dX10_undo_45 ?_ | refine j_imul C dX10_undo_45 ?_
      refine j_iload_n C dX10_undo_46 rfl ?_
      first | with_reducible refine j_iaddN C dX10_undo_47 ?_ | refine j_iadd C dX10_undo_47 ?_
      refine j_ialdN C (by assumption) dX10_undo_48 (by omega) (by decide) ?_
      refine j_iastN C (by assumption) dX10_undo_49 (by omega) (by decide) ?_
      rw [zBk_s]
      first | refine j_iinc1 C dX10_undo_50 rfl (by rw [hxn]; decide) ?_ | refine j_iinc C _ dX10_undo_50 rfl rfl (by rw [hxn]; decide) ?_
      refine j_goto C 22 dX10_undo_53 (by decide) ?_
      exact ih trivial
    · skip
      refine j_iload_n C dX10_undo_22 rfl ?_
      refine j_sipush C (nI 439) dX10_undo_23 (by decide) ?_
      refine j_icmp_ge C 56 dX10_undo_26 (by decide) (fun _ => ?_) (fun h => absurd (Int32.le_refl _) h)
      refine j_aload_n C dX10_undo_56 rfl ?_
      refine j_getI C fl_X10_22 (by assumption) dX10_undo_57 (by decide) rfl ?_
      refine j_top (nI (np - 1)) (by rw [zBk_o _ (by omega)]; exact jup_eq _ _ _ _) ?_
      exact j_ireturn C E dX10_undo_60 (rfl) (by decide) (by decide) (⟨by first | (simp only [zfUndo, if_neg e9]; done) | (simp only [zfUndo, if_pos e9]; done), rfl, by first | (simp only [zmUndo, if_neg e9]; done) | (simp only [zmUndo, if_pos e9]; done), rfl⟩)
  · skip
    have e9 : np = 0 := (by decide : ∀ x : Fin 5, nI x.val = 0 → x.val = 0) ⟨np, by omega⟩ (hp ▸ h4)
    refine j_bipush C (-2) dX10_undo_7 (by decide) ?_
    exact j_ireturn C E dX10_undo_9 (rfl) (by decide) (by decide) (⟨by first | (simp only [zfUndo, if_neg e9]; done) | (simp only [zfUndo, if_pos e9]; done), rfl, by first | (simp only [zmUndo, if_neg e9]; done) | (simp only [zmUndo, if_pos e9]; done), rfl⟩)

set_option maxHeartbeats 4000000 in
set_option maxRecDepth 100000 in
theorem c_X10_takes (l : Launch) (ω : jW) (γ : jG) (M : jM) (R : jR) {m : Nat} (g : gM ω γ m) {c : Nat} (hc : M (m + 1) 3 = nI c) (hc6 : c ≤ 6) (hst : ∀ t, t < c → zSt (M (m + 1)) t (zN (M (m + 1)) t)) (s v0 v1 v2 v3 : Int32) : Ct l ω yX10_takes cX10_takes 8 (some .boolean) 3 0 0 [.ref m, .int s, .int v0, .int v1, .int v2, .int v3] γ M R (jx γ (some (.int (zTks (M (m + 1)) (mTk M m v0 v1 v2 v3 (m + 4)) s))) (mTk M m v0 v1 v2 v3) R) := by
  refine Ct_of (by decide) (Nat.le_of_ble_eq_true rfl) rfl (jcat_of rfl) ?_
  intro X C E hnm hxl hxn
  subst hxl
  have g9 := g
  obtain ⟨g0, g1, g2, g3, g4, g5, g6, g7, g8⟩ := g
  have eS : ∀ b, b ≠ m + 4 → mTk M m v0 v1 v2 v3 b = M b := fun b hb => mTk_o M v0 v1 v2 v3 hb
  refine j_aload_n C dX10_takes_0 rfl ?_
  refine j_getR C fl_X10_19 (by assumption) dX10_takes_1 (by decide) rfl (by assumption) ?_
  refine j_iconst C (nI 0) dX10_takes_4 (by decide) ?_
  refine j_iload_n C dX10_takes_5 rfl ?_
  refine j_iastN C (by assumption) dX10_takes_6 (by omega) (by decide) ?_
  refine j_aload_n C dX10_takes_7 rfl ?_
  refine j_getR C fl_X10_19 (by assumption) dX10_takes_8 (by decide) rfl (by assumption) ?_
  refine j_iconst C (nI 1) dX10_takes_11 (by decide) ?_
  refine j_iload_n C dX10_takes_12 rfl ?_
  refine j_iastN C (by assumption) dX10_takes_13 (by omega) (by decide) ?_
  refine j_aload_n C dX10_takes_14 rfl ?_
  refine j_getR C fl_X10_19 (by assumption) dX10_takes_15 (by decide) rfl (by assumption) ?_
  refine j_iconst C (nI 2) dX10_takes_18 (by decide) ?_
  refine j_iload C dX10_takes_19 rfl ?_
  refine j_iastN C (by assumption) dX10_takes_21 (by omega) (by decide) ?_
  refine j_aload_n C dX10_takes_22 rfl ?_
  refine j_getR C fl_X10_19 (by assumption) dX10_takes_23 (by decide) rfl (by assumption) ?_
  refine j_iconst C (nI 3) dX10_takes_26 (by decide) ?_
  refine j_iload C dX10_takes_27 rfl ?_
  refine j_iastN C (by assumption) dX10_takes_29 (by omega) (by decide) ?_
  refine j_mem (mTk M m v0 v1 v2 v3) rfl ?_
  refine j_aload_n C dX10_takes_30 rfl ?_
  refine j_iload_n C dX10_takes_31 rfl ?_
  refine j_cVi C (c_X10_isStatement _ _ _ _ _ (by assumption) _) yc_X10_isStatement mn_X10_88 im_X10_isStatement se_X10_isStatement rfl rfl dX10_takes_32 rfl rfl (by assumption) (by decide) (Nat.le_of_ble_eq_true rfl) (by decide) ?_
  refine j_top (zIs (M (m + 1) 3) s) (by rw [eS _ (by omega)]) ?_
  refine j_istore C dX10_takes_35 (by rw [hxn]; decide) ?_
  refine j_iconst C (nI 0) dX10_takes_37 (by decide) ?_
  refine j_istore C dX10_takes_38 (by rw [hxn]; decide) ?_
  refine j_loop 4 (fun k => [(0, .ref m), (1, .int s), (2, .int v0), (3, .int v1), (4, .int v2), (5, .int v3), (6, .int (zTk (mTk M m v0 v1 v2 v3 (m + 4)) (zN (M (m + 1)) s.toNatClampNeg) k (zIs (M (m + 1) 3) s))), (7, .int (nI k))]) (fun _ => mTk M m v0 v1 v2 v3) (fun _ => R) (fun _ => True) trivial (fun k hk _ ih => ?_) (fun _ => ?_)
  · skip
    refine j_iload C dX10_takes_40 rfl ?_
    refine j_iconst C (nI 4) dX10_takes_42 (by decide) ?_
    refine j_icmp_ge C 97 dX10_takes_43 (by decide) (fun h => absurd h (nI_ge hk (by decide))) (fun _ => ?_)
    refine j_iload C dX10_takes_46 rfl ?_
    refine j_if_eq C 97 dX10_takes_48 (by decide) (fun h48 => ?_) (fun h48 => ?_)
    · skip
      have hz := zTk_z (j := 4 - k) h48
      rw [show k + (4 - k) = 4 by omega] at hz
      refine j_iload C dX10_takes_97 rfl ?_
      exact j_ireturn C E dX10_takes_99 (by rw [h48]; rfl) (by decide) (by decide) (⟨by rw [zTks, hz, h48], rfl, rfl, rfl⟩)
    · skip
      obtain ⟨t, htc, et⟩ := zIs_N hc (by omega) (zTk_nz h48)
      have ht := hst t htc
      obtain ⟨ht1, ht2, -, ht4, -⟩ := ht
      have en : zN (M (m + 1)) s.toNatClampNeg = zN (M (m + 1)) t := by rw [et, nI_clamp (by omega)]
      refine j_iload C dX10_takes_51 rfl ?_
      refine j_aload_n C dX10_takes_53 rfl ?_
      refine j_iload_n C dX10_takes_54 rfl ?_
      refine j_top (nI t) et ?_
      refine j_cVi C (c_X10_conditions _ _ _ _ _ (by assumption) (by omega)) yc_X10_conditions mn_X10_70 im_X10_conditions se_X10_conditions rfl rfl dX10_takes_55 rfl rfl (by assumption) (by decide) (Nat.le_of_ble_eq_true rfl) (by decide) ?_
      refine j_top (nI (zN (M (m + 1)) t)) (by rw [eS _ (by omega)]; exact ht2) ?_
      refine j_icmp_ge C 74 dX10_takes_58 (by decide) (fun h58 => ?_) (fun h58 => ?_)
      · skip
        have hkn : ¬ k < zN (M (m + 1)) t := fun q => absurd h58 (nI_ge q (by omega))
        refine j_aload_n C dX10_takes_74 rfl ?_
        refine j_getR C fl_X10_19 (by assumption) dX10_takes_75 (by decide) rfl (by assumption) ?_
        refine j_iload C dX10_takes_78 rfl ?_
        refine j_ialdN C (by assumption) dX10_takes_80 (by omega) (by decide) ?_
        refine j_if_ne C 88 dX10_takes_81 (by decide) (fun h81 => ?_) (fun h81 => ?_)
        · skip
          refine j_iconst C (nI 0) dX10_takes_88 (by decide) ?_
          have e9 : zTk (mTk M m v0 v1 v2 v3 (m + 4)) (zN (M (m + 1)) s.toNatClampNeg) (k + 1) (zIs (M (m + 1) 3) s) = if k < zN (M (m + 1)) t then rIn ((mTk M m v0 v1 v2 v3 (m + 4)) k) (nI 0) (nI 31) else if (mTk M m v0 v1 v2 v3 (m + 4)) k = 0 then nI 1 else nI 0 := by simp only [zTk]; rw [if_neg h48, en]
          first | refine j_top _ ((e9.trans (if_pos hkn)).symm) ?_ | refine j_top _ ((e9.trans ((if_neg hkn).trans (if_pos h81))).symm) ?_ | refine j_top _ ((e9.trans ((if_neg hkn).trans (if_neg h81))).symm) ?_
          refine j_istore C dX10_takes_89 (by rw [hxn]; decide) ?_
          first | refine j_iinc1 C dX10_takes_91 rfl (by rw [hxn]; decide) ?_ | refine j_iinc C _ dX10_takes_91 rfl rfl (by rw [hxn]; decide) ?_
          refine j_goto C 40 dX10_takes_94 (by decide) ?_
          exact ih trivial
        · skip
          refine j_iconst C (nI 1) dX10_takes_84 (by decide) ?_
          refine j_goto C 89 dX10_takes_85 (by decide) ?_
          have e9 : zTk (mTk M m v0 v1 v2 v3 (m + 4)) (zN (M (m + 1)) s.toNatClampNeg) (k + 1) (zIs (M (m + 1) 3) s) = if k < zN (M (m + 1)) t then rIn ((mTk M m v0 v1 v2 v3 (m + 4)) k) (nI 0) (nI 31) else if (mTk M m v0 v1 v2 v3 (m + 4)) k = 0 then nI 1 else nI 0 := by simp only [zTk]; rw [if_neg h48, en]
          first | refine j_top _ ((e9.trans (if_pos hkn)).symm) ?_ | refine j_top _ ((e9.trans ((if_neg hkn).trans (if_pos h81))).symm) ?_ | refine j_top _ ((e9.trans ((if_neg hkn).trans (if_neg h81))).symm) ?_
          refine j_istore C dX10_takes_89 (by rw [hxn]; decide) ?_
          first | refine j_iinc1 C dX10_takes_91 rfl (by rw [hxn]; decide) ?_ | refine j_iinc C _ dX10_takes_91 rfl rfl (by rw [hxn]; decide) ?_
          refine j_goto C 40 dX10_takes_94 (by decide) ?_
          exact ih trivial
      · skip
        have hkn : k < zN (M (m + 1)) t := (nI_ltI (by omega) (by omega)).mp (Int32.not_le.mp h58)
        refine j_aload_n C dX10_takes_61 rfl ?_
        refine j_getR C fl_X10_19 (by assumption) dX10_takes_62 (by decide) rfl (by assumption) ?_
        refine j_iload C dX10_takes_65 rfl ?_
        refine j_ialdN C (by assumption) dX10_takes_67 (by omega) (by decide) ?_
        refine j_cSi C (c_X10_isValue _ _ _ _ _ _) yc_X10_isValue mn_X10_30 st_X10_isValue dX10_takes_68 rfl rfl (Nat.le_of_ble_eq_true rfl) (by decide) ?_
        refine j_goto C 89 dX10_takes_71 (by decide) ?_
        have e9 : zTk (mTk M m v0 v1 v2 v3 (m + 4)) (zN (M (m + 1)) s.toNatClampNeg) (k + 1) (zIs (M (m + 1) 3) s) = if k < zN (M (m + 1)) t then rIn ((mTk M m v0 v1 v2 v3 (m + 4)) k) (nI 0) (nI 31) else if (mTk M m v0 v1 v2 v3 (m + 4)) k = 0 then nI 1 else nI 0 := by simp only [zTk]; rw [if_neg h48, en]
        first | refine j_top _ ((e9.trans (if_pos hkn)).symm) ?_ | refine j_top _ ((e9.trans ((if_neg hkn).trans (if_pos h81))).symm) ?_ | refine j_top _ ((e9.trans ((if_neg hkn).trans (if_neg h81))).symm) ?_
        refine j_istore C dX10_takes_89 (by rw [hxn]; decide) ?_
        first | refine j_iinc1 C dX10_takes_91 rfl (by rw [hxn]; decide) ?_ | refine j_iinc C _ dX10_takes_91 rfl rfl (by rw [hxn]; decide) ?_
        refine j_goto C 40 dX10_takes_94 (by decide) ?_
        exact ih trivial
  · skip
    refine j_iload C dX10_takes_40 rfl ?_
    refine j_iconst C (nI 4) dX10_takes_42 (by decide) ?_
    refine j_icmp_ge C 97 dX10_takes_43 (by decide) (fun _ => ?_) (fun h => absurd (Int32.le_refl _) h)
    refine j_iload C dX10_takes_97 rfl ?_
    exact j_ireturn C E dX10_takes_99 ((zTks_B _ _ _).nar) (by decide) (by decide) (⟨rfl, rfl, rfl, rfl⟩)

set_option maxHeartbeats 4000000 in
set_option maxRecDepth 100000 in
theorem c_X10_classOf (l : Launch) (ω : jW) (γ : jG) (M : jM) (R : jR) {m : Nat} (g : gM ω γ m) {c : Nat} (hc : M (m + 1) 3 = nI c) (hc6 : c ≤ 6) (hst : ∀ t, t < c → zSt (M (m + 1)) t (zN (M (m + 1)) t)) (s v0 v1 v2 v3 : Int32) : Ct l ω yX10_classOf cX10_classOf 6 (some .int) 6 0 0 [.ref m, .int s, .int v0, .int v1, .int v2, .int v3] γ M R (jx γ (some (.int (zfClass (M (m + 1)) (mTk M m v0 v1 v2 v3 (m + 4)) s))) (mTk M m v0 v1 v2 v3) R) := by
  refine Ct_of (by decide) (Nat.le_of_ble_eq_true rfl) rfl (jcat_of rfl) ?_
  intro X C E hnm hxl hxn
  subst hxl
  have g9 := g
  obtain ⟨g0, g1, g2, g3, g4, g5, g6, g7, g8⟩ := g
  have eS : ∀ b, b ≠ m + 4 → mTk M m v0 v1 v2 v3 b = M b := fun b hb => mTk_o M v0 v1 v2 v3 hb
  refine j_aload_n C dX10_classOf_0 rfl ?_
  refine j_iload_n C dX10_classOf_1 rfl ?_
  refine j_iload_n C dX10_classOf_2 rfl ?_
  refine j_iload_n C dX10_classOf_3 rfl ?_
  refine j_iload C dX10_classOf_4 rfl ?_
  refine j_iload C dX10_classOf_6 rfl ?_
  refine j_cVi C (c_X10_takes _ _ _ _ _ (by assumption) (by assumption) (by assumption) (by assumption) _ _ _ _ _) yc_X10_takes mn_X10_131 im_X10_takes se_X10_takes rfl rfl dX10_classOf_8 rfl rfl (by assumption) (by decide) (Nat.le_of_ble_eq_true rfl) (by decide) ?_
  refine j_if_eq C 22 dX10_classOf_11 (by decide) (fun h11 => ?_) (fun h11 => ?_)
  · skip
    refine j_iconst C (-1) dX10_classOf_22 (by decide) ?_
    exact j_ireturn C E dX10_classOf_23 (rfl) (by decide) (by decide) (⟨by first | (simp only [zfClass, if_pos h11, eck]; done) | (simp only [zfClass, if_pos h11]; done), rfl, rfl, rfl⟩)
  · skip
    obtain ⟨t, htc, et⟩ := zIs_N hc (by omega) (zTk_nz h11)
    have ht := hst t htc
    have eck : s.toNatClampNeg = t := by rw [et]; exact nI_clamp (by have := ht.1; omega)
    refine j_aload_n C dX10_classOf_14 rfl ?_
    refine j_iload_n C dX10_classOf_15 rfl ?_
    refine j_top (nI t) et ?_
    refine j_cVi C (c_X10_ownClass _ ω γ (mTk M m v0 v1 v2 v3) R g9 (t := t) (n := zN (M (m + 1)) t) (by rw [eS _ (by omega)]; exact ht)) yc_X10_ownClass mn_X10_111 im_X10_ownClass se_X10_ownClass rfl rfl dX10_classOf_16 rfl rfl (by assumption) (by decide) (Nat.le_of_ble_eq_true rfl) (by decide) ?_
    rw [eS (m + 1) (by omega)]
    refine j_goto C 23 dX10_classOf_19 (by decide) ?_
    exact j_ireturn C E dX10_classOf_23 (rfl) (by decide) (by decide) (⟨by first | (simp only [zfClass, if_neg h11, eck]; done) | (simp only [zfClass, if_neg h11]; done), rfl, rfl, rfl⟩)

set_option maxHeartbeats 4000000 in
set_option maxRecDepth 100000 in
theorem c_X10_way (l : Launch) (ω : jW) (γ : jG) (M : jM) (R : jR) {m : Nat} (g : gM ω γ m) {c : Nat} (hc : M (m + 1) 3 = nI c) (hc6 : c ≤ 6) (hst : ∀ t, t < c → zSt (M (m + 1)) t (zN (M (m + 1)) t)) (s v0 v1 v2 v3 : Int32) : Ct l ω yX10_way cX10_way 6 (some .int) 6 0 0 [.ref m, .int s, .int v0, .int v1, .int v2, .int v3] γ M R (jx γ (some (.int (zfWay (M (m + 1)) (mTk M m v0 v1 v2 v3 (m + 4)) s))) (mTk M m v0 v1 v2 v3) R) := by
  refine Ct_of (by decide) (Nat.le_of_ble_eq_true rfl) rfl (jcat_of rfl) ?_
  intro X C E hnm hxl hxn
  subst hxl
  have g9 := g
  obtain ⟨g0, g1, g2, g3, g4, g5, g6, g7, g8⟩ := g
  have eS : ∀ b, b ≠ m + 4 → mTk M m v0 v1 v2 v3 b = M b := fun b hb => mTk_o M v0 v1 v2 v3 hb
  refine j_aload_n C dX10_way_0 rfl ?_
  refine j_iload_n C dX10_way_1 rfl ?_
  refine j_iload_n C dX10_way_2 rfl ?_
  refine j_iload_n C dX10_way_3 rfl ?_
  refine j_iload C dX10_way_4 rfl ?_
  refine j_iload C dX10_way_6 rfl ?_
  refine j_cVi C (c_X10_takes _ _ _ _ _ (by assumption) (by assumption) (by assumption) (by assumption) _ _ _ _ _) yc_X10_takes mn_X10_131 im_X10_takes se_X10_takes rfl rfl dX10_way_8 rfl rfl (by assumption) (by decide) (Nat.le_of_ble_eq_true rfl) (by decide) ?_
  refine j_if_eq C 23 dX10_way_11 (by decide) (fun h11 => ?_) (fun h11 => ?_)
  · skip
    refine j_iconst C (-1) dX10_way_23 (by decide) ?_
    exact j_ireturn C E dX10_way_24 (rfl) (by decide) (by decide) (⟨by first | (simp only [zfWay, if_pos h11, eck]; done) | (simp only [zfWay, if_pos h11]; done), rfl, rfl, rfl⟩)
  · skip
    obtain ⟨t, htc, et⟩ := zIs_N hc (by omega) (zTk_nz h11)
    have ht := hst t htc
    have eck : s.toNatClampNeg = t := by rw [et]; exact nI_clamp (by have := ht.1; omega)
    refine j_aload_n C dX10_way_14 rfl ?_
    refine j_iload_n C dX10_way_15 rfl ?_
    refine j_top (nI t) et ?_
    refine j_iconst C (nI 0) dX10_way_16 (by decide) ?_
    refine j_cVi C (c_X10_bestWay0 _ ω γ (mTk M m v0 v1 v2 v3) R g9 (t := t) (n := zN (M (m + 1)) t) (by rw [eS _ (by omega)]; exact ht)) yc_X10_bestWay mn_X10_117 im_X10_bestWay se_X10_bestWay rfl rfl dX10_way_17 rfl rfl (by assumption) (by decide) (Nat.le_of_ble_eq_true rfl) (by decide) ?_
    rw [eS (m + 1) (by omega)]
    refine j_goto C 24 dX10_way_20 (by decide) ?_
    exact j_ireturn C E dX10_way_24 (rfl) (by decide) (by decide) (⟨by first | (simp only [zfWay, if_neg h11, eck]; done) | (simp only [zfWay, if_neg h11]; done), rfl, rfl, rfl⟩)

set_option maxHeartbeats 4000000 in
set_option maxRecDepth 100000 in
theorem c_X10_meant1 (l : Launch) (ω : jW) (γ : jG) (M : jM) (R : jR) {m : Nat} (g : gM ω γ m) {k : Nat} (hk : k < 4) : Ct l ω yX10_meant cX10_meant 3 (some .int) 1 0 0 [.ref m, .int (nI k), .int (nI 1)] γ M R (jx γ (some (.int (zMt1 (M (m + 3)) k))) M R) := by
  refine Ct_of (by decide) (Nat.le_of_ble_eq_true rfl) rfl (jcat_of rfl) ?_
  intro X C E hnm hxl hxn
  subst hxl
  have g9 := g
  obtain ⟨g0, g1, g2, g3, g4, g5, g6, g7, g8⟩ := g
  refine j_iload_n C dX10_meant_0 rfl ?_
  refine j_if_eq C 18 dX10_meant_1 (by decide) (fun h => absurd h (by decide)) (fun _ => ?_)
  refine j_aload_n C dX10_meant_4 rfl ?_
  refine j_getR C fl_X10_16 (by assumption) dX10_meant_5 (by decide) rfl (by assumption) ?_
  refine j_iconst C (nI 4) dX10_meant_8 (by decide) ?_
  refine j_iload_n C dX10_meant_9 rfl ?_
  first | with_reducible refine j_imulN C dX10_meant_10 ?_ | refine j_imul C dX10_meant_10 ?_
  refine j_ialdN C (by assumption) dX10_meant_11 (by omega) (by decide) ?_
  refine j_bipush C (nI 97) dX10_meant_12 (by decide) ?_
  refine j_isub C dX10_meant_14 ?_
  refine j_goto C 57 dX10_meant_15 (by decide) ?_
  exact j_ireturn C E dX10_meant_57 (rfl) (by decide) (by decide) (⟨rfl, rfl, rfl, rfl⟩)

set_option maxHeartbeats 4000000 in
set_option maxRecDepth 100000 in
theorem c_X10_meant0 (l : Launch) (ω : jW) (γ : jG) (M : jM) (R : jR) {m : Nat} (g : gM ω γ m) {k : Nat} (hk : k < 4) : Ct l ω yX10_meant cX10_meant 3 (some .int) 1 0 0 [.ref m, .int (nI k), .int (nI 0)] γ M R (jx γ (some (.int (zMt0 (M (m + 3)) k))) M R) := by
  refine Ct_of (by decide) (Nat.le_of_ble_eq_true rfl) rfl (jcat_of rfl) ?_
  intro X C E hnm hxl hxn
  subst hxl
  have g9 := g
  obtain ⟨g0, g1, g2, g3, g4, g5, g6, g7, g8⟩ := g
  refine j_iload_n C dX10_meant_0 rfl ?_
  refine j_if_eq C 18 dX10_meant_1 (by decide) (fun _ => ?_) (fun h => absurd (rfl) h)
  refine j_aload_n C dX10_meant_18 rfl ?_
  refine j_getR C fl_X10_16 (by assumption) dX10_meant_19 (by decide) rfl (by assumption) ?_
  refine j_iconst C (nI 4) dX10_meant_22 (by decide) ?_
  refine j_iload_n C dX10_meant_23 rfl ?_
  first | with_reducible refine j_imulN C dX10_meant_24 ?_ | refine j_imul C dX10_meant_24 ?_
  refine j_iconst C (nI 1) dX10_meant_25 (by decide) ?_
  first | with_reducible refine j_iaddN C dX10_meant_26 ?_ | refine j_iadd C dX10_meant_26 ?_
  refine j_ialdN C (by assumption) dX10_meant_27 (by omega) (by decide) ?_
  refine j_bipush C (nI 61) dX10_meant_28 (by decide) ?_
  refine j_icmp_ne C 37 dX10_meant_30 (by decide) (fun h30 => ?_) (fun h30 => ?_)
  · skip
    refine j_aload_n C dX10_meant_37 rfl ?_
    refine j_getR C fl_X10_16 (by assumption) dX10_meant_38 (by decide) rfl (by assumption) ?_
    refine j_iconst C (nI 4) dX10_meant_41 (by decide) ?_
    refine j_iload_n C dX10_meant_42 rfl ?_
    first | with_reducible refine j_imulN C dX10_meant_43 ?_ | refine j_imul C dX10_meant_43 ?_
    refine j_iconst C (nI 1) dX10_meant_44 (by decide) ?_
    first | with_reducible refine j_iaddN C dX10_meant_45 ?_ | refine j_iadd C dX10_meant_45 ?_
    refine j_ialdN C (by assumption) dX10_meant_46 (by omega) (by decide) ?_
    refine j_bipush C (nI 60) dX10_meant_47 (by decide) ?_
    refine j_icmp_ne C 56 dX10_meant_49 (by decide) (fun h49 => ?_) (fun h49 => ?_)
    · skip
      refine j_iconst C (nI 2) dX10_meant_56 (by decide) ?_
      exact j_ireturn C E dX10_meant_57 (rfl) (by decide) (by decide) (⟨by simp only [zMt0, if_neg h30, if_neg h49], rfl, rfl, rfl⟩)
    · skip
      refine j_iconst C (nI 1) dX10_meant_52 (by decide) ?_
      refine j_goto C 57 dX10_meant_53 (by decide) ?_
      exact j_ireturn C E dX10_meant_57 (rfl) (by decide) (by decide) (⟨by simp only [zMt0, if_neg h30, if_pos h49], rfl, rfl, rfl⟩)
  · skip
    refine j_iconst C (nI 0) dX10_meant_33 (by decide) ?_
    refine j_goto C 57 dX10_meant_34 (by decide) ?_
    exact j_ireturn C E dX10_meant_57 (rfl) (by decide) (by decide) (⟨by simp only [zMt0, if_pos h30], rfl, rfl, rfl⟩)

set_option maxHeartbeats 4000000 in
set_option maxRecDepth 100000 in
theorem c_X10_isText (l : Launch) (ω : jW) (γ : jG) (M : jM) (R : jR) {m : Nat} (g : gM ω γ m) {len : Nat} (hl : M m 4 = nI len) (hl30 : len ≤ 30) {t n : Nat} (hs : zSt (M (m + 1)) t n) : Ct l ω yX10_isText cX10_isText 4 (some .boolean) 2 0 0 [.ref m, .int (nI t)] γ M R (jx γ (some (.int (zTx (M (m + 1)) (M (m + 3)) (nI (len + 1) / nI 4) t n))) M R) := by
  refine Ct_of (by decide) (Nat.le_of_ble_eq_true rfl) rfl (jcat_of rfl) ?_
  intro X C E hnm hxl hxn
  subst hxl
  have g9 := g
  obtain ⟨g0, g1, g2, g3, g4, g5, g6, g7, g8⟩ := g
  have hs9 := hs
  obtain ⟨ht, hc, hn1, hn4, hcol⟩ := hs
  refine j_aload_n C dX10_isText_0 rfl ?_
  refine j_iload_n C dX10_isText_1 rfl ?_
  refine j_cVi C (c_X10_conditions _ _ _ _ _ (by assumption) (by omega)) yc_X10_conditions mn_X10_70 im_X10_conditions se_X10_conditions rfl rfl dX10_isText_2 rfl rfl (by assumption) (by decide) (Nat.le_of_ble_eq_true rfl) (by decide) ?_
  refine j_aload_n C dX10_isText_5 rfl ?_
  refine j_getI C fl_X10_64 (by assumption) dX10_isText_6 (by decide) rfl ?_
  refine j_top (nI len) hl ?_
  refine j_iconst C (nI 1) dX10_isText_9 (by decide) ?_
  first | with_reducible refine j_iaddN C dX10_isText_10 ?_ | refine j_iadd C dX10_isText_10 ?_
  refine j_iconst C (nI 4) dX10_isText_11 (by decide) ?_
  refine j_idiv C dX10_isText_12 (by decide) ?_
  refine j_icmp_ne C 20 dX10_isText_13 (by decide) (fun h13 => ?_) (fun h13 => ?_)
  · skip
    refine j_iconst C (nI 0) dX10_isText_20 (by decide) ?_
    refine j_top (zTx (M (m + 1)) (M (m + 3)) (nI (len + 1) / nI 4) t 0) (by simp [zTx, h13]) ?_
    refine j_istore_n C dX10_isText_21 (by rw [hxn]; decide) ?_
    refine j_iconst C (nI 0) dX10_isText_22 (by decide) ?_
    refine j_istore_n C dX10_isText_23 (by rw [hxn]; decide) ?_
    refine j_loop n (fun k => [(0, .ref m), (1, .int (nI t)), (2, .int (zTx (M (m + 1)) (M (m + 3)) (nI (len + 1) / nI 4) t k)), (3, .int (nI k))]) (fun _ => M) (fun _ => R) (fun _ => True) trivial (fun k hk _ ih => ?_) (fun _ => ?_)
    · skip
      refine j_iload_n C dX10_isText_24 rfl ?_
      refine j_aload_n C dX10_isText_25 rfl ?_
      refine j_iload_n C dX10_isText_26 rfl ?_
      refine j_cVi C (c_X10_conditions _ _ _ _ _ (by assumption) (by omega)) yc_X10_conditions mn_X10_70 im_X10_conditions se_X10_conditions rfl rfl dX10_isText_27 rfl rfl (by assumption) (by decide) (Nat.le_of_ble_eq_true rfl) (by decide) ?_
      refine j_top (nI n) hc ?_
      refine j_icmp_ge C 79 dX10_isText_30 (by decide) (fun h => absurd h (nI_ge hk (by omega))) (fun _ => ?_)
      refine j_iload_n C dX10_isText_33 rfl ?_
      refine j_if_eq C 79 dX10_isText_34 (by decide) (fun h34 => ?_) (fun h34 => ?_)
      · skip
        have hz := zTx_z (j := n - k) h34
        rw [show k + (n - k) = n by omega] at hz
        refine j_iload_n C dX10_isText_79 rfl ?_
        exact j_ireturn C E dX10_isText_80 (by rw [h34]; rfl) (by decide) (by decide) (⟨by rw [hz, h34], rfl, rfl, rfl⟩)
      · skip
        refine j_aload_n C dX10_isText_37 rfl ?_
        refine j_iload_n C dX10_isText_38 rfl ?_
        refine j_iload_n C dX10_isText_39 rfl ?_
        refine j_cVi C (c_X10_columnOf _ _ _ _ _ (by assumption) (by omega)) yc_X10_columnOf mn_X10_50 im_X10_columnOf se_X10_columnOf rfl rfl dX10_isText_40 rfl rfl (by assumption) (by decide) (Nat.le_of_ble_eq_true rfl) (by decide) ?_
        refine j_aload_n C dX10_isText_43 rfl ?_
        refine j_iload_n C dX10_isText_44 rfl ?_
        refine j_iconst C (nI 1) dX10_isText_45 (by decide) ?_
        refine j_cVi C (c_X10_meant1 _ ω γ M R g9 (show k < 4 by omega)) yc_X10_meant mn_X10_74 im_X10_meant se_X10_meant rfl rfl dX10_isText_46 rfl rfl (by assumption) (by decide) (Nat.le_of_ble_eq_true rfl) (by decide) ?_
        refine j_icmp_ne C 71 dX10_isText_49 (by decide) (fun h49 => ?_) (fun h49 => ?_)
        · skip
          refine j_iconst C (nI 0) dX10_isText_71 (by decide) ?_
          refine j_top (zTx (M (m + 1)) (M (m + 3)) (nI (len + 1) / nI 4) t (k + 1)) (by simp_all [zTx]) ?_
          refine j_istore_n C dX10_isText_72 (by rw [hxn]; decide) ?_
          first | refine j_iinc1 C dX10_isText_73 rfl (by rw [hxn]; decide) ?_ | refine j_iinc C _ dX10_isText_73 rfl rfl (by rw [hxn]; decide) ?_
          refine j_goto C 24 dX10_isText_76 (by decide) ?_
          exact ih trivial
        · skip
          refine j_aload_n C dX10_isText_52 rfl ?_
          refine j_iload_n C dX10_isText_53 rfl ?_
          refine j_iload_n C dX10_isText_54 rfl ?_
          refine j_cVi C (c_X10_operatorOf _ _ _ _ _ (by assumption) (by omega)) yc_X10_operatorOf mn_X10_78 im_X10_operatorOf se_X10_operatorOf rfl rfl dX10_isText_55 rfl rfl (by assumption) (by decide) (Nat.le_of_ble_eq_true rfl) (by decide) ?_
          refine j_aload_n C dX10_isText_58 rfl ?_
          refine j_iload_n C dX10_isText_59 rfl ?_
          refine j_iconst C (nI 0) dX10_isText_60 (by decide) ?_
          refine j_cVi C (c_X10_meant0 _ ω γ M R g9 (show k < 4 by omega)) yc_X10_meant mn_X10_74 im_X10_meant se_X10_meant rfl rfl dX10_isText_61 rfl rfl (by assumption) (by decide) (Nat.le_of_ble_eq_true rfl) (by decide) ?_
          refine j_icmp_ne C 71 dX10_isText_64 (by decide) (fun h64 => ?_) (fun h64 => ?_)
          · skip
            refine j_iconst C (nI 0) dX10_isText_71 (by decide) ?_
            refine j_top (zTx (M (m + 1)) (M (m + 3)) (nI (len + 1) / nI 4) t (k + 1)) (by simp_all [zTx]) ?_
            refine j_istore_n C dX10_isText_72 (by rw [hxn]; decide) ?_
            first | refine j_iinc1 C dX10_isText_73 rfl (by rw [hxn]; decide) ?_ | refine j_iinc C _ dX10_isText_73 rfl rfl (by rw [hxn]; decide) ?_
            refine j_goto C 24 dX10_isText_76 (by decide) ?_
            exact ih trivial
          · skip
            refine j_iconst C (nI 1) dX10_isText_67 (by decide) ?_
            refine j_goto C 72 dX10_isText_68 (by decide) ?_
            refine j_top (zTx (M (m + 1)) (M (m + 3)) (nI (len + 1) / nI 4) t (k + 1)) (by simp_all [zTx]) ?_
            refine j_istore_n C dX10_isText_72 (by rw [hxn]; decide) ?_
            first | refine j_iinc1 C dX10_isText_73 rfl (by rw [hxn]; decide) ?_ | refine j_iinc C _ dX10_isText_73 rfl rfl (by rw [hxn]; decide) ?_
            refine j_goto C 24 dX10_isText_76 (by decide) ?_
            exact ih trivial
    · skip
      refine j_iload_n C dX10_isText_24 rfl ?_
      refine j_aload_n C dX10_isText_25 rfl ?_
      refine j_iload_n C dX10_isText_26 rfl ?_
      refine j_cVi C (c_X10_conditions _ _ _ _ _ (by assumption) (by omega)) yc_X10_conditions mn_X10_70 im_X10_conditions se_X10_conditions rfl rfl dX10_isText_27 rfl rfl (by assumption) (by decide) (Nat.le_of_ble_eq_true rfl) (by decide) ?_
      refine j_top (nI n) hc ?_
      refine j_icmp_ge C 79 dX10_isText_30 (by decide) (fun _ => ?_) (fun h => absurd (Int32.le_refl _) h)
      refine j_iload_n C dX10_isText_79 rfl ?_
      exact j_ireturn C E dX10_isText_80 ((zTx_B _ _ _ _ _).nar) (by decide) (by decide) (⟨rfl, rfl, rfl, rfl⟩)
  · skip
    refine j_iconst C (nI 1) dX10_isText_16 (by decide) ?_
    refine j_goto C 21 dX10_isText_17 (by decide) ?_
    refine j_top (zTx (M (m + 1)) (M (m + 3)) (nI (len + 1) / nI 4) t 0) (by simp [zTx, h13]) ?_
    refine j_istore_n C dX10_isText_21 (by rw [hxn]; decide) ?_
    refine j_iconst C (nI 0) dX10_isText_22 (by decide) ?_
    refine j_istore_n C dX10_isText_23 (by rw [hxn]; decide) ?_
    refine j_loop n (fun k => [(0, .ref m), (1, .int (nI t)), (2, .int (zTx (M (m + 1)) (M (m + 3)) (nI (len + 1) / nI 4) t k)), (3, .int (nI k))]) (fun _ => M) (fun _ => R) (fun _ => True) trivial (fun k hk _ ih => ?_) (fun _ => ?_)
    · skip
      refine j_iload_n C dX10_isText_24 rfl ?_
      refine j_aload_n C dX10_isText_25 rfl ?_
      refine j_iload_n C dX10_isText_26 rfl ?_
      refine j_cVi C (c_X10_conditions _ _ _ _ _ (by assumption) (by omega)) yc_X10_conditions mn_X10_70 im_X10_conditions se_X10_conditions rfl rfl dX10_isText_27 rfl rfl (by assumption) (by decide) (Nat.le_of_ble_eq_true rfl) (by decide) ?_
      refine j_top (nI n) hc ?_
      refine j_icmp_ge C 79 dX10_isText_30 (by decide) (fun h => absurd h (nI_ge hk (by omega))) (fun _ => ?_)
      refine j_iload_n C dX10_isText_33 rfl ?_
      refine j_if_eq C 79 dX10_isText_34 (by decide) (fun h34 => ?_) (fun h34 => ?_)
      · skip
        have hz := zTx_z (j := n - k) h34
        rw [show k + (n - k) = n by omega] at hz
        refine j_iload_n C dX10_isText_79 rfl ?_
        exact j_ireturn C E dX10_isText_80 (by rw [h34]; rfl) (by decide) (by decide) (⟨by rw [hz, h34], rfl, rfl, rfl⟩)
      · skip
        refine j_aload_n C dX10_isText_37 rfl ?_
        refine j_iload_n C dX10_isText_38 rfl ?_
        refine j_iload_n C dX10_isText_39 rfl ?_
        refine j_cVi C (c_X10_columnOf _ _ _ _ _ (by assumption) (by omega)) yc_X10_columnOf mn_X10_50 im_X10_columnOf se_X10_columnOf rfl rfl dX10_isText_40 rfl rfl (by assumption) (by decide) (Nat.le_of_ble_eq_true rfl) (by decide) ?_
        refine j_aload_n C dX10_isText_43 rfl ?_
        refine j_iload_n C dX10_isText_44 rfl ?_
        refine j_iconst C (nI 1) dX10_isText_45 (by decide) ?_
        refine j_cVi C (c_X10_meant1 _ ω γ M R g9 (show k < 4 by omega)) yc_X10_meant mn_X10_74 im_X10_meant se_X10_meant rfl rfl dX10_isText_46 rfl rfl (by assumption) (by decide) (Nat.le_of_ble_eq_true rfl) (by decide) ?_
        refine j_icmp_ne C 71 dX10_isText_49 (by decide) (fun h49 => ?_) (fun h49 => ?_)
        · skip
          refine j_iconst C (nI 0) dX10_isText_71 (by decide) ?_
          refine j_top (zTx (M (m + 1)) (M (m + 3)) (nI (len + 1) / nI 4) t (k + 1)) (by simp_all [zTx]) ?_
          refine j_istore_n C dX10_isText_72 (by rw [hxn]; decide) ?_
          first | refine j_iinc1 C dX10_isText_73 rfl (by rw [hxn]; decide) ?_ | refine j_iinc C _ dX10_isText_73 rfl rfl (by rw [hxn]; decide) ?_
          refine j_goto C 24 dX10_isText_76 (by decide) ?_
          exact ih trivial
        · skip
          refine j_aload_n C dX10_isText_52 rfl ?_
          refine j_iload_n C dX10_isText_53 rfl ?_
          refine j_iload_n C dX10_isText_54 rfl ?_
          refine j_cVi C (c_X10_operatorOf _ _ _ _ _ (by assumption) (by omega)) yc_X10_operatorOf mn_X10_78 im_X10_operatorOf se_X10_operatorOf rfl rfl dX10_isText_55 rfl rfl (by assumption) (by decide) (Nat.le_of_ble_eq_true rfl) (by decide) ?_
          refine j_aload_n C dX10_isText_58 rfl ?_
          refine j_iload_n C dX10_isText_59 rfl ?_
          refine j_iconst C (nI 0) dX10_isText_60 (by decide) ?_
          refine j_cVi C (c_X10_meant0 _ ω γ M R g9 (show k < 4 by omega)) yc_X10_meant mn_X10_74 im_X10_meant se_X10_meant rfl rfl dX10_isText_61 rfl rfl (by assumption) (by decide) (Nat.le_of_ble_eq_true rfl) (by decide) ?_
          refine j_icmp_ne C 71 dX10_isText_64 (by decide) (fun h64 => ?_) (fun h64 => ?_)
          · skip
            refine j_iconst C (nI 0) dX10_isText_71 (by decide) ?_
            refine j_top (zTx (M (m + 1)) (M (m + 3)) (nI (len + 1) / nI 4) t (k + 1)) (by simp_all [zTx]) ?_
            refine j_istore_n C dX10_isText_72 (by rw [hxn]; decide) ?_
            first | refine j_iinc1 C dX10_isText_73 rfl (by rw [hxn]; decide) ?_ | refine j_iinc C _ dX10_isText_73 rfl rfl (by rw [hxn]; decide) ?_
            refine j_goto C 24 dX10_isText_76 (by decide) ?_
            exact ih trivial
          · skip
            refine j_iconst C (nI 1) dX10_isText_67 (by decide) ?_
            refine j_goto C 72 dX10_isText_68 (by decide) ?_
            refine j_top (zTx (M (m + 1)) (M (m + 3)) (nI (len + 1) / nI 4) t (k + 1)) (by simp_all [zTx]) ?_
            refine j_istore_n C dX10_isText_72 (by rw [hxn]; decide) ?_
            first | refine j_iinc1 C dX10_isText_73 rfl (by rw [hxn]; decide) ?_ | refine j_iinc C _ dX10_isText_73 rfl rfl (by rw [hxn]; decide) ?_
            refine j_goto C 24 dX10_isText_76 (by decide) ?_
            exact ih trivial
    · skip
      refine j_iload_n C dX10_isText_24 rfl ?_
      refine j_aload_n C dX10_isText_25 rfl ?_
      refine j_iload_n C dX10_isText_26 rfl ?_
      refine j_cVi C (c_X10_conditions _ _ _ _ _ (by assumption) (by omega)) yc_X10_conditions mn_X10_70 im_X10_conditions se_X10_conditions rfl rfl dX10_isText_27 rfl rfl (by assumption) (by decide) (Nat.le_of_ble_eq_true rfl) (by decide) ?_
      refine j_top (nI n) hc ?_
      refine j_icmp_ge C 79 dX10_isText_30 (by decide) (fun _ => ?_) (fun h => absurd (Int32.le_refl _) h)
      refine j_iload_n C dX10_isText_79 rfl ?_
      exact j_ireturn C E dX10_isText_80 ((zTx_B _ _ _ _ _).nar) (by decide) (by decide) (⟨rfl, rfl, rfl, rfl⟩)

set_option maxHeartbeats 4000000 in
set_option maxRecDepth 100000 in
theorem c_X10_type (l : Launch) (ω : jW) (γ : jG) (M : jM) (R : jR) {m : Nat} (g : gM ω γ m) {len : Nat} (hl : M m 4 = nI len) (hl30 : len ≤ 30) (x : Int32) : Ct l ω yX10_type cX10_type 2 (some .int) 2 0 0 [.ref m, .int x] γ M R (jx γ (some (.int (zfType len x))) (zmType M m len x) R) := by
  refine Ct_of (by decide) (Nat.le_of_ble_eq_true rfl) rfl (jcat_of rfl) ?_
  intro X C E hnm hxl hxn
  subst hxl
  have g9 := g
  obtain ⟨g0, g1, g2, g3, g4, g5, g6, g7, g8⟩ := g
  refine j_iload_n C dX10_type_0 rfl ?_
  refine j_bipush C (nI 32) dX10_type_1 (by decide) ?_
  refine j_bipush C (nI 126) dX10_type_3 (by decide) ?_
  refine j_cSi C (c_X10_in _ _ _ _ _ _ _ _) yc_X10_in mn_X10_26 st_X10_in dX10_type_5 rfl rfl (Nat.le_of_ble_eq_true rfl) (by decide) ?_
  refine j_if_ne C 13 dX10_type_8 (by decide) (fun h8 => ?_) (fun h8 => ?_)
  · skip
    refine j_aload_n C dX10_type_13 rfl ?_
    refine j_getI C fl_X10_64 (by assumption) dX10_type_14 (by decide) rfl ?_
    refine j_top (nI len) hl ?_
    refine j_bipush C (nI 30) dX10_type_17 (by decide) ?_
    refine j_icmp_ne C 25 dX10_type_19 (by decide) (fun h19 => ?_) (fun h19 => ?_)
    · skip
      have hlt : len < 30 := by have h : ¬ len = 30 := fun q => h19 (by rw [q]); omega
      refine j_aload_n C dX10_type_25 rfl ?_
      refine j_getR C fl_X10_16 (by assumption) dX10_type_26 (by decide) rfl (by assumption) ?_
      refine j_aload_n C dX10_type_29 rfl ?_
      refine j_getI C fl_X10_64 (by assumption) dX10_type_30 (by decide) rfl ?_
      refine j_top (nI len) hl ?_
      refine j_iload_n C dX10_type_33 rfl ?_
      refine j_iastN C (by assumption) dX10_type_34 (by omega) (by decide) ?_
      refine j_aload_n C dX10_type_35 rfl ?_
      refine j_dup C dX10_type_36 rfl ?_
      refine j_getI C fl_X10_64 (by assumption) dX10_type_37 (by decide) rfl ?_
      refine j_top (nI len) (by rw [jup_row _ _ (by omega)]; exact hl) ?_
      refine j_iconst C (nI 1) dX10_type_40 (by decide) ?_
      first | with_reducible refine j_iaddN C dX10_type_41 ?_ | refine j_iadd C dX10_type_41 ?_
      refine j_putI C fl_X10_64 (by assumption) dX10_type_42 (by decide) rfl (rfl) (rfl) ?_
      refine j_aload_n C dX10_type_45 rfl ?_
      refine j_getI C fl_X10_64 (by assumption) dX10_type_46 (by decide) rfl ?_
      refine j_top (nI (len + 1)) (jup_eq _ _ _ _) ?_
      exact j_ireturn C E dX10_type_49 (rfl) (by decide) (by decide) (⟨by simp only [zfType, if_neg h8, if_neg h19], rfl, by simp only [zmType, if_neg h8, if_neg h19], rfl⟩)
    · skip
      refine j_bipush C (-3) dX10_type_22 (by decide) ?_
      exact j_ireturn C E dX10_type_24 (rfl) (by decide) (by decide) (⟨by simp only [zfType, if_neg h8, if_pos h19], rfl, by simp only [zmType, if_neg h8, if_pos h19], rfl⟩)
  · skip
    refine j_iconst C (-1) dX10_type_11 (by decide) ?_
    exact j_ireturn C E dX10_type_12 (rfl) (by decide) (by decide) (⟨by simp only [zfType, if_pos h8], rfl, by simp only [zmType, if_pos h8], rfl⟩)

set_option maxHeartbeats 4000000 in
set_option maxRecDepth 100000 in
theorem c_X10_clearText (l : Launch) (ω : jW) (γ : jG) (M : jM) (R : jR) {m : Nat} (g : gM ω γ m)  : Ct l ω yX10_clearText cX10_clearText 2 (some .int) 1 0 0 [.ref m] γ M R (jx γ (some (.int (M m 4))) (jup M m 4 (nI 0)) R) := by
  refine Ct_of (by decide) (Nat.le_of_ble_eq_true rfl) rfl (jcat_of rfl) ?_
  intro X C E hnm hxl hxn
  subst hxl
  have g9 := g
  obtain ⟨g0, g1, g2, g3, g4, g5, g6, g7, g8⟩ := g
  refine j_aload_n C dX10_clearText_0 rfl ?_
  refine j_getI C fl_X10_64 (by assumption) dX10_clearText_1 (by decide) rfl ?_
  refine j_istore_n C dX10_clearText_4 (by rw [hxn]; decide) ?_
  refine j_aload_n C dX10_clearText_5 rfl ?_
  refine j_iconst C (nI 0) dX10_clearText_6 (by decide) ?_
  refine j_putI C fl_X10_64 (by assumption) dX10_clearText_7 (by decide) rfl (rfl) (rfl) ?_
  refine j_iload_n C dX10_clearText_10 rfl ?_
  exact j_ireturn C E dX10_clearText_11 (rfl) (by decide) (by decide) (⟨rfl, rfl, rfl, rfl⟩)
