set_option maxHeartbeats 4000000 in
set_option maxRecDepth 100000 in
theorem c_X10_changes (l : Launch) (ω : jW) (γ : jG) (M : jM) (R : jR) {m : Nat} (g : gM ω γ m) {np : Nat} (hp : M m 2 = nI np) (hp4 : np ≤ 4)  : Ct l ω yX10_changes cX10_changes 2 none 1 0 0 [.ref m] γ M R (jx γ none (mChg M m np) R) := by
  refine Ct_of (by decide) (Nat.le_of_ble_eq_true rfl) rfl (jcat_of rfl) ?_
  intro X C E hnm hxl hxn
  subst hxl
  have g9 := g
  obtain ⟨g0, g1, g2, g3, g4, g5, g6, g7, g8⟩ := g
  refine j_aload_n C dX10_changes_0 rfl ?_
  refine j_getI C fl_X10_22 (by assumption) dX10_changes_1 (by decide) rfl ?_
  refine j_iconst C (nI 4) dX10_changes_4 (by decide) ?_
  refine j_top (nI np) hp ?_
  refine j_icmp_ne C 49 dX10_changes_5 (by decide) (fun h5 => ?_) (fun h5 => ?_)
  · skip
    have e9 : ¬ np = 4 := fun q => h5 (by rw [q])
    obtain ⟨M0, n0, hM0, hp0, hn0, hF⟩ : ∃ M0 n0, M = M0 ∧ M0 m 2 = nI n0 ∧ n0 ≤ 3 ∧ mChg M m np = jup (zCp M0 m n0 439) m 2 (nI (n0 + 1)) := ⟨M, np, rfl, hp, by omega, by rw [mChg, if_neg e9]⟩
    refine j_mem M0 hM0 ?_
    refine j_iconst C (nI 0) dX10_changes_49 (by decide) ?_
    refine j_istore_n C dX10_changes_50 (by rw [hxn]; decide) ?_
    rw [show J X ω γ M0 R = J X ω γ (zCp M0 m n0 0) R from by rw [zCp_0]]
    first | skip | skip
    refine j_loop 439 (fun k => [(0, .ref m), (1, .int (nI k))]) (fun k => zCp M0 m n0 k) (fun _ => R) (fun _ => True) trivial (fun k hk _ ih => ?_) (fun _ => ?_)
    · skip
      refine j_iload_n C dX10_changes_51 rfl ?_
      refine j_sipush C (nI 439) dX10_changes_52 (by decide) ?_
      refine j_icmp_ge C 85 dX10_changes_55 (by decide) (fun h => absurd h (nI_ge hk (by decide))) (fun _ => ?_)
      refine j_aload_n C dX10_changes_58 rfl ?_
      refine j_getR C fl_X10_13 (by assumption) dX10_changes_59 (by decide) rfl (by assumption) ?_
      refine j_sipush C (nI 439) dX10_changes_62 (by decide) ?_
      refine j_aload_n C dX10_changes_65 rfl ?_
      refine j_getI C fl_X10_22 (by assumption) dX10_changes_66 (by decide) rfl ?_
      refine j_top (nI n0) (by rw [zCp_o _ (by omega)]; exact hp0) ?_
      first | with_reducible refine j_imulN C dX10_changes_69 ?_ | refine j_imul C dX10_changes_69 ?_
      refine j_iload_n C dX10_changes_70 rfl ?_
      first | with_reducible refine j_iaddN C dX10_changes_71 ?_ | refine j_iadd C dX10_changes_71 ?_
      refine j_aload_n C dX10_changes_72 rfl ?_
      refine j_getR C fl_X10_7 (by assumption) dX10_changes_73 (by decide) rfl (by assumption) ?_
      refine j_iload_n C dX10_changes_76 rfl ?_
      refine j_ialdN C (by assumption) dX10_changes_77 (by omega) (by decide) ?_
      refine j_iastN C (by assumption) dX10_changes_78 (by omega) (by decide) ?_
      rw [zCp_s]
      first | refine j_iinc1 C dX10_changes_79 rfl (by rw [hxn]; decide) ?_ | refine j_iinc C _ dX10_changes_79 rfl rfl (by rw [hxn]; decide) ?_
      refine j_goto C 51 dX10_changes_82 (by decide) ?_
      exact ih trivial
    · skip
      refine j_iload_n C dX10_changes_51 rfl ?_
      refine j_sipush C (nI 439) dX10_changes_52 (by decide) ?_
      refine j_icmp_ge C 85 dX10_changes_55 (by decide) (fun _ => ?_) (fun h => absurd (Int32.le_refl _) h)
      refine j_aload_n C dX10_changes_85 rfl ?_
      refine j_dup C dX10_changes_86 rfl ?_
      refine j_getI C fl_X10_22 (by assumption) dX10_changes_87 (by decide) rfl ?_
      refine j_top (nI n0) (by rw [zCp_o _ (by omega)]; exact hp0) ?_
      refine j_iconst C (nI 1) dX10_changes_90 (by decide) ?_
      first | with_reducible refine j_iaddN C dX10_changes_91 ?_ | refine j_iadd C dX10_changes_91 ?_
      refine j_putI C fl_X10_22 (by assumption) dX10_changes_92 (by decide) rfl (rfl) (rfl) ?_
      exact j_return C E dX10_changes_95 (by decide) (by decide) (⟨rfl, rfl, hF.symm, rfl⟩)
  · skip
    have e9 : np = 4 := (by decide : ∀ x : Fin 5, nI x.val = nI 4 → x.val = 4) ⟨np, by omega⟩ h5
    refine j_iconst C (nI 0) dX10_changes_8 (by decide) ?_
    refine j_istore_n C dX10_changes_9 (by rw [hxn]; decide) ?_
    rw [show J X ω γ M R = J X ω γ (zSh M m 0) R from by rw [zSh_0]]
    refine j_loop 1317 (fun k => [(0, .ref m), (1, .int (nI k))]) (fun k => zSh M m k) (fun _ => R) (fun _ => True) trivial (fun k hk _ ih => ?_) (fun _ => ?_)
    · skip
      refine j_iload_n C dX10_changes_10 rfl ?_
      refine j_sipush C (nI 1317) dX10_changes_11 (by decide) ?_
      refine j_icmp_ge C 39 dX10_changes_14 (by decide) (fun h => absurd h (nI_ge hk (by decide))) (fun _ => ?_)
      refine j_aload_n C dX10_changes_17 rfl ?_
      refine j_getR C fl_X10_13 (by assumption) dX10_changes_18 (by decide) rfl (by assumption) ?_
      refine j_iload_n C dX10_changes_21 rfl ?_
      refine j_aload_n C dX10_changes_22 rfl ?_
      refine j_getR C fl_X10_13 (by assumption) dX10_changes_23 (by decide) rfl (by assumption) ?_
      refine j_iload_n C dX10_changes_26 rfl ?_
      refine j_sipush C (nI 439) dX10_changes_27 (by decide) ?_
      first | with_reducible refine j_iaddN C dX10_changes_30 ?_ | refine j_iadd C dX10_changes_30 ?_
      refine j_ialdN C (by assumption) dX10_changes_31 (by omega) (by decide) ?_
      refine j_iastN C (by assumption) dX10_changes_32 (by omega) (by decide) ?_
      rw [zSh_s]
      first | refine j_iinc1 C dX10_changes_33 rfl (by rw [hxn]; decide) ?_ | refine j_iinc C _ dX10_changes_33 rfl rfl (by rw [hxn]; decide) ?_
      refine j_goto C 10 dX10_changes_36 (by decide) ?_
      exact ih trivial
    · skip
      refine j_iload_n C dX10_changes_10 rfl ?_
      refine j_sipush C (nI 1317) dX10_changes_11 (by decide) ?_
      refine j_icmp_ge C 39 dX10_changes_14 (by decide) (fun _ => ?_) (fun h => absurd (Int32.le_refl _) h)
      refine j_aload_n C dX10_changes_39 rfl ?_
      refine j_dup C dX10_changes_40 rfl ?_
      refine j_getI C fl_X10_22 (by assumption) dX10_changes_41 (by decide) rfl ?_
      refine j_top (nI 4) (by rw [zSh_o _ (by omega)]; exact hp.trans h5) ?_
      refine j_iconst C (nI 1) dX10_changes_44 (by decide) ?_
      refine j_isubN C dX10_changes_45 (by decide) ?_
      refine j_putI C fl_X10_22 (by assumption) dX10_changes_46 (by decide) rfl (rfl) (rfl) ?_
      obtain ⟨M0, n0, hM0, hp0, hn0, hF⟩ : ∃ M0 n0, jup (zSh M m 1317) m 2 (nI (4 - 1)) = M0 ∧ M0 m 2 = nI n0 ∧ n0 ≤ 3 ∧ mChg M m np = jup (zCp M0 m n0 439) m 2 (nI (n0 + 1)) := ⟨_, 3, rfl, jup_eq _ _ _ _, by decide, by rw [mChg, if_pos e9]⟩
      refine j_mem M0 hM0 ?_
      refine j_iconst C (nI 0) dX10_changes_49 (by decide) ?_
      refine j_istore_n C dX10_changes_50 (by rw [hxn]; decide) ?_
      rw [show J X ω γ M0 R = J X ω γ (zCp M0 m n0 0) R from by rw [zCp_0]]
      first | skip | skip
      refine j_loop 439 (fun k => [(0, .ref m), (1, .int (nI k))]) (fun k => zCp M0 m n0 k) (fun _ => R) (fun _ => True) trivial (fun k hk _ ih => ?_) (fun _ => ?_)
      · skip
        refine j_iload_n C dX10_changes_51 rfl ?_
        refine j_sipush C (nI 439) dX10_changes_52 (by decide) ?_
        refine j_icmp_ge C 85 dX10_changes_55 (by decide) (fun h => absurd h (nI_ge hk (by decide))) (fun _ => ?_)
        refine j_aload_n C dX10_changes_58 rfl ?_
        refine j_getR C fl_X10_13 (by assumption) dX10_changes_59 (by decide) rfl (by assumption) ?_
        refine j_sipush C (nI 439) dX10_changes_62 (by decide) ?_
        refine j_aload_n C dX10_changes_65 rfl ?_
        refine j_getI C fl_X10_22 (by assumption) dX10_changes_66 (by decide) rfl ?_
        refine j_top (nI n0) (by rw [zCp_o _ (by omega)]; exact hp0) ?_
        first | with_reducible refine j_imulN C dX10_changes_69 ?_ | refine j_imul C dX10_changes_69 ?_
        refine j_iload_n C dX10_changes_70 rfl ?_
        first | with_reducible refine j_iaddN C dX10_changes_71 ?_ | refine j_iadd C dX10_changes_71 ?_
        refine j_aload_n C dX10_changes_72 rfl ?_
        refine j_getR C fl_X10_7 (by assumption) dX10_changes_73 (by decide) rfl (by assumption) ?_
        refine j_iload_n C dX10_changes_76 rfl ?_
        refine j_ialdN C (by assumption) dX10_changes_77 (by omega) (by decide) ?_
        refine j_iastN C (by assumption) dX10_changes_78 (by omega) (by decide) ?_
        rw [zCp_s]
        first | refine j_iinc1 C dX10_changes_79 rfl (by rw [hxn]; decide) ?_ | refine j_iinc C _ dX10_changes_79 rfl rfl (by rw [hxn]; decide) ?_
        refine j_goto C 51 dX10_changes_82 (by decide) ?_
        exact ih trivial
      · skip
        refine j_iload_n C dX10_changes_51 rfl ?_
        refine j_sipush C (nI 439) dX10_changes_52 (by decide) ?_
        refine j_icmp_ge C 85 dX10_changes_55 (by decide) (fun _ => ?_) (fun h => absurd (Int32.le_refl _) h)
        refine j_aload_n C dX10_changes_85 rfl ?_
        refine j_dup C dX10_changes_86 rfl ?_
        refine j_getI C fl_X10_22 (by assumption) dX10_changes_87 (by decide) rfl ?_
        refine j_top (nI n0) (by rw [zCp_o _ (by omega)]; exact hp0) ?_
        refine j_iconst C (nI 1) dX10_changes_90 (by decide) ?_
        first | with_reducible refine j_iaddN C dX10_changes_91 ?_ | refine j_iadd C dX10_changes_91 ?_
        refine j_putI C fl_X10_22 (by assumption) dX10_changes_92 (by decide) rfl (rfl) (rfl) ?_
        exact j_return C E dX10_changes_95 (by decide) (by decide) (⟨rfl, rfl, hF.symm, rfl⟩)

set_option maxHeartbeats 4000000 in
set_option maxRecDepth 100000 in
theorem c_X10_takesOut (l : Launch) (ω : jW) (γ : jG) (M : jM) (R : jR) {m : Nat} (g : gM ω γ m) {n : Nat} (hn : M (m + 1) 4 = nI n) (hn8 : n ≤ 8) {p : Nat} (hpn : p < n) : Ct l ω yX10_takesOut cX10_takesOut 3 none 1 0 0 [.ref m, .int (nI p)] γ M R (jx γ none (mOut M m n p) R) := by
  refine Ct_of (by decide) (Nat.le_of_ble_eq_true rfl) rfl (jcat_of rfl) ?_
  intro X C E hnm hxl hxn
  subst hxl
  have g9 := g
  obtain ⟨g0, g1, g2, g3, g4, g5, g6, g7, g8⟩ := g
  refine j_aload_n C dX10_takesOut_0 rfl ?_
  refine j_getR C fl_X10_7 (by assumption) dX10_takesOut_1 (by decide) rfl (by assumption) ?_
  refine j_iconst C (nI 4) dX10_takesOut_4 (by decide) ?_
  refine j_dup2 C dX10_takesOut_5 rfl rfl ?_
  refine j_ialdN C (by assumption) dX10_takesOut_6 (by omega) (by decide) ?_
  refine j_top (nI n) hn ?_
  refine j_iconst C (nI 1) dX10_takesOut_7 (by decide) ?_
  refine j_isubN C dX10_takesOut_8 (by omega) ?_
  refine j_iastN C (by assumption) dX10_takesOut_9 (by omega) (by decide) ?_
  rw [zTo_0 M m 4 9 (n - 1) (367 + 9 * p)]
  refine j_sipush C (nI 367) dX10_takesOut_10 (by decide) ?_
  refine j_bipush C (nI 9) dX10_takesOut_13 (by decide) ?_
  refine j_iload_n C dX10_takesOut_15 rfl ?_
  first | with_reducible refine j_imulN C dX10_takesOut_16 ?_ | refine j_imul C dX10_takesOut_16 ?_
  first | with_reducible refine j_iaddN C dX10_takesOut_17 ?_ | refine j_iadd C dX10_takesOut_17 ?_
  refine j_istore_n C dX10_takesOut_18 (by rw [hxn]; decide) ?_
  refine j_loop (9 * (n - 1 - p)) (fun j => [(0, .ref m), (1, .int (nI p)), (2, .int (nI (367 + 9 * p + j)))]) (fun j => zTo M m 4 9 (n - 1) (367 + 9 * p) j) (fun _ => R) (fun _ => True) trivial (fun j hj _ ih => ?_) (fun _ => ?_)
  · skip
    refine j_iload_n C dX10_takesOut_19 rfl ?_
    refine j_sipush C (nI 367) dX10_takesOut_20 (by decide) ?_
    refine j_bipush C (nI 9) dX10_takesOut_23 (by decide) ?_
    refine j_aload_n C dX10_takesOut_25 rfl ?_
    refine j_getR C fl_X10_7 (by assumption) dX10_takesOut_26 (by decide) rfl (by assumption) ?_
    refine j_iconst C (nI 4) dX10_takesOut_29 (by decide) ?_
    refine j_ialdN C (by assumption) dX10_takesOut_30 (by omega) (by decide) ?_
    refine j_top (nI (n - 1)) (zTo_c _ _ _ _ _ _ _) ?_
    first | with_reducible refine j_imulN C dX10_takesOut_31 ?_ | refine j_imul C dX10_takesOut_31 ?_
    first | with_reducible refine j_iaddN C dX10_takesOut_32 ?_ | refine j_iadd C dX10_takesOut_32 ?_
    refine j_icmp_ge C 57 dX10_takesOut_33 (by decide) (fun h => absurd h (nI_ge (show 367 + 9 * p + j < 367 + 9 * (n - 1) by omega) (by omega))) (fun _ => ?_)
    refine j_aload_n C dX10_takesOut_36 rfl ?_
    refine j_getR C fl_X10_7 (by assumption) dX10_takesOut_37 (by decide) rfl (by assumption) ?_
    refine j_iload_n C dX10_takesOut_40 rfl ?_
    refine j_aload_n C dX10_takesOut_41 rfl ?_
    refine j_getR C fl_X10_7 (by assumption) dX10_takesOut_42 (by decide) rfl (by assumption) ?_
    refine j_iload_n C dX10_takesOut_45 rfl ?_
    refine j_bipush C (nI 9) dX10_takesOut_46 (by decide) ?_
    first | with_reducible refine j_iaddN C dX10_takesOut_48 ?_ | refine j_iadd C dX10_takesOut_48 ?_
    refine j_ialdN C (by assumption) dX10_takesOut_49 (by omega) (by decide) ?_
    refine j_iastN C (by assumption) dX10_takesOut_50 (by omega) (by decide) ?_
    rw [zTo_s M (show 4 < 367 + 9 * p by omega) (by decide)]
    first | refine j_iinc1 C dX10_takesOut_51 rfl (by rw [hxn]; decide) ?_ | refine j_iinc C _ dX10_takesOut_51 rfl rfl (by rw [hxn]; decide) ?_
    refine j_goto C 19 dX10_takesOut_54 (by decide) ?_
    exact ih trivial
  · skip
    refine j_iload_n C dX10_takesOut_19 rfl ?_
    refine j_sipush C (nI 367) dX10_takesOut_20 (by decide) ?_
    refine j_bipush C (nI 9) dX10_takesOut_23 (by decide) ?_
    refine j_aload_n C dX10_takesOut_25 rfl ?_
    refine j_getR C fl_X10_7 (by assumption) dX10_takesOut_26 (by decide) rfl (by assumption) ?_
    refine j_iconst C (nI 4) dX10_takesOut_29 (by decide) ?_
    refine j_ialdN C (by assumption) dX10_takesOut_30 (by omega) (by decide) ?_
    refine j_top (nI (n - 1)) (zTo_c _ _ _ _ _ _ _) ?_
    first | with_reducible refine j_imulN C dX10_takesOut_31 ?_ | refine j_imul C dX10_takesOut_31 ?_
    first | with_reducible refine j_iaddN C dX10_takesOut_32 ?_ | refine j_iadd C dX10_takesOut_32 ?_
    refine j_icmp_ge C 57 dX10_takesOut_33 (by decide) (fun _ => ?_) (fun h => absurd (by rw [show 367 + 9 * p + 9 * (n - 1 - p) = 367 + 9 * (n - 1) by omega]; exact Int32.le_refl _) h)
    exact j_return C E dX10_takesOut_57 (by decide) (by decide) (⟨rfl, rfl, rfl, rfl⟩)

set_option maxHeartbeats 4000000 in
set_option maxRecDepth 100000 in
theorem c_X10_row (l : Launch) (ω : jW) (γ : jG) (M : jM) (R : jR) {m : Nat} (g : gM ω γ m) {r : Nat} (hr : M (m + 1) 0 = nI r) (hr30 : r ≤ 30) {np : Nat} (hp : M m 2 = nI np) (hp4 : np ≤ 4) (a b c d w : Int32) : Ct l ω yX10_row cX10_row 7 (some .int) 3 0 0 [.ref m, .int a, .int b, .int c, .int d, .int w] γ M R (jx γ (some (.int (zfRow r a b c d w))) (zmRow M m np r a b c d w) R) := by
  refine Ct_of (by decide) (Nat.le_of_ble_eq_true rfl) rfl (jcat_of rfl) ?_
  intro X C E hnm hxl hxn
  subst hxl
  have g9 := g
  obtain ⟨g0, g1, g2, g3, g4, g5, g6, g7, g8⟩ := g
  have eS : mChg M m np (m + 1) = M (m + 1) := mChg_o M (by omega) (by omega)
  refine j_iload_n C dX10_row_0 rfl ?_
  refine j_cSi C (c_X10_isValue _ _ _ _ _ _) yc_X10_isValue mn_X10_30 st_X10_isValue dX10_row_1 rfl rfl (Nat.le_of_ble_eq_true rfl) (by decide) ?_
  refine j_if_eq C 41 dX10_row_4 (by decide) (fun h4 => ?_) (fun h4 => ?_)
  · skip
    refine j_iconst C (-1) dX10_row_41 (by decide) ?_
    exact j_ireturn C E dX10_row_42 (rfl) (by decide) (by decide) (⟨by first | (simp_all [zfRow, zNo]; done) | skip, rfl, by first | (simp_all [zmRow, zNo, mRowX]; done) | skip, rfl⟩)
  · skip
    refine j_iload_n C dX10_row_7 rfl ?_
    refine j_cSi C (c_X10_isValue _ _ _ _ _ _) yc_X10_isValue mn_X10_30 st_X10_isValue dX10_row_8 rfl rfl (Nat.le_of_ble_eq_true rfl) (by decide) ?_
    refine j_if_eq C 41 dX10_row_11 (by decide) (fun h11 => ?_) (fun h11 => ?_)
    · skip
      refine j_iconst C (-1) dX10_row_41 (by decide) ?_
      exact j_ireturn C E dX10_row_42 (rfl) (by decide) (by decide) (⟨by first | (simp_all [zfRow, zNo]; done) | skip, rfl, by first | (simp_all [zmRow, zNo, mRowX]; done) | skip, rfl⟩)
    · skip
      refine j_iload_n C dX10_row_14 rfl ?_
      refine j_cSi C (c_X10_isValue _ _ _ _ _ _) yc_X10_isValue mn_X10_30 st_X10_isValue dX10_row_15 rfl rfl (Nat.le_of_ble_eq_true rfl) (by decide) ?_
      refine j_if_eq C 41 dX10_row_18 (by decide) (fun h18 => ?_) (fun h18 => ?_)
      · skip
        refine j_iconst C (-1) dX10_row_41 (by decide) ?_
        exact j_ireturn C E dX10_row_42 (rfl) (by decide) (by decide) (⟨by first | (simp_all [zfRow, zNo]; done) | skip, rfl, by first | (simp_all [zmRow, zNo, mRowX]; done) | skip, rfl⟩)
      · skip
        refine j_iload C dX10_row_21 rfl ?_
        refine j_cSi C (c_X10_isValue _ _ _ _ _ _) yc_X10_isValue mn_X10_30 st_X10_isValue dX10_row_23 rfl rfl (Nat.le_of_ble_eq_true rfl) (by decide) ?_
        refine j_if_eq C 41 dX10_row_26 (by decide) (fun h26 => ?_) (fun h26 => ?_)
        · skip
          refine j_iconst C (-1) dX10_row_41 (by decide) ?_
          exact j_ireturn C E dX10_row_42 (rfl) (by decide) (by decide) (⟨by first | (simp_all [zfRow, zNo]; done) | skip, rfl, by first | (simp_all [zmRow, zNo, mRowX]; done) | skip, rfl⟩)
        · skip
          refine j_iload C dX10_row_29 rfl ?_
          refine j_iconst C (nI 1) dX10_row_31 (by decide) ?_
          refine j_sipush C (nI 999) dX10_row_32 (by decide) ?_
          refine j_cSi C (c_X10_in _ _ _ _ _ _ _ _) yc_X10_in mn_X10_26 st_X10_in dX10_row_35 rfl rfl (Nat.le_of_ble_eq_true rfl) (by decide) ?_
          refine j_if_ne C 43 dX10_row_38 (by decide) (fun h38 => ?_) (fun h38 => ?_)
          · skip
            refine j_aload_n C dX10_row_43 rfl ?_
            refine j_getR C fl_X10_7 (by assumption) dX10_row_44 (by decide) rfl (by assumption) ?_
            refine j_iconst C (nI 0) dX10_row_47 (by decide) ?_
            refine j_ialdN C (by assumption) dX10_row_48 (by omega) (by decide) ?_
            refine j_top (nI r) hr ?_
            refine j_istore C dX10_row_49 (by rw [hxn]; decide) ?_
            refine j_iload C dX10_row_51 rfl ?_
            refine j_bipush C (nI 30) dX10_row_53 (by decide) ?_
            refine j_icmp_ne C 61 dX10_row_55 (by decide) (fun h55 => ?_) (fun h55 => ?_)
            · skip
              refine j_aload_n C dX10_row_61 rfl ?_
              refine j_cVv C (c_X10_changes _ ω γ M R g9 hp hp4) yc_X10_changes mn_X10_34 im_X10_changes se_X10_changes rfl rfl dX10_row_62 rfl rfl (by assumption) (by decide) (Nat.le_of_ble_eq_true rfl) (by decide) ?_
              refine j_aload_n C dX10_row_65 rfl ?_
              refine j_getR C fl_X10_7 (by assumption) dX10_row_66 (by decide) rfl (by assumption) ?_
              refine j_bipush C (nI 29) dX10_row_69 (by decide) ?_
              refine j_iconst C (nI 5) dX10_row_71 (by decide) ?_
              refine j_iload C dX10_row_72 rfl ?_
              first | with_reducible refine j_imulN C dX10_row_74 ?_ | refine j_imul C dX10_row_74 ?_
              first | with_reducible refine j_iaddN C dX10_row_75 ?_ | refine j_iadd C dX10_row_75 ?_
              refine j_iload_n C dX10_row_76 rfl ?_
              refine j_iastN C (by assumption) dX10_row_77 (by omega) (by decide) ?_
              refine j_aload_n C dX10_row_78 rfl ?_
              refine j_getR C fl_X10_7 (by assumption) dX10_row_79 (by decide) rfl (by assumption) ?_
              refine j_bipush C (nI 29) dX10_row_82 (by decide) ?_
              refine j_iconst C (nI 5) dX10_row_84 (by decide) ?_
              refine j_iload C dX10_row_85 rfl ?_
              first | with_reducible refine j_imulN C dX10_row_87 ?_ | refine j_imul C dX10_row_87 ?_
              first | with_reducible refine j_iaddN C dX10_row_88 ?_ | refine j_iadd C dX10_row_88 ?_
              refine j_iconst C (nI 1) dX10_row_89 (by decide) ?_
              first | with_reducible refine j_iaddN C dX10_row_90 ?_ | refine j_iadd C dX10_row_90 ?_
              refine j_iload_n C dX10_row_91 rfl ?_
              refine j_iastN C (by assumption) dX10_row_92 (by omega) (by decide) ?_
              refine j_aload_n C dX10_row_93 rfl ?_
              refine j_getR C fl_X10_7 (by assumption) dX10_row_94 (by decide) rfl (by assumption) ?_
              refine j_bipush C (nI 29) dX10_row_97 (by decide) ?_
              refine j_iconst C (nI 5) dX10_row_99 (by decide) ?_
              refine j_iload C dX10_row_100 rfl ?_
              first | with_reducible refine j_imulN C dX10_row_102 ?_ | refine j_imul C dX10_row_102 ?_
              first | with_reducible refine j_iaddN C dX10_row_103 ?_ | refine j_iadd C dX10_row_103 ?_
              refine j_iconst C (nI 2) dX10_row_104 (by decide) ?_
              first | with_reducible refine j_iaddN C dX10_row_105 ?_ | refine j_iadd C dX10_row_105 ?_
              refine j_iload_n C dX10_row_106 rfl ?_
              refine j_iastN C (by assumption) dX10_row_107 (by omega) (by decide) ?_
              refine j_aload_n C dX10_row_108 rfl ?_
              refine j_getR C fl_X10_7 (by assumption) dX10_row_109 (by decide) rfl (by assumption) ?_
              refine j_bipush C (nI 29) dX10_row_112 (by decide) ?_
              refine j_iconst C (nI 5) dX10_row_114 (by decide) ?_
              refine j_iload C dX10_row_115 rfl ?_
              first | with_reducible refine j_imulN C dX10_row_117 ?_ | refine j_imul C dX10_row_117 ?_
              first | with_reducible refine j_iaddN C dX10_row_118 ?_ | refine j_iadd C dX10_row_118 ?_
              refine j_iconst C (nI 3) dX10_row_119 (by decide) ?_
              first | with_reducible refine j_iaddN C dX10_row_120 ?_ | refine j_iadd C dX10_row_120 ?_
              refine j_iload C dX10_row_121 rfl ?_
              refine j_iastN C (by assumption) dX10_row_123 (by omega) (by decide) ?_
              refine j_aload_n C dX10_row_124 rfl ?_
              refine j_getR C fl_X10_7 (by assumption) dX10_row_125 (by decide) rfl (by assumption) ?_
              refine j_bipush C (nI 29) dX10_row_128 (by decide) ?_
              refine j_iconst C (nI 5) dX10_row_130 (by decide) ?_
              refine j_iload C dX10_row_131 rfl ?_
              first | with_reducible refine j_imulN C dX10_row_133 ?_ | refine j_imul C dX10_row_133 ?_
              first | with_reducible refine j_iaddN C dX10_row_134 ?_ | refine j_iadd C dX10_row_134 ?_
              refine j_iconst C (nI 4) dX10_row_135 (by decide) ?_
              first | with_reducible refine j_iaddN C dX10_row_136 ?_ | refine j_iadd C dX10_row_136 ?_
              refine j_iload C dX10_row_137 rfl ?_
              refine j_iastN C (by assumption) dX10_row_139 (by omega) (by decide) ?_
              refine j_aload_n C dX10_row_140 rfl ?_
              refine j_getR C fl_X10_7 (by assumption) dX10_row_141 (by decide) rfl (by assumption) ?_
              refine j_iconst C (nI 0) dX10_row_144 (by decide) ?_
              refine j_dup2 C dX10_row_145 rfl rfl ?_
              refine j_ialdN C (by assumption) dX10_row_146 (by omega) (by decide) ?_
              refine j_top (nI r) (by simp only [jup]; rw [if_neg (by omega), if_neg (by omega), if_neg (by omega), if_neg (by omega), if_neg (by omega), eS]; exact hr) ?_
              refine j_iconst C (nI 1) dX10_row_147 (by decide) ?_
              first | with_reducible refine j_iaddN C dX10_row_148 ?_ | refine j_iadd C dX10_row_148 ?_
              refine j_iastN C (by assumption) dX10_row_149 (by omega) (by decide) ?_
              refine j_iload C dX10_row_150 rfl ?_
              exact j_ireturn C E dX10_row_152 (rfl) (by decide) (by decide) (⟨by first | (simp_all [zfRow, zNo]; done) | skip, rfl, by first | (simp_all [zmRow, zNo, mRowX]; done) | skip, rfl⟩)
            · skip
              refine j_bipush C (-3) dX10_row_58 (by decide) ?_
              exact j_ireturn C E dX10_row_60 (rfl) (by decide) (by decide) (⟨by first | (simp_all [zfRow, zNo]; done) | skip, rfl, by first | (simp_all [zmRow, zNo, mRowX]; done) | skip, rfl⟩)
          · skip
            refine j_iconst C (-1) dX10_row_41 (by decide) ?_
            exact j_ireturn C E dX10_row_42 (rfl) (by decide) (by decide) (⟨by first | (simp_all [zfRow, zNo]; done) | skip, rfl, by first | (simp_all [zmRow, zNo, mRowX]; done) | skip, rfl⟩)
