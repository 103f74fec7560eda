set_option maxHeartbeats 4000000 in
set_option maxRecDepth 100000 in
theorem c_X10_run (l : Launch) (ω : jW) (γ : jG) (M : jM) (R : jR) {m : Nat} (g : gM ω γ m) {r : Nat} (hr : M (m + 1) 0 = nI r) (hr30 : r ≤ 30) {n : Nat} (hn : M (m + 1) 4 = nI n) (hn8 : n ≤ 8) {np : Nat} (hp : M m 2 = nI np) (hp4 : np ≤ 4) {c : Nat} (hc : M (m + 1) 3 = nI c) (hc6 : c ≤ 6) (hst : ∀ t, t < c → zSt (M (m + 1)) t (zN (M (m + 1)) t)) {cap : Nat} (hcap : M (m + 1) 15 = nI cap) (hcap8 : cap ≤ 8) (hpl : ∀ q, q < n → ∃ t, t < c ∧ M (m + 1) (367 + 9 * q + 1) = nI t ∧ ∃ w, (w = 9 ∨ w < zN (M (m + 1)) t) ∧ M (m + 1) (367 + 9 * q + 3) = nI w) (s v0 v1 v2 v3 : Int32) : Ct l ω yX10_run cX10_run 10 (some .int) 8 0 0 [.ref m, .int s, .int v0, .int v1, .int v2, .int v3] γ M R (jx γ (some (.int (zfRun M m np r n s v0 v1 v2 v3))) (zmRun M m np r n s v0 v1 v2 v3) R) := by
  refine Ct_of (by decide) (Nat.le_of_ble_eq_true rfl) rfl (jcat_of rfl) ?_
  intro X C E hnm hxl hxn
  subst hxl
  have g9 := g
  obtain ⟨g0, g1, g2, g3, g4, g5, g6, g7, g8⟩ := g
  refine j_aload_n C dX10_run_0 rfl ?_
  refine j_iload_n C dX10_run_1 rfl ?_
  refine j_iload_n C dX10_run_2 rfl ?_
  refine j_iload_n C dX10_run_3 rfl ?_
  refine j_iload C dX10_run_4 rfl ?_
  refine j_iload C dX10_run_6 rfl ?_
  refine j_cVi C (c_X10_takes _ _ _ _ _ (by assumption) (by assumption) (by assumption) (by assumption) _ _ _ _ _) yc_X10_takes mn_X10_131 im_X10_takes se_X10_takes rfl rfl dX10_run_8 rfl rfl (by assumption) (by decide) (Nat.le_of_ble_eq_true rfl) (by decide) ?_
  refine j_if_ne C 16 dX10_run_11 (by decide) (fun h11 => ?_) (fun h11 => ?_)
  · skip
    obtain ⟨t, htc, et⟩ := zIs_N hc (by omega) (zTk_nz h11)
    have ht := hst t htc
    have ht6 := ht.1
    have eck : s.toNatClampNeg = t := by rw [et]; exact nI_clamp (by omega)
    have eS : (mTk M m v0 v1 v2 v3) (m + 1) = M (m + 1) := mTk_o M v0 v1 v2 v3 (by omega)
    have p1 : (mTk M m v0 v1 v2 v3) m 2 = nI np := by rw [mTk_o M v0 v1 v2 v3 (by omega)]; exact hp
    have zr : (zRn M m np s v0 v1 v2 v3) (m + 1) 0 = nI r := by rw [zRn_a (by decide)]; exact hr
    have zn : (zRn M m np s v0 v1 v2 v3) (m + 1) 4 = nI n := by rw [zRn_a (by decide)]; exact hn
    have zs : zSt ((zRn M m np s v0 v1 v2 v3) (m + 1)) t (zN (M (m + 1)) t) := zSt_cong ht (fun j h1 h2 => zRn_a (by omega))
    have zp : ∀ q, q < n → (zRn M m np s v0 v1 v2 v3) (m + 1) (367 + 9 * q + 1) = nI t → ∃ w, (w = 9 ∨ w < (zN (M (m + 1)) t)) ∧ (zRn M m np s v0 v1 v2 v3) (m + 1) (367 + 9 * q + 3) = nI w := by
      intro q hq h
      obtain ⟨t2, h1, h2, w, h3, h4⟩ := hpl q hq
      rw [zRn_a (by omega), h2] at h
      have h5 := congrArg Int32.toNatClampNeg h
      rw [nI_clamp (by omega), nI_clamp (by omega)] at h5
      subst h5
      exact ⟨w, h3, by rw [zRn_a (by omega)]; exact h4⟩
    have zc : (zRn M m np s v0 v1 v2 v3) (m + 1) 15 = nI cap := by rw [zRn_a (by decide)]; exact hcap
    have yr : (zGoes (zRn M m np s v0 v1 v2 v3) m t r n (zN (M (m + 1)) t)) (m + 1) 0 = nI r := by rw [zGoes_s zn (by decide) (by omega)]; exact zr
    have ys : zSt ((zGoes (zRn M m np s v0 v1 v2 v3) m t r n (zN (M (m + 1)) t)) (m + 1)) t (zN (M (m + 1)) t) := zSt_cong zs (fun j h1 h2 => zGoes_s zn (by omega) (by omega))
    obtain ⟨-, y2, -, y4, y5⟩ := ys
    refine j_aload_n C dX10_run_16 rfl ?_
    refine j_cVv C (c_X10_changes _ ω γ (mTk M m v0 v1 v2 v3) R g9 p1 hp4) yc_X10_changes mn_X10_34 im_X10_changes se_X10_changes rfl rfl dX10_run_17 rfl rfl (by assumption) (by decide) (Nat.le_of_ble_eq_true rfl) (by decide) ?_
    refine j_aload_n C dX10_run_20 rfl ?_
    refine j_getR C fl_X10_7 (by assumption) dX10_run_21 (by decide) rfl (by assumption) ?_
    refine j_bipush C (nI 16) dX10_run_24 (by decide) ?_
    refine j_iload_n C dX10_run_26 rfl ?_
    refine j_iastN C (by assumption) dX10_run_27 (by omega) (by decide) ?_
    refine j_mem (zRn0 M m np s v0 v1 v2 v3) rfl ?_
    refine j_iconst C (nI 0) dX10_run_28 (by decide) ?_
    refine j_istore C dX10_run_29 (by rw [hxn]; decide) ?_
    refine j_loop 4 (fun k => [(0, .ref m), (1, .int s), (2, .int v0), (3, .int v1), (4, .int v2), (5, .int v3), (6, .int (nI k))]) (fun k => zVl (zRn0 M m np s v0 v1 v2 v3) m k) (fun _ => R) (fun _ => True) trivial (fun k hk _ ih => ?_) (fun _ => ?_)
    · skip
      refine j_iload C dX10_run_31 rfl ?_
      refine j_iconst C (nI 4) dX10_run_33 (by decide) ?_
      refine j_icmp_ge C 60 dX10_run_34 (by decide) (fun h => absurd h (nI_ge hk (by decide))) (fun _ => ?_)
      refine j_aload_n C dX10_run_37 rfl ?_
      refine j_getR C fl_X10_7 (by assumption) dX10_run_38 (by decide) rfl (by assumption) ?_
      refine j_bipush C (nI 17) dX10_run_41 (by decide) ?_
      refine j_iload C dX10_run_43 rfl ?_
      first | with_reducible refine j_iaddN C dX10_run_45 ?_ | refine j_iadd C dX10_run_45 ?_
      refine j_aload_n C dX10_run_46 rfl ?_
      refine j_getR C fl_X10_19 (by assumption) dX10_run_47 (by decide) rfl (by assumption) ?_
      refine j_iload C dX10_run_50 rfl ?_
      refine j_ialdN C (by assumption) dX10_run_52 (by omega) (by decide) ?_
      rw [zVl_o (zRn0 M m np s v0 v1 v2 v3) k (show m + 4 ≠ m + 1 by omega)]
      refine j_iastN C (by assumption) dX10_run_53 (by omega) (by decide) ?_
      first | refine j_iinc1 C dX10_run_54 rfl (by rw [hxn]; decide) ?_ | refine j_iinc C _ dX10_run_54 rfl rfl (by rw [hxn]; decide) ?_
      refine j_goto C 31 dX10_run_57 (by decide) ?_
      exact ih trivial
    · skip
      refine j_iload C dX10_run_31 rfl ?_
      refine j_iconst C (nI 4) dX10_run_33 (by decide) ?_
      refine j_icmp_ge C 60 dX10_run_34 (by decide) (fun _ => ?_) (fun h => absurd (Int32.le_refl _) h)
      refine j_aload_n C dX10_run_60 rfl ?_
      refine j_mem (zRn M m np s v0 v1 v2 v3) rfl ?_
      refine j_iload_n C dX10_run_61 rfl ?_
      refine j_top (nI t) et ?_
      refine j_cVv C (c_X10_goes _ ω γ (zRn M m np s v0 v1 v2 v3) R g9 zr hr30 zn hn8 zs zp zc hcap8) yc_X10_goes mn_X10_135 im_X10_goes se_X10_goes rfl rfl dX10_run_62 rfl rfl (by assumption) (by decide) (Nat.le_of_ble_eq_true rfl) (by decide) ?_
      refine j_iconst C (nI 0) dX10_run_65 (by decide) ?_
      refine j_istore C dX10_run_66 (by rw [hxn]; decide) ?_
      refine j_iconst C (nI 0) dX10_run_68 (by decide) ?_
      refine j_istore C dX10_run_69 (by rw [hxn]; decide) ?_
      refine j_loop r (fun k => [(0, .ref m), (1, .int s), (2, .int v0), (3, .int v1), (4, .int v2), (5, .int v3), (6, .int (sI (zAllF ((zGoes (zRn M m np s v0 v1 v2 v3) m t r n (zN (M (m + 1)) t)) (m + 1)) ((zGoes (zRn M m np s v0 v1 v2 v3) m t r n (zN (M (m + 1)) t)) (m + 4)) t (zN (M (m + 1)) t)) k)), (7, .int (nI k))]) (fun _ => (zGoes (zRn M m np s v0 v1 v2 v3) m t r n (zN (M (m + 1)) t))) (fun _ => R) (fun _ => True) trivial (fun k hk _ ih => ?_) (fun _ => ?_)
      · skip
        refine j_iload C dX10_run_71 rfl ?_
        refine j_aload_n C dX10_run_73 rfl ?_
        refine j_getR C fl_X10_7 (by assumption) dX10_run_74 (by decide) rfl (by assumption) ?_
        refine j_iconst C (nI 0) dX10_run_77 (by decide) ?_
        refine j_ialdN C (by assumption) dX10_run_78 (by omega) (by decide) ?_
        refine j_top (nI r) yr ?_
        refine j_icmp_ge C 166 dX10_run_79 (by decide) (fun h => absurd h (nI_ge hk (by omega))) (fun _ => ?_)
        refine j_iconst C (nI 1) dX10_run_82 (by decide) ?_
        refine j_istore C dX10_run_83 (by rw [hxn]; decide) ?_
        refine j_iconst C (nI 0) dX10_run_85 (by decide) ?_
        refine j_istore C dX10_run_86 (by rw [hxn]; decide) ?_
        refine j_loop (zN (M (m + 1)) t) (fun j => [(0, .ref m), (1, .int s), (2, .int v0), (3, .int v1), (4, .int v2), (5, .int v3), (6, .int (sI (zAllF ((zGoes (zRn M m np s v0 v1 v2 v3) m t r n (zN (M (m + 1)) t)) (m + 1)) ((zGoes (zRn M m np s v0 v1 v2 v3) m t r n (zN (M (m + 1)) t)) (m + 4)) t (zN (M (m + 1)) t)) k)), (7, .int (nI k)), (8, .int ((zAl ((zGoes (zRn M m np s v0 v1 v2 v3) m t r n (zN (M (m + 1)) t)) (m + 1)) ((zGoes (zRn M m np s v0 v1 v2 v3) m t r n (zN (M (m + 1)) t)) (m + 4)) t k j))), (9, .int (nI j))]) (fun _ => (zGoes (zRn M m np s v0 v1 v2 v3) m t r n (zN (M (m + 1)) t))) (fun _ => R) (fun _ => True) trivial (fun j hj _ ih => ?_) (fun _ => ?_)
        · skip
          obtain ⟨c1, c2⟩ := y5 j hj
          refine j_iload C dX10_run_88 rfl ?_
          refine j_aload_n C dX10_run_90 rfl ?_
          refine j_iload_n C dX10_run_91 rfl ?_
          refine j_top (nI t) et ?_
          refine j_cVi C (c_X10_conditions _ _ _ _ _ (by assumption) (by omega)) yc_X10_conditions mn_X10_70 im_X10_conditions se_X10_conditions rfl rfl dX10_run_92 rfl rfl (by assumption) (by decide) (Nat.le_of_ble_eq_true rfl) (by decide) ?_
          refine j_top (nI (zN (M (m + 1)) t)) y2 ?_
          refine j_icmp_ge C 139 dX10_run_95 (by decide) (fun h => absurd h (nI_ge hj (by omega))) (fun _ => ?_)
          refine j_iload C dX10_run_98 rfl ?_
          refine j_if_eq C 130 dX10_run_100 (by decide) (fun h100 => ?_) (fun h100 => ?_)
          · skip
            refine j_iconst C (nI 0) dX10_run_130 (by decide) ?_
            refine j_top ((zAl ((zGoes (zRn M m np s v0 v1 v2 v3) m t r n (zN (M (m + 1)) t)) (m + 1)) ((zGoes (zRn M m np s v0 v1 v2 v3) m t r n (zN (M (m + 1)) t)) (m + 4)) t k (j + 1))) (by simp only [zAl]; first | rw [if_pos h100] | rw [if_neg h100, if_pos h123] | rw [if_neg h100, if_neg h123]) ?_
            refine j_istore C dX10_run_131 (by rw [hxn]; decide) ?_
            first | refine j_iinc1 C dX10_run_133 rfl (by rw [hxn]; decide) ?_ | refine j_iinc C _ dX10_run_133 rfl rfl (by rw [hxn]; decide) ?_
            refine j_goto C 88 dX10_run_136 (by decide) ?_
            exact ih trivial
          · skip
            refine j_aload_n C dX10_run_103 rfl ?_
            refine j_iload_n C dX10_run_104 rfl ?_
            refine j_top (nI t) et ?_
            refine j_iload C dX10_run_105 rfl ?_
            refine j_aload_n C dX10_run_107 rfl ?_
            refine j_iload C dX10_run_108 rfl ?_
            refine j_aload_n C dX10_run_110 rfl ?_
            refine j_iload_n C dX10_run_111 rfl ?_
            refine j_top (nI t) et ?_
            refine j_iload C dX10_run_112 rfl ?_
            refine j_cVi C (c_X10_columnOf _ _ _ _ _ (by assumption) (by omega)) yc_X10_columnOf mn_X10_50 im_X10_columnOf se_X10_columnOf rfl rfl dX10_run_114 rfl rfl (by assumption) (by decide) (Nat.le_of_ble_eq_true rfl) (by decide) ?_
            refine j_top (nI (zCol ((zGoes (zRn M m np s v0 v1 v2 v3) m t r n (zN (M (m + 1)) t)) (m + 1)) t j)) c1 ?_
            refine j_cVi C (c_X10_ofRow _ _ _ _ _ (by assumption) (by omega)) yc_X10_ofRow mn_X10_40 im_X10_ofRow se_X10_ofRow rfl rfl dX10_run_117 rfl rfl (by assumption) (by decide) (Nat.le_of_ble_eq_true rfl) (by decide) ?_
            refine j_cVi C (c_X10_holds _ ω γ (zGoes (zRn M m np s v0 v1 v2 v3) m t r n (zN (M (m + 1)) t)) R g9 ht6 (show j < 4 by omega) _) yc_X10_holds mn_X10_94 im_X10_holds se_X10_holds rfl rfl dX10_run_120 rfl rfl (by assumption) (by decide) (Nat.le_of_ble_eq_true rfl) (by decide) ?_
            refine j_if_eq C 130 dX10_run_123 (by decide) (fun h123 => ?_) (fun h123 => ?_)
            · skip
              refine j_iconst C (nI 0) dX10_run_130 (by decide) ?_
              refine j_top ((zAl ((zGoes (zRn M m np s v0 v1 v2 v3) m t r n (zN (M (m + 1)) t)) (m + 1)) ((zGoes (zRn M m np s v0 v1 v2 v3) m t r n (zN (M (m + 1)) t)) (m + 4)) t k (j + 1))) (by simp only [zAl]; first | rw [if_pos h100] | rw [if_neg h100, if_pos h123] | rw [if_neg h100, if_neg h123]) ?_
              refine j_istore C dX10_run_131 (by rw [hxn]; decide) ?_
              first | refine j_iinc1 C dX10_run_133 rfl (by rw [hxn]; decide) ?_ | refine j_iinc C _ dX10_run_133 rfl rfl (by rw [hxn]; decide) ?_
              refine j_goto C 88 dX10_run_136 (by decide) ?_
              exact ih trivial
            · skip
              refine j_iconst C (nI 1) dX10_run_126 (by decide) ?_
              refine j_goto C 131 dX10_run_127 (by decide) ?_
              refine j_top ((zAl ((zGoes (zRn M m np s v0 v1 v2 v3) m t r n (zN (M (m + 1)) t)) (m + 1)) ((zGoes (zRn M m np s v0 v1 v2 v3) m t r n (zN (M (m + 1)) t)) (m + 4)) t k (j + 1))) (by simp only [zAl]; first | rw [if_pos h100] | rw [if_neg h100, if_pos h123] | rw [if_neg h100, if_neg h123]) ?_
              refine j_istore C dX10_run_131 (by rw [hxn]; decide) ?_
              first | refine j_iinc1 C dX10_run_133 rfl (by rw [hxn]; decide) ?_ | refine j_iinc C _ dX10_run_133 rfl rfl (by rw [hxn]; decide) ?_
              refine j_goto C 88 dX10_run_136 (by decide) ?_
              exact ih trivial
        · skip
          refine j_iload C dX10_run_88 rfl ?_
          refine j_aload_n C dX10_run_90 rfl ?_
          refine j_iload_n C dX10_run_91 rfl ?_
          refine j_top (nI t) et ?_
          refine j_cVi C (c_X10_conditions _ _ _ _ _ (by assumption) (by omega)) yc_X10_conditions mn_X10_70 im_X10_conditions se_X10_conditions rfl rfl dX10_run_92 rfl rfl (by assumption) (by decide) (Nat.le_of_ble_eq_true rfl) (by decide) ?_
          refine j_top (nI (zN (M (m + 1)) t)) y2 ?_
          refine j_icmp_ge C 139 dX10_run_95 (by decide) (fun _ => ?_) (fun h => absurd (Int32.le_refl _) h)
          refine j_iload C dX10_run_139 rfl ?_
          refine j_iload C dX10_run_141 rfl ?_
          refine j_if_eq C 156 dX10_run_143 (by decide) (fun h143 => ?_) (fun h143 => ?_)
          · skip
            refine j_iconst C (nI 0) dX10_run_156 (by decide) ?_
            first | with_reducible refine j_iaddN C dX10_run_157 ?_ | refine j_iadd C dX10_run_157 ?_
            refine j_top (sI (zAllF ((zGoes (zRn M m np s v0 v1 v2 v3) m t r n (zN (M (m + 1)) t)) (m + 1)) ((zGoes (zRn M m np s v0 v1 v2 v3) m t r n (zN (M (m + 1)) t)) (m + 4)) t (zN (M (m + 1)) t)) (k + 1)) (by simp only [sI, zAllF]; first | rw [if_pos h143] | rw [if_neg h143]) ?_
            refine j_istore C dX10_run_158 (by rw [hxn]; decide) ?_
            first | refine j_iinc1 C dX10_run_160 rfl (by rw [hxn]; decide) ?_ | refine j_iinc C _ dX10_run_160 rfl rfl (by rw [hxn]; decide) ?_
            refine j_goto C 71 dX10_run_163 (by decide) ?_
            refine j_locs [0, 1, 2, 3, 4, 5, 6, 7] rfl ?_
            exact ih trivial
          · skip
            refine j_aload_n C dX10_run_146 rfl ?_
            refine j_iload C dX10_run_147 rfl ?_
            refine j_iconst C (nI 4) dX10_run_149 (by decide) ?_
            refine j_cVi C (c_X10_ofRow _ _ _ _ _ (by assumption) (by omega)) yc_X10_ofRow mn_X10_40 im_X10_ofRow se_X10_ofRow rfl rfl dX10_run_150 rfl rfl (by assumption) (by decide) (Nat.le_of_ble_eq_true rfl) (by decide) ?_
            refine j_goto C 157 dX10_run_153 (by decide) ?_
            first | with_reducible refine j_iaddN C dX10_run_157 ?_ | refine j_iadd C dX10_run_157 ?_
            refine j_top (sI (zAllF ((zGoes (zRn M m np s v0 v1 v2 v3) m t r n (zN (M (m + 1)) t)) (m + 1)) ((zGoes (zRn M m np s v0 v1 v2 v3) m t r n (zN (M (m + 1)) t)) (m + 4)) t (zN (M (m + 1)) t)) (k + 1)) (by simp only [sI, zAllF]; first | rw [if_pos h143] | rw [if_neg h143]) ?_
            refine j_istore C dX10_run_158 (by rw [hxn]; decide) ?_
            first | refine j_iinc1 C dX10_run_160 rfl (by rw [hxn]; decide) ?_ | refine j_iinc C _ dX10_run_160 rfl rfl (by rw [hxn]; decide) ?_
            refine j_goto C 71 dX10_run_163 (by decide) ?_
            refine j_locs [0, 1, 2, 3, 4, 5, 6, 7] rfl ?_
            exact ih trivial
      · skip
        refine j_iload C dX10_run_71 rfl ?_
        refine j_aload_n C dX10_run_73 rfl ?_
        refine j_getR C fl_X10_7 (by assumption) dX10_run_74 (by decide) rfl (by assumption) ?_
        refine j_iconst C (nI 0) dX10_run_77 (by decide) ?_
        refine j_ialdN C (by assumption) dX10_run_78 (by omega) (by decide) ?_
        refine j_top (nI r) yr ?_
        refine j_icmp_ge C 166 dX10_run_79 (by decide) (fun _ => ?_) (fun h => absurd (Int32.le_refl _) h)
        refine j_iload C dX10_run_166 rfl ?_
        exact j_ireturn C E dX10_run_168 (rfl) (by decide) (by decide) (⟨by first | (simp only [zfRun, if_neg h11, eck]; done) | (simp only [zfRun, if_neg h11]; done), rfl, by first | (simp only [zmRun, if_neg h11, eck]; done) | (simp only [zmRun, if_neg h11]; done), rfl⟩)
  · skip
    refine j_iconst C (-1) dX10_run_14 (by decide) ?_
    exact j_ireturn C E dX10_run_15 (rfl) (by decide) (by decide) (⟨by first | (simp only [zfRun, if_pos h11, eck]; done) | (simp only [zfRun, if_pos h11]; done), rfl, by first | (simp only [zmRun, if_pos h11, eck]; done) | (simp only [zmRun, if_pos h11]; done), rfl⟩)
