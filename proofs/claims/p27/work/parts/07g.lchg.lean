theorem N_dec (N : Nat) : N = N % 32 + 32 * (N / 32 % 32) + 1024 * (N / 1024 % 32) + 32768 * (N / 32768) := by
  have e1 : N / 1024 = N / 32 / 32 := (Nat.div_div_eq_div_mul N 32 32).symm
  have e2 : N / 32768 = N / 32 / 32 / 32 := by rw [Nat.div_div_eq_div_mul, Nat.div_div_eq_div_mul]
  rw [e1, e2]
  omega

set_option maxHeartbeats 4000000 in
set_option maxRecDepth 100000 in
theorem c_L_changes_row (l : Launch) (ω : jW) (γ : jG) (M : jM) (R : jR) {x a h T v m d b nh r n c : Nat} {f : Nat → Nat} (L : LI ω γ M R x a h T v m d b nh r n c f) (hb : b ≤ 90000) {way y : Nat} (hw : way < 3) (hy : y < 10000000) : Ct l ω yL_changes cL_changes 12 (some .boolean) 8 0 0 [.ref x, .ref d, .ref (d + 1), .ref (d + 2), .ref (d + 3), .ref (d + 4), .int (nI way), .int (nI y)] γ M R (lQ ω γ x a h T v m d b) := by
  refine Ct_of (by decide) (Nat.le_of_ble_eq_true rfl) rfl (jcat_of rfl) ?_
  intro X C E hnm hxl hxn
  subst hxl
  have hb0 : b ≤ 100000 := by omega
  obtain ⟨gx, gd, hvd, hdm, hjm, I, e, hx, A⟩ := L
  have CBH := CB_inv I.1 e I.2.2.2.2.1 hx
  have gx0 := gx.1
  obtain ⟨g0, g1, g2, g3, g4, g5⟩ := gd
  have Z := zRd_of e A.2.2.2.2.2.2.1
  have H := lRd_of A
  have Q := zPn_of e A.2.2.2.2.2.2.2.2 hb0
  have hS := A.1
  have P := A.2.2.2.2.1
  have hr30 := Z.2.1
  have hc6 := Z.2.2.2.2.1
  have hsh := e.2.2.2.2.2.2.2.1
  have hn8 : n ≤ 8 := hsh.2.2.1
  have s0 : M (m + 1) 0 = nI r := Z.1
  have s3 : M (m + 1) 3 = nI c := e.2.2.2.1.2.1
  have s4 : M (m + 1) 4 = nI n := hsh.2.1
  have hd := e.2.2.2.2.2.2.2.2
  have d0 : M d 0 = nI r := (hS 0 (by decide)).trans s0
  have d3 : M d 3 = nI c := (hS 3 (by decide)).trans s3
  have d4 : M d 4 = nI n := (hS 4 (by decide)).trans s4
  have J : LJ M R a h T v m b nh r n c 0 f := ⟨I, e, hx⟩
  have gdd : gD ω γ d := ⟨g0, g1, g2, g3, g4, g5⟩
  refine j_iload C dL_changes_0 rfl ?_
  refine j_iconst C (nI 3) dL_changes_2 (by decide) ?_
  refine j_icmp_ge C 167 dL_changes_3 (by decide) (fun h => absurd h (nI_ge hw (by decide))) (fun _ => ?_)
  refine j_iconst C (nI 1) dL_changes_6 (by decide) ?_
  refine j_iload C dL_changes_7 rfl ?_
  refine j_bipush C (nI 7) dL_changes_9 (by decide) ?_
  refine j_idivN C dL_changes_11 (by omega) (by decide) (by decide) ?_
  refine j_iload C dL_changes_12 rfl ?_
  refine j_iconst C (nI 4) dL_changes_14 (by decide) ?_
  refine j_iremN C dL_changes_15 (by omega) (by decide) (by decide) ?_
  refine j_if_ne C 25 dL_changes_16 (by decide) (fun h16 => ?_) (fun h16 => ?_)
  · skip
    refine j_bipush C (nI 40) dL_changes_25 (by decide) ?_
    refine j_iremN C dL_changes_27 (by omega) (by decide) (by decide) ?_
    first | with_reducible refine j_iaddN C dL_changes_28 ?_ | refine j_iadd C dL_changes_28 ?_
    obtain ⟨w, hw0, hw1, hw9⟩ : ∃ w, w = 1 + y / 7 % 40 ∧ 1 ≤ w ∧ w ≤ 999 := ⟨_, rfl, by omega, by omega⟩
    refine j_top (nI w) (by rw [hw0]) ?_
    refine j_istore C dL_changes_29 (by rw [hxn]; decide) ?_
    refine j_iload C dL_changes_31 rfl ?_
    refine j_bipush C (nI 32) dL_changes_33 (by decide) ?_
    refine j_iremN C dL_changes_35 (by omega) (by decide) (by decide) ?_
    refine j_bipush C (nI 32) dL_changes_36 (by decide) ?_
    refine j_iload C dL_changes_38 rfl ?_
    refine j_iconst C (nI 5) dL_changes_40 (by decide) ?_
    refine j_idivN C dL_changes_41 (by omega) (by decide) (by decide) ?_
    refine j_bipush C (nI 32) dL_changes_42 (by decide) ?_
    refine j_iremN C dL_changes_44 (by omega) (by decide) (by decide) ?_
    first | with_reducible refine j_imulN C dL_changes_45 ?_ | refine j_imul C dL_changes_45 ?_
    first | with_reducible refine j_iaddN C dL_changes_46 ?_ | refine j_iadd C dL_changes_46 ?_
    refine j_sipush C (nI 1024) dL_changes_47 (by decide) ?_
    refine j_iload C dL_changes_50 rfl ?_
    refine j_sipush C (nI 160) dL_changes_52 (by decide) ?_
    refine j_idivN C dL_changes_55 (by omega) (by decide) (by decide) ?_
    refine j_bipush C (nI 8) dL_changes_56 (by decide) ?_
    refine j_iremN C dL_changes_58 (by omega) (by decide) (by decide) ?_
    first | with_reducible refine j_imulN C dL_changes_59 ?_ | refine j_imul C dL_changes_59 ?_
    first | with_reducible refine j_iaddN C dL_changes_60 ?_ | refine j_iadd C dL_changes_60 ?_
    refine j_ldc C ck_L_78 dL_changes_61 ?_
    refine j_top (nI 32768) (by decide) ?_
    refine j_iload C dL_changes_63 rfl ?_
    refine j_iconst C (nI 3) dL_changes_65 (by decide) ?_
    refine j_idivN C dL_changes_66 (by omega) (by decide) (by decide) ?_
    refine j_iconst C (nI 4) dL_changes_67 (by decide) ?_
    refine j_iremN C dL_changes_68 (by omega) (by decide) (by decide) ?_
    first | with_reducible refine j_imulN C dL_changes_69 ?_ | refine j_imul C dL_changes_69 ?_
    first | with_reducible refine j_iaddN C dL_changes_70 ?_ | refine j_iadd C dL_changes_70 ?_
    obtain ⟨N, hN⟩ : ∃ N, N = y % 32 + 32 * (y / 5 % 32) + 1024 * (y / 160 % 8) + 32768 * (y / 3 % 4) := ⟨_, rfl⟩
    have hN17 : N < 131072 := by omega
    refine j_top (nI N) (by rw [hN]) ?_
    refine j_istore C dL_changes_71 (by rw [hxn]; decide) ?_
    refine j_aload_n C dL_changes_73 rfl ?_
    refine j_iconst C (nI 0) dL_changes_74 (by decide) ?_
    refine j_ialdN C (by assumption) dL_changes_75 (by omega) (by decide) ?_
    refine j_top (nI r) (d0) ?_
    refine j_bipush C (nI 30) dL_changes_76 (by decide) ?_
    refine j_icmp_ge C 101 dL_changes_78 (by decide) (fun h78 => ?_) (fun h78 => ?_)
    · skip
      have hr : r = 30 := by have := (nI_leI (by decide) (by omega)).mp h78; omega
      refine j_aload_n C dL_changes_101 rfl ?_
      refine j_iload C dL_changes_102 rfl ?_
      refine j_bipush C (nI 32) dL_changes_104 (by decide) ?_
      refine j_iremN C dL_changes_106 (by omega) (by decide) (by decide) ?_
      refine j_iload C dL_changes_107 rfl ?_
      refine j_bipush C (nI 32) dL_changes_109 (by decide) ?_
      refine j_idivN C dL_changes_111 (by omega) (by decide) (by decide) ?_
      refine j_bipush C (nI 32) dL_changes_112 (by decide) ?_
      refine j_iremN C dL_changes_114 (by omega) (by decide) (by decide) ?_
      refine j_iload C dL_changes_115 rfl ?_
      refine j_sipush C (nI 1024) dL_changes_117 (by decide) ?_
      refine j_idivN C dL_changes_120 (by omega) (by decide) (by decide) ?_
      refine j_bipush C (nI 32) dL_changes_121 (by decide) ?_
      refine j_iremN C dL_changes_123 (by omega) (by decide) (by decide) ?_
      refine j_iload C dL_changes_124 rfl ?_
      refine j_ldc C ck_L_78 dL_changes_126 ?_
      refine j_top (nI 32768) (by decide) ?_
      refine j_idivN C dL_changes_128 (by omega) (by decide) (by decide) ?_
      refine j_iload C dL_changes_129 rfl ?_
      obtain ⟨eq1, M3, lo3, nh3, f3, J3, A3⟩ := op_full J A hvd hdm hr (v0 := N % 32) (v1 := N / 32 % 32) (v2 := N / 1024 % 32) (v3 := N / 32768) (by omega) (by omega) (by omega) (by omega) hw1 hw9
      refine j_cVi C (c_X9_row _ ω γ M R gx CBH (nI (N % 32)) (nI (N / 32 % 32)) (nI (N / 1024 % 32)) (nI (N / 32768)) (nI w)) yc_X9_row mn_L_80 im_X9_row se_X9_row rfl rfl dL_changes_131 rfl rfl (gx0) (by decide) (Nat.le_of_ble_eq_true rfl) (by decide) ?_
      refine j_top (-3) eq1 ?_
      refine j_ghost M3 (fun y hy => lo3 y (by omega)) ?_
      refine j_istore C dL_changes_134 (by rw [hxn]; decide) ?_
      refine j_iload C dL_changes_136 rfl ?_
      refine j_aload_n C dL_changes_138 rfl ?_
      refine j_iconst C (nI 0) dL_changes_139 (by decide) ?_
      refine j_ialdN C (by assumption) dL_changes_140 (by omega) (by decide) ?_
      refine j_top (nI r) ((A3.1 0 (by decide)).trans J3.num.1) ?_
      refine j_iconst C (nI 1) dL_changes_141 (by decide) ?_
      refine j_isubN C dL_changes_142 (by omega) ?_
      refine j_icmp_eq C 161 dL_changes_143 (by decide) (fun h => absurd h (by rw [hr]; decide)) (fun _ => ?_)
      refine j_iload C dL_changes_146 rfl ?_
      refine j_bipush C (-3) dL_changes_148 (by decide) ?_
      refine j_icmp_ne C 165 dL_changes_150 (by decide) (fun h => absurd (rfl) h) (fun _ => ?_)
      refine j_aload_n C dL_changes_153 rfl ?_
      refine j_iconst C (nI 0) dL_changes_154 (by decide) ?_
      refine j_ialdN C (by assumption) dL_changes_155 (by omega) (by decide) ?_
      refine j_top (nI r) ((A3.1 0 (by decide)).trans J3.num.1) ?_
      refine j_bipush C (nI 30) dL_changes_156 (by decide) ?_
      refine j_icmp_ne C 165 dL_changes_158 (by decide) (fun h => absurd (by rw [hr]) h) (fun _ => ?_)
      refine j_iconst C (nI 1) dL_changes_161 (by decide) ?_
      refine j_goto C 166 dL_changes_162 (by decide) ?_
      exact j_ireturn C E dL_changes_166 (by decide) (by decide) (by decide) (lQ_of gx gdd hvd hdm hjm J3 (by omega) A3)
    · skip
      have hr : r < 30 := Nat.lt_of_not_le fun q => h78 (nI_le q (by omega))
      refine j_aload_n C dL_changes_81 rfl ?_
      refine j_aload_n C dL_changes_82 rfl ?_
      refine j_iconst C (nI 0) dL_changes_83 (by decide) ?_
      refine j_ialdN C (by assumption) dL_changes_84 (by omega) (by decide) ?_
      refine j_top (nI r) (d0) ?_
      refine j_iload C dL_changes_85 rfl ?_
      refine j_ldc C ck_L_79 dL_changes_87 ?_
      refine j_top (nI 1048576) (by decide) ?_
      refine j_iload C dL_changes_89 rfl ?_
      first | with_reducible refine j_imulN C dL_changes_91 ?_ | refine j_imul C dL_changes_91 ?_
      first | with_reducible refine j_iaddN C dL_changes_92 ?_ | refine j_iadd C dL_changes_92 ?_
      refine j_iastN C (by assumption) dL_changes_93 (by omega) (by decide) ?_
      refine j_aload_n C dL_changes_94 rfl ?_
      refine j_iconst C (nI 0) dL_changes_95 (by decide) ?_
      refine j_dup2 C dL_changes_96 rfl rfl ?_
      refine j_ialdN C (by assumption) dL_changes_97 (by omega) (by decide) ?_
      refine j_top (nI r) (by rw [jup_row _ _ (by omega)]; exact d0) ?_
      refine j_iconst C (nI 1) dL_changes_98 (by decide) ?_
      first | with_reducible refine j_iaddN C dL_changes_99 ?_ | refine j_iadd C dL_changes_99 ?_
      refine j_iastN C (by assumption) dL_changes_100 (by omega) (by decide) ?_
      obtain ⟨M1, hM1⟩ : ∃ M1, M1 = jup (jup M (d + 1) r (nI (N + 1048576 * w))) d 0 (nI (r + 1)) := ⟨_, rfl⟩
      refine j_mem M1 hM1.symm ?_
      obtain ⟨J1, eq1, M3, lo3, nh3, f3, J3, A3⟩ := op_row J A hvd hdm hr (v0 := N % 32) (v1 := N / 32 % 32) (v2 := N / 1024 % 32) (v3 := N / 32768) (by omega) (by omega) (by omega) (by omega) hw1 hw9 (N_dec N) hM1
      refine j_aload_n C dL_changes_101 rfl ?_
      refine j_iload C dL_changes_102 rfl ?_
      refine j_bipush C (nI 32) dL_changes_104 (by decide) ?_
      refine j_iremN C dL_changes_106 (by omega) (by decide) (by decide) ?_
      refine j_iload C dL_changes_107 rfl ?_
      refine j_bipush C (nI 32) dL_changes_109 (by decide) ?_
      refine j_idivN C dL_changes_111 (by omega) (by decide) (by decide) ?_
      refine j_bipush C (nI 32) dL_changes_112 (by decide) ?_
      refine j_iremN C dL_changes_114 (by omega) (by decide) (by decide) ?_
      refine j_iload C dL_changes_115 rfl ?_
      refine j_sipush C (nI 1024) dL_changes_117 (by decide) ?_
      refine j_idivN C dL_changes_120 (by omega) (by decide) (by decide) ?_
      refine j_bipush C (nI 32) dL_changes_121 (by decide) ?_
      refine j_iremN C dL_changes_123 (by omega) (by decide) (by decide) ?_
      refine j_iload C dL_changes_124 rfl ?_
      refine j_ldc C ck_L_78 dL_changes_126 ?_
      refine j_top (nI 32768) (by decide) ?_
      refine j_idivN C dL_changes_128 (by omega) (by decide) (by decide) ?_
      refine j_iload C dL_changes_129 rfl ?_
      refine j_cVi C (c_X9_row _ ω γ M1 R gx J1.CB (nI (N % 32)) (nI (N / 32 % 32)) (nI (N / 1024 % 32)) (nI (N / 32768)) (nI w)) yc_X9_row mn_L_80 im_X9_row se_X9_row rfl rfl dL_changes_131 rfl rfl (gx0) (by decide) (Nat.le_of_ble_eq_true rfl) (by decide) ?_
      refine j_top (nI r) eq1 ?_
      refine j_ghost M3 (fun y hy => lo3 y (by omega)) ?_
      refine j_istore C dL_changes_134 (by rw [hxn]; decide) ?_
      refine j_iload C dL_changes_136 rfl ?_
      refine j_aload_n C dL_changes_138 rfl ?_
      refine j_iconst C (nI 0) dL_changes_139 (by decide) ?_
      refine j_ialdN C (by assumption) dL_changes_140 (by omega) (by decide) ?_
      refine j_top (nI (r + 1)) ((A3.1 0 (by decide)).trans J3.num.1) ?_
      refine j_iconst C (nI 1) dL_changes_141 (by decide) ?_
      refine j_isubN C dL_changes_142 (by omega) ?_
      refine j_icmp_eq C 161 dL_changes_143 (by decide) (fun _ => ?_) (fun h => absurd (rfl) h)
      refine j_iconst C (nI 1) dL_changes_161 (by decide) ?_
      refine j_goto C 166 dL_changes_162 (by decide) ?_
      exact j_ireturn C E dL_changes_166 (by decide) (by decide) (by decide) (lQ_of gx gdd hvd hdm hjm J3 (by omega) A3)
  · skip
    refine j_sipush C (nI 999) dL_changes_19 (by decide) ?_
    refine j_goto C 27 dL_changes_22 (by decide) ?_
    refine j_iremN C dL_changes_27 (by omega) (by decide) (by decide) ?_
    first | with_reducible refine j_iaddN C dL_changes_28 ?_ | refine j_iadd C dL_changes_28 ?_
    obtain ⟨w, hw0, hw1, hw9⟩ : ∃ w, w = 1 + y / 7 % 999 ∧ 1 ≤ w ∧ w ≤ 999 := ⟨_, rfl, by omega, by omega⟩
    refine j_top (nI w) (by rw [hw0]) ?_
    refine j_istore C dL_changes_29 (by rw [hxn]; decide) ?_
    refine j_iload C dL_changes_31 rfl ?_
    refine j_bipush C (nI 32) dL_changes_33 (by decide) ?_
    refine j_iremN C dL_changes_35 (by omega) (by decide) (by decide) ?_
    refine j_bipush C (nI 32) dL_changes_36 (by decide) ?_
    refine j_iload C dL_changes_38 rfl ?_
    refine j_iconst C (nI 5) dL_changes_40 (by decide) ?_
    refine j_idivN C dL_changes_41 (by omega) (by decide) (by decide) ?_
    refine j_bipush C (nI 32) dL_changes_42 (by decide) ?_
    refine j_iremN C dL_changes_44 (by omega) (by decide) (by decide) ?_
    first | with_reducible refine j_imulN C dL_changes_45 ?_ | refine j_imul C dL_changes_45 ?_
    first | with_reducible refine j_iaddN C dL_changes_46 ?_ | refine j_iadd C dL_changes_46 ?_
    refine j_sipush C (nI 1024) dL_changes_47 (by decide) ?_
    refine j_iload C dL_changes_50 rfl ?_
    refine j_sipush C (nI 160) dL_changes_52 (by decide) ?_
    refine j_idivN C dL_changes_55 (by omega) (by decide) (by decide) ?_
    refine j_bipush C (nI 8) dL_changes_56 (by decide) ?_
    refine j_iremN C dL_changes_58 (by omega) (by decide) (by decide) ?_
    first | with_reducible refine j_imulN C dL_changes_59 ?_ | refine j_imul C dL_changes_59 ?_
    first | with_reducible refine j_iaddN C dL_changes_60 ?_ | refine j_iadd C dL_changes_60 ?_
    refine j_ldc C ck_L_78 dL_changes_61 ?_
    refine j_top (nI 32768) (by decide) ?_
    refine j_iload C dL_changes_63 rfl ?_
    refine j_iconst C (nI 3) dL_changes_65 (by decide) ?_
    refine j_idivN C dL_changes_66 (by omega) (by decide) (by decide) ?_
    refine j_iconst C (nI 4) dL_changes_67 (by decide) ?_
    refine j_iremN C dL_changes_68 (by omega) (by decide) (by decide) ?_
    first | with_reducible refine j_imulN C dL_changes_69 ?_ | refine j_imul C dL_changes_69 ?_
    first | with_reducible refine j_iaddN C dL_changes_70 ?_ | refine j_iadd C dL_changes_70 ?_
    obtain ⟨N, hN⟩ : ∃ N, N = y % 32 + 32 * (y / 5 % 32) + 1024 * (y / 160 % 8) + 32768 * (y / 3 % 4) := ⟨_, rfl⟩
    have hN17 : N < 131072 := by omega
    refine j_top (nI N) (by rw [hN]) ?_
    refine j_istore C dL_changes_71 (by rw [hxn]; decide) ?_
    refine j_aload_n C dL_changes_73 rfl ?_
    refine j_iconst C (nI 0) dL_changes_74 (by decide) ?_
    refine j_ialdN C (by assumption) dL_changes_75 (by omega) (by decide) ?_
    refine j_top (nI r) (d0) ?_
    refine j_bipush C (nI 30) dL_changes_76 (by decide) ?_
    refine j_icmp_ge C 101 dL_changes_78 (by decide) (fun h78 => ?_) (fun h78 => ?_)
    · skip
      have hr : r = 30 := by have := (nI_leI (by decide) (by omega)).mp h78; omega
      refine j_aload_n C dL_changes_101 rfl ?_
      refine j_iload C dL_changes_102 rfl ?_
      refine j_bipush C (nI 32) dL_changes_104 (by decide) ?_
      refine j_iremN C dL_changes_106 (by omega) (by decide) (by decide) ?_
      refine j_iload C dL_changes_107 rfl ?_
      refine j_bipush C (nI 32) dL_changes_109 (by decide) ?_
      refine j_idivN C dL_changes_111 (by omega) (by decide) (by decide) ?_
      refine j_bipush C (nI 32) dL_changes_112 (by decide) ?_
      refine j_iremN C dL_changes_114 (by omega) (by decide) (by decide) ?_
      refine j_iload C dL_changes_115 rfl ?_
      refine j_sipush C (nI 1024) dL_changes_117 (by decide) ?_
      refine j_idivN C dL_changes_120 (by omega) (by decide) (by decide) ?_
      refine j_bipush C (nI 32) dL_changes_121 (by decide) ?_
      refine j_iremN C dL_changes_123 (by omega) (by decide) (by decide) ?_
      refine j_iload C dL_changes_124 rfl ?_
      refine j_ldc C ck_L_78 dL_changes_126 ?_
      refine j_top (nI 32768) (by decide) ?_
      refine j_idivN C dL_changes_128 (by omega) (by decide) (by decide) ?_
      refine j_iload C dL_changes_129 rfl ?_
      obtain ⟨eq1, M3, lo3, nh3, f3, J3, A3⟩ := op_full J A hvd hdm hr (v0 := N % 32) (v1 := N / 32 % 32) (v2 := N / 1024 % 32) (v3 := N / 32768) (by omega) (by omega) (by omega) (by omega) hw1 hw9
      refine j_cVi C (c_X9_row _ ω γ M R gx CBH (nI (N % 32)) (nI (N / 32 % 32)) (nI (N / 1024 % 32)) (nI (N / 32768)) (nI w)) yc_X9_row mn_L_80 im_X9_row se_X9_row rfl rfl dL_changes_131 rfl rfl (gx0) (by decide) (Nat.le_of_ble_eq_true rfl) (by decide) ?_
      refine j_top (-3) eq1 ?_
      refine j_ghost M3 (fun y hy => lo3 y (by omega)) ?_
      refine j_istore C dL_changes_134 (by rw [hxn]; decide) ?_
      refine j_iload C dL_changes_136 rfl ?_
      refine j_aload_n C dL_changes_138 rfl ?_
      refine j_iconst C (nI 0) dL_changes_139 (by decide) ?_
      refine j_ialdN C (by assumption) dL_changes_140 (by omega) (by decide) ?_
      refine j_top (nI r) ((A3.1 0 (by decide)).trans J3.num.1) ?_
      refine j_iconst C (nI 1) dL_changes_141 (by decide) ?_
      refine j_isubN C dL_changes_142 (by omega) ?_
      refine j_icmp_eq C 161 dL_changes_143 (by decide) (fun h => absurd h (by rw [hr]; decide)) (fun _ => ?_)
      refine j_iload C dL_changes_146 rfl ?_
      refine j_bipush C (-3) dL_changes_148 (by decide) ?_
      refine j_icmp_ne C 165 dL_changes_150 (by decide) (fun h => absurd (rfl) h) (fun _ => ?_)
      refine j_aload_n C dL_changes_153 rfl ?_
      refine j_iconst C (nI 0) dL_changes_154 (by decide) ?_
      refine j_ialdN C (by assumption) dL_changes_155 (by omega) (by decide) ?_
      refine j_top (nI r) ((A3.1 0 (by decide)).trans J3.num.1) ?_
      refine j_bipush C (nI 30) dL_changes_156 (by decide) ?_
      refine j_icmp_ne C 165 dL_changes_158 (by decide) (fun h => absurd (by rw [hr]) h) (fun _ => ?_)
      refine j_iconst C (nI 1) dL_changes_161 (by decide) ?_
      refine j_goto C 166 dL_changes_162 (by decide) ?_
      exact j_ireturn C E dL_changes_166 (by decide) (by decide) (by decide) (lQ_of gx gdd hvd hdm hjm J3 (by omega) A3)
    · skip
      have hr : r < 30 := Nat.lt_of_not_le fun q => h78 (nI_le q (by omega))
      refine j_aload_n C dL_changes_81 rfl ?_
      refine j_aload_n C dL_changes_82 rfl ?_
      refine j_iconst C (nI 0) dL_changes_83 (by decide) ?_
      refine j_ialdN C (by assumption) dL_changes_84 (by omega) (by decide) ?_
      refine j_top (nI r) (d0) ?_
      refine j_iload C dL_changes_85 rfl ?_
      refine j_ldc C ck_L_79 dL_changes_87 ?_
      refine j_top (nI 1048576) (by decide) ?_
      refine j_iload C dL_changes_89 rfl ?_
      first | with_reducible refine j_imulN C dL_changes_91 ?_ | refine j_imul C dL_changes_91 ?_
      first | with_reducible refine j_iaddN C dL_changes_92 ?_ | refine j_iadd C dL_changes_92 ?_
      refine j_iastN C (by assumption) dL_changes_93 (by omega) (by decide) ?_
      refine j_aload_n C dL_changes_94 rfl ?_
      refine j_iconst C (nI 0) dL_changes_95 (by decide) ?_
      refine j_dup2 C dL_changes_96 rfl rfl ?_
      refine j_ialdN C (by assumption) dL_changes_97 (by omega) (by decide) ?_
      refine j_top (nI r) (by rw [jup_row _ _ (by omega)]; exact d0) ?_
      refine j_iconst C (nI 1) dL_changes_98 (by decide) ?_
      first | with_reducible refine j_iaddN C dL_changes_99 ?_ | refine j_iadd C dL_changes_99 ?_
      refine j_iastN C (by assumption) dL_changes_100 (by omega) (by decide) ?_
      obtain ⟨M1, hM1⟩ : ∃ M1, M1 = jup (jup M (d + 1) r (nI (N + 1048576 * w))) d 0 (nI (r + 1)) := ⟨_, rfl⟩
      refine j_mem M1 hM1.symm ?_
      obtain ⟨J1, eq1, M3, lo3, nh3, f3, J3, A3⟩ := op_row J A hvd hdm hr (v0 := N % 32) (v1 := N / 32 % 32) (v2 := N / 1024 % 32) (v3 := N / 32768) (by omega) (by omega) (by omega) (by omega) hw1 hw9 (N_dec N) hM1
      refine j_aload_n C dL_changes_101 rfl ?_
      refine j_iload C dL_changes_102 rfl ?_
      refine j_bipush C (nI 32) dL_changes_104 (by decide) ?_
      refine j_iremN C dL_changes_106 (by omega) (by decide) (by decide) ?_
      refine j_iload C dL_changes_107 rfl ?_
      refine j_bipush C (nI 32) dL_changes_109 (by decide) ?_
      refine j_idivN C dL_changes_111 (by omega) (by decide) (by decide) ?_
      refine j_bipush C (nI 32) dL_changes_112 (by decide) ?_
      refine j_iremN C dL_changes_114 (by omega) (by decide) (by decide) ?_
      refine j_iload C dL_changes_115 rfl ?_
      refine j_sipush C (nI 1024) dL_changes_117 (by decide) ?_
      refine j_idivN C dL_changes_120 (by omega) (by decide) (by decide) ?_
      refine j_bipush C (nI 32) dL_changes_121 (by decide) ?_
      refine j_iremN C dL_changes_123 (by omega) (by decide) (by decide) ?_
      refine j_iload C dL_changes_124 rfl ?_
      refine j_ldc C ck_L_78 dL_changes_126 ?_
      refine j_top (nI 32768) (by decide) ?_
      refine j_idivN C dL_changes_128 (by omega) (by decide) (by decide) ?_
      refine j_iload C dL_changes_129 rfl ?_
      refine j_cVi C (c_X9_row _ ω γ M1 R gx J1.CB (nI (N % 32)) (nI (N / 32 % 32)) (nI (N / 1024 % 32)) (nI (N / 32768)) (nI w)) yc_X9_row mn_L_80 im_X9_row se_X9_row rfl rfl dL_changes_131 rfl rfl (gx0) (by decide) (Nat.le_of_ble_eq_true rfl) (by decide) ?_
      refine j_top (nI r) eq1 ?_
      refine j_ghost M3 (fun y hy => lo3 y (by omega)) ?_
      refine j_istore C dL_changes_134 (by rw [hxn]; decide) ?_
      refine j_iload C dL_changes_136 rfl ?_
      refine j_aload_n C dL_changes_138 rfl ?_
      refine j_iconst C (nI 0) dL_changes_139 (by decide) ?_
      refine j_ialdN C (by assumption) dL_changes_140 (by omega) (by decide) ?_
      refine j_top (nI (r + 1)) ((A3.1 0 (by decide)).trans J3.num.1) ?_
      refine j_iconst C (nI 1) dL_changes_141 (by decide) ?_
      refine j_isubN C dL_changes_142 (by omega) ?_
      refine j_icmp_eq C 161 dL_changes_143 (by decide) (fun _ => ?_) (fun h => absurd (rfl) h)
      refine j_iconst C (nI 1) dL_changes_161 (by decide) ?_
      refine j_goto C 166 dL_changes_162 (by decide) ?_
      exact j_ireturn C E dL_changes_166 (by decide) (by decide) (by decide) (lQ_of gx gdd hvd hdm hjm J3 (by omega) A3)

set_option maxHeartbeats 4000000 in
set_option maxRecDepth 100000 in
theorem c_L_changes_drop (l : Launch) (ω : jW) (γ : jG) (M : jM) (R : jR) {x a h T v m d b nh r n c : Nat} {f : Nat → Nat} (L : LI ω γ M R x a h T v m d b nh r n c f) (hb : b ≤ 90000) {y : Nat} (hy : y < 10000000) : Ct l ω yL_changes cL_changes 12 (some .boolean) 8 0 0 [.ref x, .ref d, .ref (d + 1), .ref (d + 2), .ref (d + 3), .ref (d + 4), .int (nI 3), .int (nI y)] γ M R (lQ ω γ x a h T v m d b) := by
  refine Ct_of (by decide) (Nat.le_of_ble_eq_true rfl) rfl (jcat_of rfl) ?_
  intro X C E hnm hxl hxn
  subst hxl
  have hb0 : b ≤ 100000 := by omega
  obtain ⟨gx, gd, hvd, hdm, hjm, I, e, hx, A⟩ := L
  have CBH := CB_inv I.1 e I.2.2.2.2.1 hx
  have gx0 := gx.1
  obtain ⟨g0, g1, g2, g3, g4, g5⟩ := gd
  have Z := zRd_of e A.2.2.2.2.2.2.1
  have H := lRd_of A
  have Q := zPn_of e A.2.2.2.2.2.2.2.2 hb0
  have hS := A.1
  have P := A.2.2.2.2.1
  have hr30 := Z.2.1
  have hc6 := Z.2.2.2.2.1
  have hsh := e.2.2.2.2.2.2.2.1
  have hn8 : n ≤ 8 := hsh.2.2.1
  have s0 : M (m + 1) 0 = nI r := Z.1
  have s3 : M (m + 1) 3 = nI c := e.2.2.2.1.2.1
  have s4 : M (m + 1) 4 = nI n := hsh.2.1
  have hd := e.2.2.2.2.2.2.2.2
  have d0 : M d 0 = nI r := (hS 0 (by decide)).trans s0
  have d3 : M d 3 = nI c := (hS 3 (by decide)).trans s3
  have d4 : M d 4 = nI n := (hS 4 (by decide)).trans s4
  have J : LJ M R a h T v m b nh r n c 0 f := ⟨I, e, hx⟩
  have gdd : gD ω γ d := ⟨g0, g1, g2, g3, g4, g5⟩
  obtain ⟨k, hk⟩ : ∃ k, k = y % 8 := ⟨_, rfl⟩
  have hk8 : k < 8 := by omega
  refine j_iload C dL_changes_0 rfl ?_
  refine j_iconst C (nI 3) dL_changes_2 (by decide) ?_
  refine j_icmp_ge C 167 dL_changes_3 (by decide) (fun _ => ?_) (fun h => absurd (by decide) h)
  refine j_iload C dL_changes_167 rfl ?_
  refine j_iconst C (nI 3) dL_changes_169 (by decide) ?_
  refine j_icmp_ne C 264 dL_changes_170 (by decide) (fun h => absurd (rfl) h) (fun _ => ?_)
  refine j_iload C dL_changes_173 rfl ?_
  refine j_bipush C (nI 8) dL_changes_175 (by decide) ?_
  refine j_iremN C dL_changes_177 (by omega) (by decide) (by decide) ?_
  refine j_top (nI k) (by rw [hk]) ?_
  refine j_istore C dL_changes_178 (by rw [hxn]; decide) ?_
  refine j_iload C dL_changes_180 rfl ?_
  refine j_aload_n C dL_changes_182 rfl ?_
  refine j_iconst C (nI 0) dL_changes_183 (by decide) ?_
  refine j_ialdN C (by assumption) dL_changes_184 (by omega) (by decide) ?_
  refine j_top (nI r) (d0) ?_
  refine j_icmp_lt C 204 dL_changes_185 (by decide) (fun h185 => ?_) (fun h185 => ?_)
  · skip
    have hkr : k < r := (nI_ltI (by omega) (by omega)).mp h185
    refine j_aload_n C dL_changes_204 rfl ?_
    refine j_iload C dL_changes_205 rfl ?_
    refine j_cSi C (c_L_weight _ ω γ M R ⟨g0, g1, g2, g3, g4, g5⟩ H Z hkr) yc_L_weight mn_L_11 st_L_weight dL_changes_207 rfl rfl (Nat.le_of_ble_eq_true rfl) (by decide) ?_
    refine j_istore C dL_changes_210 (by rw [hxn]; decide) ?_
    refine j_aload_n C dL_changes_212 rfl ?_
    refine j_iconst C (nI 0) dL_changes_213 (by decide) ?_
    refine j_dup2 C dL_changes_214 rfl rfl ?_
    refine j_ialdN C (by assumption) dL_changes_215 (by omega) (by decide) ?_
    refine j_top (nI r) d0 ?_
    refine j_iconst C (nI 1) dL_changes_216 (by decide) ?_
    refine j_isubN C dL_changes_217 (by omega) ?_
    refine j_iastN C (by assumption) dL_changes_218 (by omega) (by decide) ?_
    refine j_mem (lDelK M d r k 0) (lDelK_0 _ _ _ _) ?_
    refine j_iload C dL_changes_219 rfl ?_
    refine j_istore C dL_changes_221 (by rw [hxn]; decide) ?_
    refine j_loop (r - 1 - k) (fun q => [(0, .ref x), (1, .ref d), (2, .ref (d + 1)), (3, .ref (d + 2)), (4, .ref (d + 3)), (5, .ref (d + 4)), (6, .int (nI 3)), (7, .int (nI y)), (8, .int (nI k)), (9, .int (M (m + 1) (29 + 5 * k + 4))), (10, .int (nI (k + q)))]) (fun q => lDelK M d r k q) (fun _ => R) (fun _ => True) trivial (fun q hq _ ih => ?_) (fun _ => ?_)
    · skip
      refine j_iload C dL_changes_223 rfl ?_
      refine j_aload_n C dL_changes_225 rfl ?_
      refine j_iconst C (nI 0) dL_changes_226 (by decide) ?_
      refine j_ialdN C (by assumption) dL_changes_227 (by omega) (by decide) ?_
      refine j_top (nI (r - 1)) (lDelK_n _ _ _ _ _) ?_
      refine j_icmp_ge C 247 dL_changes_228 (by decide) (fun h => absurd h (nI_ge (by omega) (by omega))) (fun _ => ?_)
      refine j_aload_n C dL_changes_231 rfl ?_
      refine j_iload C dL_changes_232 rfl ?_
      refine j_aload_n C dL_changes_234 rfl ?_
      refine j_iload C dL_changes_235 rfl ?_
      refine j_iconst C (nI 1) dL_changes_237 (by decide) ?_
      first | with_reducible refine j_iaddN C dL_changes_238 ?_ | refine j_iadd C dL_changes_238 ?_
      refine j_ialdN C (by assumption) dL_changes_239 (by omega) (by decide) ?_
      refine j_iastN C (by assumption) dL_changes_240 (by omega) (by decide) ?_
      refine j_mem (lDelK M d r k (q + 1)) (lDelK_s _ _ _ _ _) ?_
      first | refine j_iinc1 C dL_changes_241 rfl (by rw [hxn]; decide) ?_ | refine j_iinc C _ dL_changes_241 rfl rfl (by rw [hxn]; decide) ?_
      refine j_goto C 223 dL_changes_244 (by decide) ?_
      exact ih trivial
    · skip
      refine j_iload C dL_changes_223 rfl ?_
      refine j_aload_n C dL_changes_225 rfl ?_
      refine j_iconst C (nI 0) dL_changes_226 (by decide) ?_
      refine j_ialdN C (by assumption) dL_changes_227 (by omega) (by decide) ?_
      refine j_top (nI (r - 1)) (lDelK_n _ _ _ _ _) ?_
      refine j_icmp_ge C 247 dL_changes_228 (by decide) (fun _ => ?_) (fun h => absurd (by rw [show k + (r - 1 - k) = r - 1 by omega]; exact Int32.le_refl _) h)
      obtain ⟨M1, hM1⟩ : ∃ M1, M1 = lDel M d r k := ⟨_, rfl⟩
      refine j_mem M1 ((lDelK_e M hkr).trans hM1.symm) ?_
      obtain ⟨J1, eq1, M3, lo3, nh3, f3, J3, A3⟩ := op_drow J A hvd hdm hkr hM1
      refine j_aload_n C dL_changes_247 rfl ?_
      refine j_iload C dL_changes_248 rfl ?_
      refine j_cVi C (c_X9_dropRow _ ω γ M1 R gx J1.CB (nI k)) yc_X9_dropRow mn_L_84 im_X9_dropRow se_X9_dropRow rfl rfl dL_changes_250 rfl rfl (gx0) (by decide) (Nat.le_of_ble_eq_true rfl) (by decide) ?_
      refine j_top _ eq1 ?_
      refine j_ghost M3 (fun y hy => lo3 y (by omega)) ?_
      refine j_iload C dL_changes_253 rfl ?_
      refine j_icmp_ne C 262 dL_changes_255 (by decide) (fun h => absurd (rfl) h) (fun _ => ?_)
      refine j_iconst C (nI 1) dL_changes_258 (by decide) ?_
      refine j_goto C 263 dL_changes_259 (by decide) ?_
      exact j_ireturn C E dL_changes_263 (by decide) (by decide) (by decide) (lQ_of gx gdd hvd hdm hjm J3 (by omega) A3)
  · skip
    have hkr : r ≤ k := Nat.le_of_not_lt fun q => h185 (nI_lt q (by omega))
    refine j_aload_n C dL_changes_188 rfl ?_
    refine j_iload C dL_changes_189 rfl ?_
    obtain ⟨eq1, M3, lo3, nh3, f3, J3, A3⟩ := op_drowN J A hvd hdm hkr (by omega)
    refine j_cVi C (c_X9_dropRow _ ω γ M R gx CBH (nI k)) yc_X9_dropRow mn_L_84 im_X9_dropRow se_X9_dropRow rfl rfl dL_changes_191 rfl rfl (gx0) (by decide) (Nat.le_of_ble_eq_true rfl) (by decide) ?_
    refine j_top (-1) eq1 ?_
    refine j_ghost M3 (fun y hy => lo3 y (by omega)) ?_
    refine j_iconst C (-1) dL_changes_194 (by decide) ?_
    refine j_icmp_ne C 202 dL_changes_195 (by decide) (fun h => absurd (rfl) h) (fun _ => ?_)
    refine j_iconst C (nI 1) dL_changes_198 (by decide) ?_
    refine j_goto C 203 dL_changes_199 (by decide) ?_
    exact j_ireturn C E dL_changes_203 (by decide) (by decide) (by decide) (lQ_of gx gdd hvd hdm hjm J3 (by omega) A3)

set_option maxHeartbeats 4000000 in
set_option maxRecDepth 100000 in
theorem c_L_changes_set (l : Launch) (ω : jW) (γ : jG) (M : jM) (R : jR) {x a h T v m d b nh r n c : Nat} {f : Nat → Nat} (L : LI ω γ M R x a h T v m d b nh r n c f) (hb : b ≤ 90000) {way y : Nat} (hw : 8 ≤ way) (hw2 : way < 26) (hy : y < 10000000) : Ct l ω yL_changes cL_changes 12 (some .boolean) 8 0 0 [.ref x, .ref d, .ref (d + 1), .ref (d + 2), .ref (d + 3), .ref (d + 4), .int (nI way), .int (nI y)] γ M R (lQ ω γ x a h T v m d b) := by
  refine Ct_of (by decide) (Nat.le_of_ble_eq_true rfl) rfl (jcat_of rfl) ?_
  intro X C E hnm hxl hxn
  subst hxl
  have hb0 : b ≤ 100000 := by omega
  obtain ⟨gx, gd, hvd, hdm, hjm, I, e, hx, A⟩ := L
  have CBH := CB_inv I.1 e I.2.2.2.2.1 hx
  have gx0 := gx.1
  obtain ⟨g0, g1, g2, g3, g4, g5⟩ := gd
  have Z := zRd_of e A.2.2.2.2.2.2.1
  have H := lRd_of A
  have Q := zPn_of e A.2.2.2.2.2.2.2.2 hb0
  have hS := A.1
  have P := A.2.2.2.2.1
  have hr30 := Z.2.1
  have hc6 := Z.2.2.2.2.1
  have hsh := e.2.2.2.2.2.2.2.1
  have hn8 : n ≤ 8 := hsh.2.2.1
  have s0 : M (m + 1) 0 = nI r := Z.1
  have s3 : M (m + 1) 3 = nI c := e.2.2.2.1.2.1
  have s4 : M (m + 1) 4 = nI n := hsh.2.1
  have hd := e.2.2.2.2.2.2.2.2
  have d0 : M d 0 = nI r := (hS 0 (by decide)).trans s0
  have d3 : M d 3 = nI c := (hS 3 (by decide)).trans s3
  have d4 : M d 4 = nI n := (hS 4 (by decide)).trans s4
  have J : LJ M R a h T v m b nh r n c 0 f := ⟨I, e, hx⟩
  have gdd : gD ω γ d := ⟨g0, g1, g2, g3, g4, g5⟩
  obtain ⟨k, hk⟩ : ∃ k, k = y % 5 := ⟨_, rfl⟩
  have hk5 : k < 5 := by omega
  refine j_iload C dL_changes_0 rfl ?_
  refine j_iconst C (nI 3) dL_changes_2 (by decide) ?_
  refine j_icmp_ge C 167 dL_changes_3 (by decide) (fun _ => ?_) (fun h => absurd (nI_le (by omega) (by omega)) h)
  refine j_iload C dL_changes_167 rfl ?_
  refine j_iconst C (nI 3) dL_changes_169 (by decide) ?_
  refine j_icmp_ne C 264 dL_changes_170 (by decide) (fun _ => ?_) (fun h => absurd h (fun q => by have := nI_inj q (by omega) (by decide); omega))
  refine j_iload C dL_changes_264 rfl ?_
  refine j_bipush C (nI 6) dL_changes_266 (by decide) ?_
  refine j_icmp_ge C 461 dL_changes_268 (by decide) (fun _ => ?_) (fun h => absurd (nI_le (by omega) (by omega)) h)
  refine j_iload C dL_changes_461 rfl ?_
  refine j_bipush C (nI 8) dL_changes_463 (by decide) ?_
  refine j_icmp_ge C 580 dL_changes_465 (by decide) (fun _ => ?_) (fun h => absurd (nI_le (by omega) (by omega)) h)
  refine j_iload C dL_changes_580 rfl ?_
  refine j_iconst C (nI 5) dL_changes_582 (by decide) ?_
  refine j_iremN C dL_changes_583 (by omega) (by decide) (by decide) ?_
  refine j_top (nI k) (by rw [hk]) ?_
  refine j_istore C dL_changes_584 (by rw [hxn]; decide) ?_
  refine j_aload_n C dL_changes_586 rfl ?_
  refine j_bipush C (nI 11) dL_changes_587 (by decide) ?_
  refine j_iload C dL_changes_589 rfl ?_
  first | with_reducible refine j_iaddN C dL_changes_591 ?_ | refine j_iadd C dL_changes_591 ?_
  refine j_ialdN C (by assumption) dL_changes_592 (by omega) (by decide) ?_
  refine j_top (M (m + 1) (11 + k)) (hS _ (by omega)) ?_
  refine j_istore C dL_changes_593 (by rw [hxn]; decide) ?_
  refine j_aload_n C dL_changes_595 rfl ?_
  refine j_bipush C (nI 11) dL_changes_596 (by decide) ?_
  refine j_iload C dL_changes_598 rfl ?_
  first | with_reducible refine j_iaddN C dL_changes_600 ?_ | refine j_iadd C dL_changes_600 ?_
  refine j_iload C dL_changes_601 rfl ?_
  refine j_iconst C (nI 2) dL_changes_603 (by decide) ?_
  refine j_icmp_ge C 631 dL_changes_604 (by decide) (fun h604 => ?_) (fun h604 => ?_)
  · skip
    have k2 : 2 ≤ k := (nI_leI (by decide) (by omega)).mp h604
    refine j_iload C dL_changes_631 rfl ?_
    refine j_iconst C (nI 2) dL_changes_633 (by decide) ?_
    refine j_icmp_ne C 649 dL_changes_634 (by decide) (fun h634 => ?_) (fun h634 => ?_)
    · skip
      have k3 : ¬ k = 2 := fun q => h634 (by rw [q])
      refine j_iload C dL_changes_649 rfl ?_
      refine j_iconst C (nI 3) dL_changes_651 (by decide) ?_
      refine j_icmp_ne C 666 dL_changes_652 (by decide) (fun h652 => ?_) (fun h652 => ?_)
      · skip
        have k4 : ¬ k = 3 := fun q => h652 (by rw [q])
        refine j_iconst C (nI 1) dL_changes_666 (by decide) ?_
        refine j_iload C dL_changes_667 rfl ?_
        refine j_iconst C (nI 5) dL_changes_669 (by decide) ?_
        refine j_idivN C dL_changes_670 (by omega) (by decide) (by decide) ?_
        refine j_bipush C (nI 8) dL_changes_671 (by decide) ?_
        refine j_iremN C dL_changes_673 (by omega) (by decide) (by decide) ?_
        first | with_reducible refine j_iaddN C dL_changes_674 ?_ | refine j_iadd C dL_changes_674 ?_
        obtain ⟨z, hz, hy9⟩ : ∃ z, z = 1 + y / 5 % 8 ∧ (if k < 2 then z ≤ 1000 else if k = 2 then 1 ≤ z ∧ z ≤ 9 else if k = 3 then 1 ≤ z ∧ z ≤ 4 else 1 ≤ z ∧ z ≤ 8) := ⟨_, rfl, by rw [if_neg (by omega), if_neg k3, if_neg k4]; omega⟩
        refine j_top (nI z) (by rw [hz]) ?_
        refine j_iastN C (by assumption) dL_changes_675 (by omega) (by decide) ?_
        obtain ⟨M1, hM1⟩ : ∃ M1, M1 = jup M d (11 + k) (nI z) := ⟨_, rfl⟩
        refine j_mem M1 hM1.symm ?_
        obtain ⟨J1, eq1, M3, lo3, nh3, f3, J3, A3⟩ := op_set J A hvd hdm hk5 hy9 hM1
        refine j_aload_n C dL_changes_676 rfl ?_
        refine j_iload C dL_changes_677 rfl ?_
        refine j_aload_n C dL_changes_679 rfl ?_
        refine j_bipush C (nI 11) dL_changes_680 (by decide) ?_
        refine j_iload C dL_changes_682 rfl ?_
        first | with_reducible refine j_iaddN C dL_changes_684 ?_ | refine j_iadd C dL_changes_684 ?_
        refine j_ialdN C (by assumption) dL_changes_685 (by omega) (by decide) ?_
        refine j_top (nI z) (by rw [hM1, jup_eq]) ?_
        refine j_cVi C (c_X9_set _ ω γ M1 R gx J1.CB (nI k) (nI z)) yc_X9_set mn_L_94 im_X9_set se_X9_set rfl rfl dL_changes_686 rfl rfl (gx0) (by decide) (Nat.le_of_ble_eq_true rfl) (by decide) ?_
        refine j_top _ eq1 ?_
        refine j_ghost M3 (fun y hy => lo3 y (by omega)) ?_
        refine j_iload C dL_changes_689 rfl ?_
        refine j_icmp_ne C 698 dL_changes_691 (by decide) (fun h => absurd (rfl) h) (fun _ => ?_)
        refine j_iconst C (nI 1) dL_changes_694 (by decide) ?_
        refine j_goto C 699 dL_changes_695 (by decide) ?_
        exact j_ireturn C E dL_changes_699 (by decide) (by decide) (by decide) (lQ_of gx gdd hvd hdm hjm J3 (by omega) A3)
      · skip
        have k4 : k = 3 := nI_inj h652 (by omega) (by decide)
        refine j_iconst C (nI 1) dL_changes_655 (by decide) ?_
        refine j_iload C dL_changes_656 rfl ?_
        refine j_iconst C (nI 5) dL_changes_658 (by decide) ?_
        refine j_idivN C dL_changes_659 (by omega) (by decide) (by decide) ?_
        refine j_iconst C (nI 4) dL_changes_660 (by decide) ?_
        refine j_iremN C dL_changes_661 (by omega) (by decide) (by decide) ?_
        first | with_reducible refine j_iaddN C dL_changes_662 ?_ | refine j_iadd C dL_changes_662 ?_
        refine j_goto C 675 dL_changes_663 (by decide) ?_
        obtain ⟨z, hz, hy9⟩ : ∃ z, z = 1 + y / 5 % 4 ∧ (if k < 2 then z ≤ 1000 else if k = 2 then 1 ≤ z ∧ z ≤ 9 else if k = 3 then 1 ≤ z ∧ z ≤ 4 else 1 ≤ z ∧ z ≤ 8) := ⟨_, rfl, by rw [if_neg (by omega), if_neg k3, if_pos k4]; omega⟩
        refine j_top (nI z) (by rw [hz]) ?_
        refine j_iastN C (by assumption) dL_changes_675 (by omega) (by decide) ?_
        obtain ⟨M1, hM1⟩ : ∃ M1, M1 = jup M d (11 + k) (nI z) := ⟨_, rfl⟩
        refine j_mem M1 hM1.symm ?_
        obtain ⟨J1, eq1, M3, lo3, nh3, f3, J3, A3⟩ := op_set J A hvd hdm hk5 hy9 hM1
        refine j_aload_n C dL_changes_676 rfl ?_
        refine j_iload C dL_changes_677 rfl ?_
        refine j_aload_n C dL_changes_679 rfl ?_
        refine j_bipush C (nI 11) dL_changes_680 (by decide) ?_
        refine j_iload C dL_changes_682 rfl ?_
        first | with_reducible refine j_iaddN C dL_changes_684 ?_ | refine j_iadd C dL_changes_684 ?_
        refine j_ialdN C (by assumption) dL_changes_685 (by omega) (by decide) ?_
        refine j_top (nI z) (by rw [hM1, jup_eq]) ?_
        refine j_cVi C (c_X9_set _ ω γ M1 R gx J1.CB (nI k) (nI z)) yc_X9_set mn_L_94 im_X9_set se_X9_set rfl rfl dL_changes_686 rfl rfl (gx0) (by decide) (Nat.le_of_ble_eq_true rfl) (by decide) ?_
        refine j_top _ eq1 ?_
        refine j_ghost M3 (fun y hy => lo3 y (by omega)) ?_
        refine j_iload C dL_changes_689 rfl ?_
        refine j_icmp_ne C 698 dL_changes_691 (by decide) (fun h => absurd (rfl) h) (fun _ => ?_)
        refine j_iconst C (nI 1) dL_changes_694 (by decide) ?_
        refine j_goto C 699 dL_changes_695 (by decide) ?_
        exact j_ireturn C E dL_changes_699 (by decide) (by decide) (by decide) (lQ_of gx gdd hvd hdm hjm J3 (by omega) A3)
    · skip
      have k3 : k = 2 := nI_inj h634 (by omega) (by decide)
      refine j_iconst C (nI 1) dL_changes_637 (by decide) ?_
      refine j_iload C dL_changes_638 rfl ?_
      refine j_iconst C (nI 5) dL_changes_640 (by decide) ?_
      refine j_idivN C dL_changes_641 (by omega) (by decide) (by decide) ?_
      refine j_bipush C (nI 9) dL_changes_642 (by decide) ?_
      refine j_iremN C dL_changes_644 (by omega) (by decide) (by decide) ?_
      first | with_reducible refine j_iaddN C dL_changes_645 ?_ | refine j_iadd C dL_changes_645 ?_
      refine j_goto C 675 dL_changes_646 (by decide) ?_
      obtain ⟨z, hz, hy9⟩ : ∃ z, z = 1 + y / 5 % 9 ∧ (if k < 2 then z ≤ 1000 else if k = 2 then 1 ≤ z ∧ z ≤ 9 else if k = 3 then 1 ≤ z ∧ z ≤ 4 else 1 ≤ z ∧ z ≤ 8) := ⟨_, rfl, by rw [if_neg (by omega), if_pos k3]; omega⟩
      refine j_top (nI z) (by rw [hz]) ?_
      refine j_iastN C (by assumption) dL_changes_675 (by omega) (by decide) ?_
      obtain ⟨M1, hM1⟩ : ∃ M1, M1 = jup M d (11 + k) (nI z) := ⟨_, rfl⟩
      refine j_mem M1 hM1.symm ?_
      obtain ⟨J1, eq1, M3, lo3, nh3, f3, J3, A3⟩ := op_set J A hvd hdm hk5 hy9 hM1
      refine j_aload_n C dL_changes_676 rfl ?_
      refine j_iload C dL_changes_677 rfl ?_
      refine j_aload_n C dL_changes_679 rfl ?_
      refine j_bipush C (nI 11) dL_changes_680 (by decide) ?_
      refine j_iload C dL_changes_682 rfl ?_
      first | with_reducible refine j_iaddN C dL_changes_684 ?_ | refine j_iadd C dL_changes_684 ?_
      refine j_ialdN C (by assumption) dL_changes_685 (by omega) (by decide) ?_
      refine j_top (nI z) (by rw [hM1, jup_eq]) ?_
      refine j_cVi C (c_X9_set _ ω γ M1 R gx J1.CB (nI k) (nI z)) yc_X9_set mn_L_94 im_X9_set se_X9_set rfl rfl dL_changes_686 rfl rfl (gx0) (by decide) (Nat.le_of_ble_eq_true rfl) (by decide) ?_
      refine j_top _ eq1 ?_
      refine j_ghost M3 (fun y hy => lo3 y (by omega)) ?_
      refine j_iload C dL_changes_689 rfl ?_
      refine j_icmp_ne C 698 dL_changes_691 (by decide) (fun h => absurd (rfl) h) (fun _ => ?_)
      refine j_iconst C (nI 1) dL_changes_694 (by decide) ?_
      refine j_goto C 699 dL_changes_695 (by decide) ?_
      exact j_ireturn C E dL_changes_699 (by decide) (by decide) (by decide) (lQ_of gx gdd hvd hdm hjm J3 (by omega) A3)
  · skip
    have k2 : k < 2 := Nat.lt_of_not_le fun q => h604 (nI_le q (by omega))
    refine j_iload C dL_changes_607 rfl ?_
    refine j_iconst C (nI 5) dL_changes_609 (by decide) ?_
    refine j_idivN C dL_changes_610 (by omega) (by decide) (by decide) ?_
    refine j_iload C dL_changes_611 rfl ?_
    refine j_iconst C (nI 3) dL_changes_613 (by decide) ?_
    refine j_iremN C dL_changes_614 (by omega) (by decide) (by decide) ?_
    refine j_if_ne C 624 dL_changes_615 (by decide) (fun h615 => ?_) (fun h615 => ?_)
    · skip
      refine j_sipush C (nI 500) dL_changes_624 (by decide) ?_
      refine j_iremN C dL_changes_627 (by omega) (by decide) (by decide) ?_
      refine j_goto C 675 dL_changes_628 (by decide) ?_
      obtain ⟨z, hz, hy9⟩ : ∃ z, z = y / 5 % 500 ∧ (if k < 2 then z ≤ 1000 else if k = 2 then 1 ≤ z ∧ z ≤ 9 else if k = 3 then 1 ≤ z ∧ z ≤ 4 else 1 ≤ z ∧ z ≤ 8) := ⟨_, rfl, by rw [if_pos k2]; omega⟩
      refine j_top (nI z) (by rw [hz]) ?_
      refine j_iastN C (by assumption) dL_changes_675 (by omega) (by decide) ?_
      obtain ⟨M1, hM1⟩ : ∃ M1, M1 = jup M d (11 + k) (nI z) := ⟨_, rfl⟩
      refine j_mem M1 hM1.symm ?_
      obtain ⟨J1, eq1, M3, lo3, nh3, f3, J3, A3⟩ := op_set J A hvd hdm hk5 hy9 hM1
      refine j_aload_n C dL_changes_676 rfl ?_
      refine j_iload C dL_changes_677 rfl ?_
      refine j_aload_n C dL_changes_679 rfl ?_
      refine j_bipush C (nI 11) dL_changes_680 (by decide) ?_
      refine j_iload C dL_changes_682 rfl ?_
      first | with_reducible refine j_iaddN C dL_changes_684 ?_ | refine j_iadd C dL_changes_684 ?_
      refine j_ialdN C (by assumption) dL_changes_685 (by omega) (by decide) ?_
      refine j_top (nI z) (by rw [hM1, jup_eq]) ?_
      refine j_cVi C (c_X9_set _ ω γ M1 R gx J1.CB (nI k) (nI z)) yc_X9_set mn_L_94 im_X9_set se_X9_set rfl rfl dL_changes_686 rfl rfl (gx0) (by decide) (Nat.le_of_ble_eq_true rfl) (by decide) ?_
      refine j_top _ eq1 ?_
      refine j_ghost M3 (fun y hy => lo3 y (by omega)) ?_
      refine j_iload C dL_changes_689 rfl ?_
      refine j_icmp_ne C 698 dL_changes_691 (by decide) (fun h => absurd (rfl) h) (fun _ => ?_)
      refine j_iconst C (nI 1) dL_changes_694 (by decide) ?_
      refine j_goto C 699 dL_changes_695 (by decide) ?_
      exact j_ireturn C E dL_changes_699 (by decide) (by decide) (by decide) (lQ_of gx gdd hvd hdm hjm J3 (by omega) A3)
    · skip
      refine j_sipush C (nI 1001) dL_changes_618 (by decide) ?_
      refine j_goto C 627 dL_changes_621 (by decide) ?_
      refine j_iremN C dL_changes_627 (by omega) (by decide) (by decide) ?_
      refine j_goto C 675 dL_changes_628 (by decide) ?_
      obtain ⟨z, hz, hy9⟩ : ∃ z, z = y / 5 % 1001 ∧ (if k < 2 then z ≤ 1000 else if k = 2 then 1 ≤ z ∧ z ≤ 9 else if k = 3 then 1 ≤ z ∧ z ≤ 4 else 1 ≤ z ∧ z ≤ 8) := ⟨_, rfl, by rw [if_pos k2]; omega⟩
      refine j_top (nI z) (by rw [hz]) ?_
      refine j_iastN C (by assumption) dL_changes_675 (by omega) (by decide) ?_
      obtain ⟨M1, hM1⟩ : ∃ M1, M1 = jup M d (11 + k) (nI z) := ⟨_, rfl⟩
      refine j_mem M1 hM1.symm ?_
      obtain ⟨J1, eq1, M3, lo3, nh3, f3, J3, A3⟩ := op_set J A hvd hdm hk5 hy9 hM1
      refine j_aload_n C dL_changes_676 rfl ?_
      refine j_iload C dL_changes_677 rfl ?_
      refine j_aload_n C dL_changes_679 rfl ?_
      refine j_bipush C (nI 11) dL_changes_680 (by decide) ?_
      refine j_iload C dL_changes_682 rfl ?_
      first | with_reducible refine j_iaddN C dL_changes_684 ?_ | refine j_iadd C dL_changes_684 ?_
      refine j_ialdN C (by assumption) dL_changes_685 (by omega) (by decide) ?_
      refine j_top (nI z) (by rw [hM1, jup_eq]) ?_
      refine j_cVi C (c_X9_set _ ω γ M1 R gx J1.CB (nI k) (nI z)) yc_X9_set mn_L_94 im_X9_set se_X9_set rfl rfl dL_changes_686 rfl rfl (gx0) (by decide) (Nat.le_of_ble_eq_true rfl) (by decide) ?_
      refine j_top _ eq1 ?_
      refine j_ghost M3 (fun y hy => lo3 y (by omega)) ?_
      refine j_iload C dL_changes_689 rfl ?_
      refine j_icmp_ne C 698 dL_changes_691 (by decide) (fun h => absurd (rfl) h) (fun _ => ?_)
      refine j_iconst C (nI 1) dL_changes_694 (by decide) ?_
      refine j_goto C 699 dL_changes_695 (by decide) ?_
      exact j_ireturn C E dL_changes_699 (by decide) (by decide) (by decide) (lQ_of gx gdd hvd hdm hjm J3 (by omega) A3)
