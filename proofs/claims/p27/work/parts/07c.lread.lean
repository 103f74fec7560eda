set_option maxHeartbeats 4000000 in
set_option maxRecDepth 100000 in
theorem c_L_areRows (l : Launch) (ω : jW) (γ : jG) (M : jM) (R : jR) {x a h T v m d b nh r n c : Nat} {f : Nat → Nat} (L : LI ω γ M R x a h T v m d b nh r n c f) (hb : b ≤ 100000)  : Ct l ω yL_areRows cL_areRows 7 (some .boolean) 6 0 0 [.ref x, .ref d, .ref (d + 1), .ref (d + 2)] γ M R (jx γ (some (.int (nI 1))) M R) := by
  refine Ct_of (by decide) (Nat.le_of_ble_eq_true rfl) rfl (jcat_of rfl) ?_
  intro X C E hnm hxl hxn
  subst hxl
  obtain ⟨gx, gd, hvd, hdm, hjm, I, e, hx, A⟩ := L
  have CBH := CB_inv I.1 e I.2.2.2.2.1 hx
  have gx0 := gx.1
  obtain ⟨g0, g1, g2, g3, g4, g5⟩ := gd
  have Z := zRd_of e A.2.2.2.2.2.2.1
  have H := lRd_of A
  have Q := zPn_of e A.2.2.2.2.2.2.2.2 hb
  have hS := A.1
  have P := A.2.2.2.2.1
  have hr30 := Z.2.1
  have hc6 := Z.2.2.2.2.1
  have hsh := e.2.2.2.2.2.2.2.1
  have hn8 : n ≤ 8 := hsh.2.2.1
  have s0 : M (m + 1) 0 = nI r := Z.1
  have s3 : M (m + 1) 3 = nI c := e.2.2.2.1.2.1
  have s4 : M (m + 1) 4 = nI n := hsh.2.1
  have hd := e.2.2.2.2.2.2.2.2
  have d0 : M d 0 = nI r := (hS 0 (by decide)).trans s0
  have d3 : M d 3 = nI c := (hS 3 (by decide)).trans s3
  have d4 : M d 4 = nI n := (hS 4 (by decide)).trans s4
  refine j_iconst C (nI 1) dL_areRows_0 (by decide) ?_
  refine j_istore C dL_areRows_1 (by rw [hxn]; decide) ?_
  refine j_iconst C (nI 0) dL_areRows_3 (by decide) ?_
  refine j_istore C dL_areRows_4 (by rw [hxn]; decide) ?_
  refine j_loop r (fun q => [(0, .ref x), (1, .ref d), (2, .ref (d + 1)), (3, .ref (d + 2)), (4, .int (nI 1)), (5, .int (nI q))]) (fun _ => M) (fun _ => R) (fun _ => True) trivial (fun q hq _ ih => ?_) (fun _ => ?_)
  · skip
    refine j_iload C dL_areRows_6 rfl ?_
    refine j_aload_n C dL_areRows_8 rfl ?_
    refine j_iconst C (nI 0) dL_areRows_9 (by decide) ?_
    refine j_ialdN C (by assumption) dL_areRows_10 (by omega) (by decide) ?_
    refine j_top (nI r) (d0) ?_
    refine j_icmp_ge C 110 dL_areRows_11 (by decide) (fun h => absurd h (nI_ge hq (by omega))) (fun _ => ?_)
    refine j_iload C dL_areRows_14 rfl ?_
    refine j_if_eq C 110 dL_areRows_16 (by decide) (fun h => absurd h (by decide)) (fun _ => ?_)
    refine j_iconst C (nI 0) dL_areRows_19 (by decide) ?_
    refine j_istore C dL_areRows_20 (by rw [hxn]; decide) ?_
    refine j_loop 4 (fun j => [(0, .ref x), (1, .ref d), (2, .ref (d + 1)), (3, .ref (d + 2)), (4, .int (nI 1)), (5, .int (nI q)), (6, .int (nI j))]) (fun _ => M) (fun _ => R) (fun _ => True) trivial (fun j hj _ ih2 => ?_) (fun _ => ?_)
    · skip
      refine j_iload C dL_areRows_22 rfl ?_
      refine j_iconst C (nI 4) dL_areRows_24 (by decide) ?_
      refine j_icmp_ge C 65 dL_areRows_25 (by decide) (fun h => absurd h (nI_ge hj (by decide))) (fun _ => ?_)
      refine j_iload C dL_areRows_28 rfl ?_
      refine j_if_eq C 56 dL_areRows_30 (by decide) (fun h => absurd h (by decide)) (fun _ => ?_)
      refine j_aload_n C dL_areRows_33 rfl ?_
      refine j_iload C dL_areRows_34 rfl ?_
      refine j_iload C dL_areRows_36 rfl ?_
      refine j_cVi C (c_X9_rowOf _ ω γ M R gx CBH (nI q) (nI j)) yc_X9_rowOf mn_L_126 im_X9_rowOf se_X9_rowOf rfl rfl dL_areRows_38 rfl rfl (gx0) (by decide) (Nat.le_of_ble_eq_true rfl) (by decide) ?_
      refine j_top ((M (m + 1)) (29 + 5 * q + j)) ((st_rowOf e _ _).trans (zv_row Z hq (by omega))) ?_
      refine j_aload_n C dL_areRows_41 rfl ?_
      refine j_iload C dL_areRows_42 rfl ?_
      refine j_iload C dL_areRows_44 rfl ?_
      refine j_cSi C (c_L_of _ ω γ M R ⟨g0, g1, g2, g3, g4, g5⟩ H Z hq hj) yc_L_of mn_L_25 st_L_of dL_areRows_46 rfl rfl (Nat.le_of_ble_eq_true rfl) (by decide) ?_
      refine j_icmp_ne C 56 dL_areRows_49 (by decide) (fun h => absurd (rfl) h) (fun _ => ?_)
      refine j_iconst C (nI 1) dL_areRows_52 (by decide) ?_
      refine j_goto C 57 dL_areRows_53 (by decide) ?_
      refine j_istore C dL_areRows_57 (by rw [hxn]; decide) ?_
      first | refine j_iinc1 C dL_areRows_59 rfl (by rw [hxn]; decide) ?_ | refine j_iinc C _ dL_areRows_59 rfl rfl (by rw [hxn]; decide) ?_
      refine j_goto C 22 dL_areRows_62 (by decide) ?_
      exact ih2 trivial
    · skip
      refine j_iload C dL_areRows_22 rfl ?_
      refine j_iconst C (nI 4) dL_areRows_24 (by decide) ?_
      refine j_icmp_ge C 65 dL_areRows_25 (by decide) (fun _ => ?_) (fun h => absurd (Int32.le_refl _) h)
      refine j_iload C dL_areRows_65 rfl ?_
      refine j_if_eq C 101 dL_areRows_67 (by decide) (fun h => absurd h (by decide)) (fun _ => ?_)
      refine j_aload_n C dL_areRows_70 rfl ?_
      refine j_iload C dL_areRows_71 rfl ?_
      refine j_iconst C (nI 4) dL_areRows_73 (by decide) ?_
      refine j_cVi C (c_X9_rowOf _ ω γ M R gx CBH (nI q) (nI 4)) yc_X9_rowOf mn_L_126 im_X9_rowOf se_X9_rowOf rfl rfl dL_areRows_74 rfl rfl (gx0) (by decide) (Nat.le_of_ble_eq_true rfl) (by decide) ?_
      refine j_top ((M (m + 1)) (29 + 5 * q + 4)) ((st_rowOf e _ _).trans (zv_row Z hq (by decide))) ?_
      refine j_aload_n C dL_areRows_77 rfl ?_
      refine j_iload C dL_areRows_78 rfl ?_
      refine j_cSi C (c_L_weight _ ω γ M R ⟨g0, g1, g2, g3, g4, g5⟩ H Z hq) yc_L_weight mn_L_11 st_L_weight dL_areRows_80 rfl rfl (Nat.le_of_ble_eq_true rfl) (by decide) ?_
      refine j_icmp_ne C 101 dL_areRows_83 (by decide) (fun h => absurd (rfl) h) (fun _ => ?_)
      refine j_aload_n C dL_areRows_86 rfl ?_
      refine j_iload C dL_areRows_87 rfl ?_
      refine j_iconst C (nI 5) dL_areRows_89 (by decide) ?_
      refine j_cVi C (c_X9_rowOf _ ω γ M R gx CBH (nI q) (nI 5)) yc_X9_rowOf mn_L_126 im_X9_rowOf se_X9_rowOf rfl rfl dL_areRows_90 rfl rfl (gx0) (by decide) (Nat.le_of_ble_eq_true rfl) (by decide) ?_
      refine j_top (-1) ((st_rowOf e _ _).trans (zv_row5 _ _)) ?_
      refine j_iconst C (-1) dL_areRows_93 (by decide) ?_
      refine j_icmp_ne C 101 dL_areRows_94 (by decide) (fun h => absurd (rfl) h) (fun _ => ?_)
      refine j_iconst C (nI 1) dL_areRows_97 (by decide) ?_
      refine j_goto C 102 dL_areRows_98 (by decide) ?_
      refine j_istore C dL_areRows_102 (by rw [hxn]; decide) ?_
      first | refine j_iinc1 C dL_areRows_104 rfl (by rw [hxn]; decide) ?_ | refine j_iinc C _ dL_areRows_104 rfl rfl (by rw [hxn]; decide) ?_
      refine j_goto C 6 dL_areRows_107 (by decide) ?_
      refine j_locs [0, 1, 2, 3, 4, 5] (l' := [(0, .ref x), (1, .ref d), (2, .ref (d + 1)), (3, .ref (d + 2)), (4, .int (nI 1)), (5, .int (nI (q + 1)))]) rfl ?_
      exact ih trivial
  · skip
    refine j_iload C dL_areRows_6 rfl ?_
    refine j_aload_n C dL_areRows_8 rfl ?_
    refine j_iconst C (nI 0) dL_areRows_9 (by decide) ?_
    refine j_ialdN C (by assumption) dL_areRows_10 (by omega) (by decide) ?_
    refine j_top (nI r) (d0) ?_
    refine j_icmp_ge C 110 dL_areRows_11 (by decide) (fun _ => ?_) (fun h => absurd (Int32.le_refl _) h)
    refine j_iconst C (nI 0) dL_areRows_110 (by decide) ?_
    refine j_istore C dL_areRows_111 (by rw [hxn]; decide) ?_
    refine j_iconst C (nI 0) dL_areRows_113 (by decide) ?_
    refine j_istore C dL_areRows_114 (by rw [hxn]; decide) ?_
    refine j_locs [0, 1, 2, 3, 4, 5, 6] (l' := [(0, .ref x), (1, .ref d), (2, .ref (d + 1)), (3, .ref (d + 2)), (4, .int (nI 1)), (5, .int (sI (fun i => (M (m + 1)) (179 + i)) 0)), (6, .int (nI 0))]) rfl ?_
    refine j_loop 128 (fun q => [(0, .ref x), (1, .ref d), (2, .ref (d + 1)), (3, .ref (d + 2)), (4, .int (nI 1)), (5, .int (sI (fun i => (M (m + 1)) (179 + i)) q)), (6, .int (nI q))]) (fun _ => M) (fun _ => R) (fun _ => True) trivial (fun q hq _ ih => ?_) (fun _ => ?_)
    · skip
      refine j_iload C dL_areRows_116 rfl ?_
      refine j_sipush C (nI 128) dL_areRows_118 (by decide) ?_
      refine j_icmp_ge C 192 dL_areRows_121 (by decide) (fun h => absurd h (nI_ge hq (by decide))) (fun _ => ?_)
      refine j_iload C dL_areRows_124 rfl ?_
      refine j_if_eq C 192 dL_areRows_126 (by decide) (fun h => absurd h (by decide)) (fun _ => ?_)
      refine j_iload C dL_areRows_129 rfl ?_
      refine j_aload_n C dL_areRows_131 rfl ?_
      refine j_iload C dL_areRows_132 rfl ?_
      refine j_bipush C (nI 32) dL_areRows_134 (by decide) ?_
      refine j_idivN C dL_areRows_136 (by omega) (by decide) (by decide) ?_
      refine j_iload C dL_areRows_137 rfl ?_
      refine j_bipush C (nI 32) dL_areRows_139 (by decide) ?_
      refine j_iremN C dL_areRows_141 (by omega) (by decide) (by decide) ?_
      refine j_cSi C (c_L_known _ ω γ M R ⟨g0, g1, g2, g3, g4, g5⟩ H Z (j := q / 32) (v := q % 32) (by omega) (by omega)) yc_L_known mn_L_21 st_L_known dL_areRows_142 rfl rfl (Nat.le_of_ble_eq_true rfl) (by decide) ?_
      refine j_top ((M (m + 1)) (179 + q)) (by congr 1; omega) ?_
      first | with_reducible refine j_iaddN C dL_areRows_145 ?_ | refine j_iadd C dL_areRows_145 ?_
      refine j_top (sI (fun i => (M (m + 1)) (179 + i)) (q + 1)) rfl ?_
      refine j_istore C dL_areRows_146 (by rw [hxn]; decide) ?_
      refine j_aload_n C dL_areRows_148 rfl ?_
      refine j_iload C dL_areRows_149 rfl ?_
      refine j_bipush C (nI 32) dL_areRows_151 (by decide) ?_
      refine j_idivN C dL_areRows_153 (by omega) (by decide) (by decide) ?_
      refine j_iload C dL_areRows_154 rfl ?_
      refine j_bipush C (nI 32) dL_areRows_156 (by decide) ?_
      refine j_iremN C dL_areRows_158 (by omega) (by decide) (by decide) ?_
      refine j_cVi C (c_X9_known _ ω γ M R gx CBH (nI (q / 32)) (nI (q % 32))) yc_X9_known mn_L_129 im_X9_known se_X9_known rfl rfl dL_areRows_159 rfl rfl (gx0) (by decide) (Nat.le_of_ble_eq_true rfl) (by decide) ?_
      refine j_top ((M (m + 1)) (179 + 32 * (q / 32) + q % 32)) ((st_known e _ _).trans (zv_kn _ (by omega) (by omega))) ?_
      refine j_aload_n C dL_areRows_162 rfl ?_
      refine j_iload C dL_areRows_163 rfl ?_
      refine j_bipush C (nI 32) dL_areRows_165 (by decide) ?_
      refine j_idivN C dL_areRows_167 (by omega) (by decide) (by decide) ?_
      refine j_iload C dL_areRows_168 rfl ?_
      refine j_bipush C (nI 32) dL_areRows_170 (by decide) ?_
      refine j_iremN C dL_areRows_172 (by omega) (by decide) (by decide) ?_
      refine j_cSi C (c_L_known _ ω γ M R ⟨g0, g1, g2, g3, g4, g5⟩ H Z (j := q / 32) (v := q % 32) (by omega) (by omega)) yc_L_known mn_L_21 st_L_known dL_areRows_173 rfl rfl (Nat.le_of_ble_eq_true rfl) (by decide) ?_
      refine j_icmp_ne C 183 dL_areRows_176 (by decide) (fun h => absurd (rfl) h) (fun _ => ?_)
      refine j_iconst C (nI 1) dL_areRows_179 (by decide) ?_
      refine j_goto C 184 dL_areRows_180 (by decide) ?_
      refine j_istore C dL_areRows_184 (by rw [hxn]; decide) ?_
      first | refine j_iinc1 C dL_areRows_186 rfl (by rw [hxn]; decide) ?_ | refine j_iinc C _ dL_areRows_186 rfl rfl (by rw [hxn]; decide) ?_
      refine j_goto C 116 dL_areRows_189 (by decide) ?_
      exact ih trivial
    · skip
      refine j_iload C dL_areRows_116 rfl ?_
      refine j_sipush C (nI 128) dL_areRows_118 (by decide) ?_
      refine j_icmp_ge C 192 dL_areRows_121 (by decide) (fun _ => ?_) (fun h => absurd (Int32.le_refl _) h)
      refine j_iload C dL_areRows_192 rfl ?_
      refine j_if_eq C 244 dL_areRows_194 (by decide) (fun h => absurd h (by decide)) (fun _ => ?_)
      refine j_iload C dL_areRows_197 rfl ?_
      refine j_iconst C (nI 4) dL_areRows_199 (by decide) ?_
      refine j_aload_n C dL_areRows_200 rfl ?_
      refine j_iconst C (nI 2) dL_areRows_201 (by decide) ?_
      refine j_ialdN C (by assumption) dL_areRows_202 (by omega) (by decide) ?_
      refine j_top (M (m + 1) 2) (hS 2 (by decide)) ?_
      refine j_imul C dL_areRows_203 ?_
      refine j_icmp_ne C 244 dL_areRows_204 (by decide) (fun h => absurd (A.2.2.2.2.2.2.1.2) h) (fun _ => ?_)
      refine j_aload_n C dL_areRows_207 rfl ?_
      refine j_aload_n C dL_areRows_208 rfl ?_
      refine j_iconst C (nI 0) dL_areRows_209 (by decide) ?_
      refine j_ialdN C (by assumption) dL_areRows_210 (by omega) (by decide) ?_
      refine j_top (nI r) (d0) ?_
      refine j_iconst C (nI 0) dL_areRows_211 (by decide) ?_
      refine j_cVi C (c_X9_rowOf _ ω γ M R gx CBH (nI r) (nI 0)) yc_X9_rowOf mn_L_126 im_X9_rowOf se_X9_rowOf rfl rfl dL_areRows_212 rfl rfl (gx0) (by decide) (Nat.le_of_ble_eq_true rfl) (by decide) ?_
      refine j_top (-1) ((st_rowOf e _ _).trans (zv_rowN Z)) ?_
      refine j_iconst C (-1) dL_areRows_215 (by decide) ?_
      refine j_icmp_ne C 244 dL_areRows_216 (by decide) (fun h => absurd (rfl) h) (fun _ => ?_)
      refine j_aload_n C dL_areRows_219 rfl ?_
      refine j_iconst C (nI 4) dL_areRows_220 (by decide) ?_
      refine j_iconst C (nI 0) dL_areRows_221 (by decide) ?_
      refine j_cVi C (c_X9_known _ ω γ M R gx CBH (nI 4) (nI 0)) yc_X9_known mn_L_129 im_X9_known se_X9_known rfl rfl dL_areRows_222 rfl rfl (gx0) (by decide) (Nat.le_of_ble_eq_true rfl) (by decide) ?_
      refine j_top (-1) ((st_known e _ _).trans (zv_kn1 _)) ?_
      refine j_iconst C (-1) dL_areRows_225 (by decide) ?_
      refine j_icmp_ne C 244 dL_areRows_226 (by decide) (fun h => absurd (rfl) h) (fun _ => ?_)
      refine j_aload_n C dL_areRows_229 rfl ?_
      refine j_iconst C (nI 0) dL_areRows_230 (by decide) ?_
      refine j_bipush C (nI 32) dL_areRows_231 (by decide) ?_
      refine j_cVi C (c_X9_known _ ω γ M R gx CBH (nI 0) (nI 32)) yc_X9_known mn_L_129 im_X9_known se_X9_known rfl rfl dL_areRows_233 rfl rfl (gx0) (by decide) (Nat.le_of_ble_eq_true rfl) (by decide) ?_
      refine j_top (-1) ((st_known e _ _).trans (zv_kn2 _)) ?_
      refine j_iconst C (-1) dL_areRows_236 (by decide) ?_
      refine j_icmp_ne C 244 dL_areRows_237 (by decide) (fun h => absurd (rfl) h) (fun _ => ?_)
      refine j_iconst C (nI 1) dL_areRows_240 (by decide) ?_
      refine j_goto C 245 dL_areRows_241 (by decide) ?_
      exact j_ireturn C E dL_areRows_245 (by decide) (by decide) (by decide) (⟨rfl, rfl, rfl, rfl⟩)

set_option maxHeartbeats 4000000 in
set_option maxRecDepth 100000 in
theorem c_L_areStatements (l : Launch) (ω : jW) (γ : jG) (M : jM) (R : jR) {x a h T v m d b nh r n c : Nat} {f : Nat → Nat} (L : LI ω γ M R x a h T v m d b nh r n c f) (hb : b ≤ 100000)  : Ct l ω yL_areStatements cL_areStatements 10 (some .boolean) 6 0 0 [.ref x, .ref d, .ref (d + 3), .ref (d + 4)] γ M R (jx γ (some (.int (nI 1))) M R) := by
  refine Ct_of (by decide) (Nat.le_of_ble_eq_true rfl) rfl (jcat_of rfl) ?_
  intro X C E hnm hxl hxn
  subst hxl
  obtain ⟨gx, gd, hvd, hdm, hjm, I, e, hx, A⟩ := L
  have CBH := CB_inv I.1 e I.2.2.2.2.1 hx
  have gx0 := gx.1
  obtain ⟨g0, g1, g2, g3, g4, g5⟩ := gd
  have Z := zRd_of e A.2.2.2.2.2.2.1
  have H := lRd_of A
  have Q := zPn_of e A.2.2.2.2.2.2.2.2 hb
  have hS := A.1
  have P := A.2.2.2.2.1
  have hr30 := Z.2.1
  have hc6 := Z.2.2.2.2.1
  have hsh := e.2.2.2.2.2.2.2.1
  have hn8 : n ≤ 8 := hsh.2.2.1
  have s0 : M (m + 1) 0 = nI r := Z.1
  have s3 : M (m + 1) 3 = nI c := e.2.2.2.1.2.1
  have s4 : M (m + 1) 4 = nI n := hsh.2.1
  have hd := e.2.2.2.2.2.2.2.2
  have d0 : M d 0 = nI r := (hS 0 (by decide)).trans s0
  have d3 : M d 3 = nI c := (hS 3 (by decide)).trans s3
  have d4 : M d 4 = nI n := (hS 4 (by decide)).trans s4
  refine j_aload_n C dL_areStatements_0 rfl ?_
  refine j_aload_n C dL_areStatements_1 rfl ?_
  refine j_iconst C (nI 3) dL_areStatements_2 (by decide) ?_
  refine j_ialdN C (by assumption) dL_areStatements_3 (by omega) (by decide) ?_
  refine j_top (nI c) (d3) ?_
  refine j_iconst C (nI 0) dL_areStatements_4 (by decide) ?_
  refine j_cVi C (c_X9_statementOf _ ω γ M R gx CBH (nI c) (nI 0)) yc_X9_statementOf mn_L_131 im_X9_statementOf se_X9_statementOf rfl rfl dL_areStatements_5 rfl rfl (gx0) (by decide) (Nat.le_of_ble_eq_true rfl) (by decide) ?_
  refine j_top (-1) ((st_stOf e _ _).trans (zv_stN Z s3)) ?_
  refine j_iconst C (-1) dL_areStatements_8 (by decide) ?_
  refine j_icmp_ne C 16 dL_areStatements_9 (by decide) (fun h => absurd (rfl) h) (fun _ => ?_)
  refine j_iconst C (nI 1) dL_areStatements_12 (by decide) ?_
  refine j_goto C 17 dL_areStatements_13 (by decide) ?_
  refine j_istore C dL_areStatements_17 (by rw [hxn]; decide) ?_
  refine j_iconst C (nI 0) dL_areStatements_19 (by decide) ?_
  refine j_istore C dL_areStatements_20 (by rw [hxn]; decide) ?_
  refine j_iconst C (nI 0) dL_areStatements_22 (by decide) ?_
  refine j_istore C dL_areStatements_23 (by rw [hxn]; decide) ?_
  refine j_locs [0, 1, 2, 3, 4, 5, 6] (l' := [(0, .ref x), (1, .ref d), (2, .ref (d + 3)), (3, .ref (d + 4)), (4, .int (nI 1)), (5, .int (sI (fun t => (M (m + 1)) (307 + 10 * t + 9)) 0)), (6, .int (nI 0))]) rfl ?_
  refine j_loop c (fun q => [(0, .ref x), (1, .ref d), (2, .ref (d + 3)), (3, .ref (d + 4)), (4, .int (nI 1)), (5, .int (sI (fun t => (M (m + 1)) (307 + 10 * t + 9)) q)), (6, .int (nI q))]) (fun _ => M) (fun _ => R) (fun _ => True) trivial (fun q hq _ ih => ?_) (fun _ => ?_)
  · skip
    refine j_iload C dL_areStatements_25 rfl ?_
    refine j_aload_n C dL_areStatements_27 rfl ?_
    refine j_iconst C (nI 3) dL_areStatements_28 (by decide) ?_
    refine j_ialdN C (by assumption) dL_areStatements_29 (by omega) (by decide) ?_
    refine j_top (nI c) (d3) ?_
    refine j_icmp_ge C 282 dL_areStatements_30 (by decide) (fun h => absurd h (nI_ge hq (by omega))) (fun _ => ?_)
    refine j_iload C dL_areStatements_33 rfl ?_
    refine j_if_eq C 282 dL_areStatements_35 (by decide) (fun h => absurd h (by decide)) (fun _ => ?_)
    refine j_iconst C (nI 0) dL_areStatements_38 (by decide) ?_
    refine j_istore C dL_areStatements_39 (by rw [hxn]; decide) ?_
    refine j_iconst C (nI 0) dL_areStatements_41 (by decide) ?_
    refine j_istore C dL_areStatements_42 (by rw [hxn]; decide) ?_
    refine j_locs [0, 1, 2, 3, 4, 5, 6, 7, 8] (l' := [(0, .ref x), (1, .ref d), (2, .ref (d + 3)), (3, .ref (d + 4)), (4, .int (nI 1)), (5, .int (sI (fun t => (M (m + 1)) (307 + 10 * t + 9)) q)), (6, .int (nI q)), (7, .int (sI (zOfF (M (m + 1)) (nI q)) 0)), (8, .int (nI 0))]) rfl ?_
    refine j_loop n (fun j => [(0, .ref x), (1, .ref d), (2, .ref (d + 3)), (3, .ref (d + 4)), (4, .int (nI 1)), (5, .int (sI (fun t => (M (m + 1)) (307 + 10 * t + 9)) q)), (6, .int (nI q)), (7, .int (sI (zOfF (M (m + 1)) (nI q)) j)), (8, .int (nI j))]) (fun _ => M) (fun _ => R) (fun _ => True) trivial (fun j hj _ ih2 => ?_) (fun _ => ?_)
    · skip
      refine j_iload C dL_areStatements_44 rfl ?_
      refine j_aload_n C dL_areStatements_46 rfl ?_
      refine j_iconst C (nI 4) dL_areStatements_47 (by decide) ?_
      refine j_ialdN C (by assumption) dL_areStatements_48 (by omega) (by decide) ?_
      refine j_top (nI n) (d4) ?_
      refine j_icmp_ge C 82 dL_areStatements_49 (by decide) (fun h => absurd h (nI_ge hj (by omega))) (fun _ => ?_)
      refine j_iload C dL_areStatements_52 rfl ?_
      refine j_aload_n C dL_areStatements_54 rfl ?_
      refine j_bipush C (nI 8) dL_areStatements_55 (by decide) ?_
      refine j_iload C dL_areStatements_57 rfl ?_
      first | with_reducible refine j_imulN C dL_areStatements_59 ?_ | refine j_imul C dL_areStatements_59 ?_
      refine j_iconst C (nI 1) dL_areStatements_60 (by decide) ?_
      first | with_reducible refine j_iaddN C dL_areStatements_61 ?_ | refine j_iadd C dL_areStatements_61 ?_
      refine j_ialdN C (by assumption) dL_areStatements_62 (by omega) (by decide) ?_
      refine j_top ((M (m + 1)) (367 + 9 * j + 1)) ((P j hj).1 1 (by decide)) ?_
      refine j_iload C dL_areStatements_63 rfl ?_
      refine j_icmp_ne C 72 dL_areStatements_65 (by decide) (fun h65 => ?_) (fun h65 => ?_)
      · skip
        refine j_iconst C (nI 0) dL_areStatements_72 (by decide) ?_
        refine j_iadd C dL_areStatements_73 ?_
        refine j_top (sI (zOfF (M (m + 1)) (nI q)) (j + 1)) (by simp only [sI, zOfF]; first | rw [if_pos h65] | rw [if_neg h65]) ?_
        refine j_istore C dL_areStatements_74 (by rw [hxn]; decide) ?_
        first | refine j_iinc1 C dL_areStatements_76 rfl (by rw [hxn]; decide) ?_ | refine j_iinc C _ dL_areStatements_76 rfl rfl (by rw [hxn]; decide) ?_
        refine j_goto C 44 dL_areStatements_79 (by decide) ?_
        exact ih2 trivial
      · skip
        refine j_iconst C (nI 1) dL_areStatements_68 (by decide) ?_
        refine j_goto C 73 dL_areStatements_69 (by decide) ?_
        refine j_iadd C dL_areStatements_73 ?_
        refine j_top (sI (zOfF (M (m + 1)) (nI q)) (j + 1)) (by simp only [sI, zOfF]; first | rw [if_pos h65] | rw [if_neg h65]) ?_
        refine j_istore C dL_areStatements_74 (by rw [hxn]; decide) ?_
        first | refine j_iinc1 C dL_areStatements_76 rfl (by rw [hxn]; decide) ?_ | refine j_iinc C _ dL_areStatements_76 rfl rfl (by rw [hxn]; decide) ?_
        refine j_goto C 44 dL_areStatements_79 (by decide) ?_
        exact ih2 trivial
    · skip
      refine j_iload C dL_areStatements_44 rfl ?_
      refine j_aload_n C dL_areStatements_46 rfl ?_
      refine j_iconst C (nI 4) dL_areStatements_47 (by decide) ?_
      refine j_ialdN C (by assumption) dL_areStatements_48 (by omega) (by decide) ?_
      refine j_top (nI n) (d4) ?_
      refine j_icmp_ge C 82 dL_areStatements_49 (by decide) (fun _ => ?_) (fun h => absurd (Int32.le_refl _) h)
      refine j_iload C dL_areStatements_82 rfl ?_
      refine j_aload_n C dL_areStatements_84 rfl ?_
      refine j_iconst C (nI 2) dL_areStatements_85 (by decide) ?_
      refine j_iload C dL_areStatements_86 rfl ?_
      first | with_reducible refine j_imulN C dL_areStatements_88 ?_ | refine j_imul C dL_areStatements_88 ?_
      refine j_iconst C (nI 1) dL_areStatements_89 (by decide) ?_
      first | with_reducible refine j_iaddN C dL_areStatements_90 ?_ | refine j_iadd C dL_areStatements_90 ?_
      refine j_ialdN C (by assumption) dL_areStatements_91 (by omega) (by decide) ?_
      refine j_top ((M (m + 1)) (307 + 10 * q + 9)) (A.2.2.2.1 q hq).2 ?_
      first | with_reducible refine j_iaddN C dL_areStatements_92 ?_ | refine j_iadd C dL_areStatements_92 ?_
      refine j_top (sI (fun t => (M (m + 1)) (307 + 10 * t + 9)) (q + 1)) rfl ?_
      refine j_istore C dL_areStatements_93 (by rw [hxn]; decide) ?_
      refine j_aload_n C dL_areStatements_95 rfl ?_
      refine j_iload C dL_areStatements_96 rfl ?_
      refine j_iconst C (nI 0) dL_areStatements_98 (by decide) ?_
      refine j_cVi C (c_X9_statementOf _ ω γ M R gx CBH (nI q) (nI 0)) yc_X9_statementOf mn_L_131 im_X9_statementOf se_X9_statementOf rfl rfl dL_areStatements_99 rfl rfl (gx0) (by decide) (Nat.le_of_ble_eq_true rfl) (by decide) ?_
      refine j_top (nI (zN (M (m + 1)) q)) ((st_stOf e _ _).trans (zv_st0 Z s3 hq)) ?_
      refine j_aload_n C dL_areStatements_102 rfl ?_
      refine j_iload C dL_areStatements_103 rfl ?_
      refine j_cSi C (c_L_many _ ω γ M R ⟨g0, g1, g2, g3, g4, g5⟩ H Z hq) yc_L_many mn_L_40 st_L_many dL_areStatements_105 rfl rfl (Nat.le_of_ble_eq_true rfl) (by decide) ?_
      refine j_icmp_ne C 168 dL_areStatements_108 (by decide) (fun h => absurd (rfl) h) (fun _ => ?_)
      refine j_aload_n C dL_areStatements_111 rfl ?_
      refine j_iload C dL_areStatements_112 rfl ?_
      refine j_iconst C (nI 1) dL_areStatements_114 (by decide) ?_
      refine j_cVi C (c_X9_statementOf _ ω γ M R gx CBH (nI q) (nI 1)) yc_X9_statementOf mn_L_131 im_X9_statementOf se_X9_statementOf rfl rfl dL_areStatements_115 rfl rfl (gx0) (by decide) (Nat.le_of_ble_eq_true rfl) (by decide) ?_
      refine j_top (sI (zOfF (M (m + 1)) (nI q)) n) ((st_stOf e _ _).trans (zv_st1 Z s3 hq)) ?_
      refine j_iload C dL_areStatements_118 rfl ?_
      refine j_icmp_ne C 168 dL_areStatements_120 (by decide) (fun h => absurd (rfl) h) (fun _ => ?_)
      refine j_aload_n C dL_areStatements_123 rfl ?_
      refine j_iload C dL_areStatements_124 rfl ?_
      refine j_iconst C (nI 2) dL_areStatements_126 (by decide) ?_
      refine j_cVi C (c_X9_statementOf _ ω γ M R gx CBH (nI q) (nI 2)) yc_X9_statementOf mn_L_131 im_X9_statementOf se_X9_statementOf rfl rfl dL_areStatements_127 rfl rfl (gx0) (by decide) (Nat.le_of_ble_eq_true rfl) (by decide) ?_
      refine j_top ((M (m + 1)) (307 + 10 * q + 9)) ((st_stOf e _ _).trans (zv_st2 Z s3 hq)) ?_
      refine j_aload_n C dL_areStatements_130 rfl ?_
      refine j_iconst C (nI 2) dL_areStatements_131 (by decide) ?_
      refine j_iload C dL_areStatements_132 rfl ?_
      first | with_reducible refine j_imulN C dL_areStatements_134 ?_ | refine j_imul C dL_areStatements_134 ?_
      refine j_iconst C (nI 1) dL_areStatements_135 (by decide) ?_
      first | with_reducible refine j_iaddN C dL_areStatements_136 ?_ | refine j_iadd C dL_areStatements_136 ?_
      refine j_ialdN C (by assumption) dL_areStatements_137 (by omega) (by decide) ?_
      refine j_top ((M (m + 1)) (307 + 10 * q + 9)) (A.2.2.2.1 q hq).2 ?_
      refine j_icmp_ne C 168 dL_areStatements_138 (by decide) (fun h => absurd (rfl) h) (fun _ => ?_)
      refine j_aload_n C dL_areStatements_141 rfl ?_
      refine j_iload C dL_areStatements_142 rfl ?_
      refine j_iconst C (nI 3) dL_areStatements_144 (by decide) ?_
      refine j_cVi C (c_X9_statementOf _ ω γ M R gx CBH (nI q) (nI 3)) yc_X9_statementOf mn_L_131 im_X9_statementOf se_X9_statementOf rfl rfl dL_areStatements_145 rfl rfl (gx0) (by decide) (Nat.le_of_ble_eq_true rfl) (by decide) ?_
      refine j_top (-1) ((st_stOf e _ _).trans (zv_st3 _ _)) ?_
      refine j_iconst C (-1) dL_areStatements_148 (by decide) ?_
      refine j_icmp_ne C 168 dL_areStatements_149 (by decide) (fun h => absurd (rfl) h) (fun _ => ?_)
      refine j_aload_n C dL_areStatements_152 rfl ?_
      refine j_iload C dL_areStatements_153 rfl ?_
      refine j_bipush C (nI 14) dL_areStatements_155 (by decide) ?_
      refine j_cVi C (c_X9_statementOf _ ω γ M R gx CBH (nI q) (nI 14)) yc_X9_statementOf mn_L_131 im_X9_statementOf se_X9_statementOf rfl rfl dL_areStatements_157 rfl rfl (gx0) (by decide) (Nat.le_of_ble_eq_true rfl) (by decide) ?_
      refine j_top (-1) ((st_stOf e _ _).trans (zv_st14 _ _)) ?_
      refine j_iconst C (-1) dL_areStatements_160 (by decide) ?_
      refine j_icmp_ne C 168 dL_areStatements_161 (by decide) (fun h => absurd (rfl) h) (fun _ => ?_)
      refine j_iconst C (nI 1) dL_areStatements_164 (by decide) ?_
      refine j_goto C 169 dL_areStatements_165 (by decide) ?_
      refine j_istore C dL_areStatements_169 (by rw [hxn]; decide) ?_
      refine j_iconst C (nI 0) dL_areStatements_171 (by decide) ?_
      refine j_istore C dL_areStatements_172 (by rw [hxn]; decide) ?_
      refine j_locs [0, 1, 2, 3, 4, 5, 6, 7, 8] (l' := [(0, .ref x), (1, .ref d), (2, .ref (d + 3)), (3, .ref (d + 4)), (4, .int (nI 1)), (5, .int (sI (fun t => (M (m + 1)) (307 + 10 * t + 9)) (q + 1))), (6, .int (nI q)), (7, .int (sI (zOfF (M (m + 1)) (nI q)) n)), (8, .int (nI 0))]) rfl ?_
      refine j_loop 4 (fun j => [(0, .ref x), (1, .ref d), (2, .ref (d + 3)), (3, .ref (d + 4)), (4, .int (nI 1)), (5, .int (sI (fun t => (M (m + 1)) (307 + 10 * t + 9)) (q + 1))), (6, .int (nI q)), (7, .int (sI (zOfF (M (m + 1)) (nI q)) n)), (8, .int (nI j))]) (fun _ => M) (fun _ => R) (fun _ => True) trivial (fun j hj _ ih2 => ?_) (fun _ => ?_)
      · skip
        have hn4 := lN4 Z hq
        refine j_iload C dL_areStatements_174 rfl ?_
        refine j_iconst C (nI 4) dL_areStatements_176 (by decide) ?_
        refine j_icmp_ge C 276 dL_areStatements_177 (by decide) (fun h => absurd h (nI_ge hj (by decide))) (fun _ => ?_)
        refine j_iload C dL_areStatements_180 rfl ?_
        refine j_if_eq C 276 dL_areStatements_182 (by decide) (fun h => absurd h (by decide)) (fun _ => ?_)
        refine j_aload_n C dL_areStatements_185 rfl ?_
        refine j_iload C dL_areStatements_186 rfl ?_
        refine j_iload C dL_areStatements_188 rfl ?_
        refine j_cSi C (c_L_condition _ ω γ M R ⟨g0, g1, g2, g3, g4, g5⟩ H Z hq (show j ≤ 4 by omega)) yc_L_condition mn_L_33 st_L_condition dL_areStatements_190 rfl rfl (Nat.le_of_ble_eq_true rfl) (by decide) ?_
        refine j_istore C dL_areStatements_193 (by rw [hxn]; decide) ?_
        refine j_aload_n C dL_areStatements_195 rfl ?_
        refine j_iload C dL_areStatements_196 rfl ?_
        refine j_bipush C (nI 10) dL_areStatements_198 (by decide) ?_
        refine j_iload C dL_areStatements_200 rfl ?_
        first | with_reducible refine j_iaddN C dL_areStatements_202 ?_ | refine j_iadd C dL_areStatements_202 ?_
        refine j_cVi C (c_X9_statementOf _ ω γ M R gx CBH (nI q) (nI (10 + j))) yc_X9_statementOf mn_L_131 im_X9_statementOf se_X9_statementOf rfl rfl dL_areStatements_203 rfl rfl (gx0) (by decide) (Nat.le_of_ble_eq_true rfl) (by decide) ?_
        refine j_top _ ((st_stOf e _ _).trans (zv_stC Z s3 hq hj)) ?_
        refine j_iload C dL_areStatements_206 rfl ?_
        refine j_aload_n C dL_areStatements_208 rfl ?_
        refine j_iload C dL_areStatements_209 rfl ?_
        refine j_cSi C (c_L_many _ ω γ M R ⟨g0, g1, g2, g3, g4, g5⟩ H Z hq) yc_L_many mn_L_40 st_L_many dL_areStatements_211 rfl rfl (Nat.le_of_ble_eq_true rfl) (by decide) ?_
        refine j_icmp_ge C 224 dL_areStatements_214 (by decide) (fun h214 => ?_) (fun h214 => ?_)
        · skip
          have hjn : ¬ j < zN (M (m + 1)) q := Nat.not_lt.mpr ((nI_leI (by omega) (by omega)).mp h214)
          refine j_bipush C (-4) dL_areStatements_224 (by decide) ?_
          refine j_icmp_ne C 267 dL_areStatements_226 (by decide) (fun h => absurd (by first | rw [if_pos hjn] | rw [if_neg hjn]) h) (fun _ => ?_)
          refine j_aload_n C dL_areStatements_229 rfl ?_
          refine j_iload C dL_areStatements_230 rfl ?_
          refine j_bipush C (nI 20) dL_areStatements_232 (by decide) ?_
          refine j_iload C dL_areStatements_234 rfl ?_
          first | with_reducible refine j_iaddN C dL_areStatements_236 ?_ | refine j_iadd C dL_areStatements_236 ?_
          refine j_cVi C (c_X9_statementOf _ ω γ M R gx CBH (nI q) (nI (20 + j))) yc_X9_statementOf mn_L_131 im_X9_statementOf se_X9_statementOf rfl rfl dL_areStatements_237 rfl rfl (gx0) (by decide) (Nat.le_of_ble_eq_true rfl) (by decide) ?_
          refine j_top _ ((st_stOf e _ _).trans (zv_stO Z s3 hq hj)) ?_
          refine j_iload C dL_areStatements_240 rfl ?_
          refine j_aload_n C dL_areStatements_242 rfl ?_
          refine j_iload C dL_areStatements_243 rfl ?_
          refine j_cSi C (c_L_many _ ω γ M R ⟨g0, g1, g2, g3, g4, g5⟩ H Z hq) yc_L_many mn_L_40 st_L_many dL_areStatements_245 rfl rfl (Nat.le_of_ble_eq_true rfl) (by decide) ?_
          refine j_icmp_ge C 258 dL_areStatements_248 (by decide) (fun h248 => ?_) (fun h248 => ?_)
          · skip
            have hjn2 : ¬ j < zN (M (m + 1)) q := Nat.not_lt.mpr ((nI_leI (by omega) (by omega)).mp h248)
            refine j_bipush C (-4) dL_areStatements_258 (by decide) ?_
            refine j_icmp_ne C 267 dL_areStatements_260 (by decide) (fun h => absurd (by first | rw [if_pos hjn2] | rw [if_neg hjn2]) h) (fun _ => ?_)
            refine j_iconst C (nI 1) dL_areStatements_263 (by decide) ?_
            refine j_goto C 268 dL_areStatements_264 (by decide) ?_
            refine j_istore C dL_areStatements_268 (by rw [hxn]; decide) ?_
            first | refine j_iinc1 C dL_areStatements_270 rfl (by rw [hxn]; decide) ?_ | refine j_iinc C _ dL_areStatements_270 rfl rfl (by rw [hxn]; decide) ?_
            refine j_goto C 174 dL_areStatements_273 (by decide) ?_
            refine j_locs [0, 1, 2, 3, 4, 5, 6, 7, 8] (l' := [(0, .ref x), (1, .ref d), (2, .ref (d + 3)), (3, .ref (d + 4)), (4, .int (nI 1)), (5, .int (sI (fun t => (M (m + 1)) (307 + 10 * t + 9)) (q + 1))), (6, .int (nI q)), (7, .int (sI (zOfF (M (m + 1)) (nI q)) n)), (8, .int (nI (j + 1)))]) rfl ?_
            exact ih2 trivial
          · skip
            have hjn2 : j < zN (M (m + 1)) q := Nat.lt_of_not_le fun z => h248 (nI_le z (by omega))
            have hop2 := (Z.2.2.2.2.2.1 q hq).2 _ hjn2
            have hcd2 := lCd_of Z hq hjn2
            refine j_iload C dL_areStatements_251 rfl ?_
            refine j_iconst C (nI 3) dL_areStatements_253 (by decide) ?_
            refine j_iremN C dL_areStatements_254 (by omega) (by decide) (by decide) ?_
            refine j_top ((M (m + 1)) (307 + 10 * q + 5 + j)) (by rw [hop2.1, hcd2]; congr 1; unfold lCd; have := hop2.2; omega) ?_
            refine j_goto C 260 dL_areStatements_255 (by decide) ?_
            refine j_icmp_ne C 267 dL_areStatements_260 (by decide) (fun h => absurd (by first | rw [if_pos hjn2] | rw [if_neg hjn2]) h) (fun _ => ?_)
            refine j_iconst C (nI 1) dL_areStatements_263 (by decide) ?_
            refine j_goto C 268 dL_areStatements_264 (by decide) ?_
            refine j_istore C dL_areStatements_268 (by rw [hxn]; decide) ?_
            first | refine j_iinc1 C dL_areStatements_270 rfl (by rw [hxn]; decide) ?_ | refine j_iinc C _ dL_areStatements_270 rfl rfl (by rw [hxn]; decide) ?_
            refine j_goto C 174 dL_areStatements_273 (by decide) ?_
            refine j_locs [0, 1, 2, 3, 4, 5, 6, 7, 8] (l' := [(0, .ref x), (1, .ref d), (2, .ref (d + 3)), (3, .ref (d + 4)), (4, .int (nI 1)), (5, .int (sI (fun t => (M (m + 1)) (307 + 10 * t + 9)) (q + 1))), (6, .int (nI q)), (7, .int (sI (zOfF (M (m + 1)) (nI q)) n)), (8, .int (nI (j + 1)))]) rfl ?_
            exact ih2 trivial
        · skip
          have hjn : j < zN (M (m + 1)) q := Nat.lt_of_not_le fun z => h214 (nI_le z (by omega))
          have hcl := (Z.2.2.2.2.2.1 q hq).1.2.2.2.2 _ hjn
          have hop := (Z.2.2.2.2.2.1 q hq).2 _ hjn
          have hcd := lCd_of Z hq hjn
          refine j_iload C dL_areStatements_217 rfl ?_
          refine j_iconst C (nI 3) dL_areStatements_219 (by decide) ?_
          refine j_idivN C dL_areStatements_220 (by omega) (by decide) (by decide) ?_
          refine j_top ((M (m + 1)) (307 + 10 * q + 1 + j)) (by rw [hcl.1, hcd]; congr 1; unfold lCd; have := hop.2; omega) ?_
          refine j_goto C 226 dL_areStatements_221 (by decide) ?_
          refine j_icmp_ne C 267 dL_areStatements_226 (by decide) (fun h => absurd (by first | rw [if_pos hjn] | rw [if_neg hjn]) h) (fun _ => ?_)
          refine j_aload_n C dL_areStatements_229 rfl ?_
          refine j_iload C dL_areStatements_230 rfl ?_
          refine j_bipush C (nI 20) dL_areStatements_232 (by decide) ?_
          refine j_iload C dL_areStatements_234 rfl ?_
          first | with_reducible refine j_iaddN C dL_areStatements_236 ?_ | refine j_iadd C dL_areStatements_236 ?_
          refine j_cVi C (c_X9_statementOf _ ω γ M R gx CBH (nI q) (nI (20 + j))) yc_X9_statementOf mn_L_131 im_X9_statementOf se_X9_statementOf rfl rfl dL_areStatements_237 rfl rfl (gx0) (by decide) (Nat.le_of_ble_eq_true rfl) (by decide) ?_
          refine j_top _ ((st_stOf e _ _).trans (zv_stO Z s3 hq hj)) ?_
          refine j_iload C dL_areStatements_240 rfl ?_
          refine j_aload_n C dL_areStatements_242 rfl ?_
          refine j_iload C dL_areStatements_243 rfl ?_
          refine j_cSi C (c_L_many _ ω γ M R ⟨g0, g1, g2, g3, g4, g5⟩ H Z hq) yc_L_many mn_L_40 st_L_many dL_areStatements_245 rfl rfl (Nat.le_of_ble_eq_true rfl) (by decide) ?_
          refine j_icmp_ge C 258 dL_areStatements_248 (by decide) (fun h248 => ?_) (fun h248 => ?_)
          · skip
            have hjn2 : ¬ j < zN (M (m + 1)) q := Nat.not_lt.mpr ((nI_leI (by omega) (by omega)).mp h248)
            refine j_bipush C (-4) dL_areStatements_258 (by decide) ?_
            refine j_icmp_ne C 267 dL_areStatements_260 (by decide) (fun h => absurd (by first | rw [if_pos hjn2] | rw [if_neg hjn2]) h) (fun _ => ?_)
            refine j_iconst C (nI 1) dL_areStatements_263 (by decide) ?_
            refine j_goto C 268 dL_areStatements_264 (by decide) ?_
            refine j_istore C dL_areStatements_268 (by rw [hxn]; decide) ?_
            first | refine j_iinc1 C dL_areStatements_270 rfl (by rw [hxn]; decide) ?_ | refine j_iinc C _ dL_areStatements_270 rfl rfl (by rw [hxn]; decide) ?_
            refine j_goto C 174 dL_areStatements_273 (by decide) ?_
            refine j_locs [0, 1, 2, 3, 4, 5, 6, 7, 8] (l' := [(0, .ref x), (1, .ref d), (2, .ref (d + 3)), (3, .ref (d + 4)), (4, .int (nI 1)), (5, .int (sI (fun t => (M (m + 1)) (307 + 10 * t + 9)) (q + 1))), (6, .int (nI q)), (7, .int (sI (zOfF (M (m + 1)) (nI q)) n)), (8, .int (nI (j + 1)))]) rfl ?_
            exact ih2 trivial
          · skip
            have hjn2 : j < zN (M (m + 1)) q := Nat.lt_of_not_le fun z => h248 (nI_le z (by omega))
            have hop2 := (Z.2.2.2.2.2.1 q hq).2 _ hjn2
            have hcd2 := lCd_of Z hq hjn2
            refine j_iload C dL_areStatements_251 rfl ?_
            refine j_iconst C (nI 3) dL_areStatements_253 (by decide) ?_
            refine j_iremN C dL_areStatements_254 (by omega) (by decide) (by decide) ?_
            refine j_top ((M (m + 1)) (307 + 10 * q + 5 + j)) (by rw [hop2.1, hcd2]; congr 1; unfold lCd; have := hop2.2; omega) ?_
            refine j_goto C 260 dL_areStatements_255 (by decide) ?_
            refine j_icmp_ne C 267 dL_areStatements_260 (by decide) (fun h => absurd (by first | rw [if_pos hjn2] | rw [if_neg hjn2]) h) (fun _ => ?_)
            refine j_iconst C (nI 1) dL_areStatements_263 (by decide) ?_
            refine j_goto C 268 dL_areStatements_264 (by decide) ?_
            refine j_istore C dL_areStatements_268 (by rw [hxn]; decide) ?_
            first | refine j_iinc1 C dL_areStatements_270 rfl (by rw [hxn]; decide) ?_ | refine j_iinc C _ dL_areStatements_270 rfl rfl (by rw [hxn]; decide) ?_
            refine j_goto C 174 dL_areStatements_273 (by decide) ?_
            refine j_locs [0, 1, 2, 3, 4, 5, 6, 7, 8] (l' := [(0, .ref x), (1, .ref d), (2, .ref (d + 3)), (3, .ref (d + 4)), (4, .int (nI 1)), (5, .int (sI (fun t => (M (m + 1)) (307 + 10 * t + 9)) (q + 1))), (6, .int (nI q)), (7, .int (sI (zOfF (M (m + 1)) (nI q)) n)), (8, .int (nI (j + 1)))]) rfl ?_
            exact ih2 trivial
      · skip
        refine j_iload C dL_areStatements_174 rfl ?_
        refine j_iconst C (nI 4) dL_areStatements_176 (by decide) ?_
        refine j_icmp_ge C 276 dL_areStatements_177 (by decide) (fun _ => ?_) (fun h => absurd (Int32.le_refl _) h)
        first | refine j_iinc1 C dL_areStatements_276 rfl (by rw [hxn]; decide) ?_ | refine j_iinc C _ dL_areStatements_276 rfl rfl (by rw [hxn]; decide) ?_
        refine j_goto C 25 dL_areStatements_279 (by decide) ?_
        refine j_locs [0, 1, 2, 3, 4, 5, 6] (l' := [(0, .ref x), (1, .ref d), (2, .ref (d + 3)), (3, .ref (d + 4)), (4, .int (nI 1)), (5, .int (sI (fun t => (M (m + 1)) (307 + 10 * t + 9)) (q + 1))), (6, .int (nI (q + 1)))]) rfl ?_
        exact ih trivial
  · skip
    refine j_iload C dL_areStatements_25 rfl ?_
    refine j_aload_n C dL_areStatements_27 rfl ?_
    refine j_iconst C (nI 3) dL_areStatements_28 (by decide) ?_
    refine j_ialdN C (by assumption) dL_areStatements_29 (by omega) (by decide) ?_
    refine j_top (nI c) (d3) ?_
    refine j_icmp_ge C 282 dL_areStatements_30 (by decide) (fun _ => ?_) (fun h => absurd (Int32.le_refl _) h)
    refine j_iload C dL_areStatements_282 rfl ?_
    refine j_if_eq C 302 dL_areStatements_284 (by decide) (fun h => absurd h (by decide)) (fun _ => ?_)
    refine j_iload C dL_areStatements_287 rfl ?_
    refine j_aload_n C dL_areStatements_289 rfl ?_
    refine j_bipush C (nI 7) dL_areStatements_290 (by decide) ?_
    refine j_cVi C (c_X9_count _ ω γ M R gx CBH (nI 7)) yc_X9_count mn_L_134 im_X9_count se_X9_count rfl rfl dL_areStatements_292 rfl rfl (gx0) (by decide) (Nat.le_of_ble_eq_true rfl) (by decide) ?_
    refine j_top ((M (m + 1)) 6) ((st_count I e _).trans (rfl)) ?_
    refine j_icmp_ne C 302 dL_areStatements_295 (by decide) (fun h => absurd (A.2.2.2.2.2.2.2.1.1) h) (fun _ => ?_)
    refine j_iconst C (nI 1) dL_areStatements_298 (by decide) ?_
    refine j_goto C 303 dL_areStatements_299 (by decide) ?_
    exact j_ireturn C E dL_areStatements_303 (by decide) (by decide) (by decide) (⟨rfl, rfl, rfl, rfl⟩)

set_option maxHeartbeats 4000000 in
set_option maxRecDepth 100000 in
theorem c_L_arePlans (l : Launch) (ω : jW) (γ : jG) (M : jM) (R : jR) {x a h T v m d b nh r n c : Nat} {f : Nat → Nat} (L : LI ω γ M R x a h T v m d b nh r n c f) (hb : b ≤ 100000)  : Ct l ω yL_arePlans cL_arePlans 8 (some .boolean) 6 0 0 [.ref x, .ref d, .ref (d + 4)] γ M R (jx γ (some (.int (nI 1))) M R) := by
  refine Ct_of (by decide) (Nat.le_of_ble_eq_true rfl) rfl (jcat_of rfl) ?_
  intro X C E hnm hxl hxn
  subst hxl
  obtain ⟨gx, gd, hvd, hdm, hjm, I, e, hx, A⟩ := L
  have CBH := CB_inv I.1 e I.2.2.2.2.1 hx
  have gx0 := gx.1
  obtain ⟨g0, g1, g2, g3, g4, g5⟩ := gd
  have Z := zRd_of e A.2.2.2.2.2.2.1
  have H := lRd_of A
  have Q := zPn_of e A.2.2.2.2.2.2.2.2 hb
  have hS := A.1
  have P := A.2.2.2.2.1
  have hr30 := Z.2.1
  have hc6 := Z.2.2.2.2.1
  have hsh := e.2.2.2.2.2.2.2.1
  have hn8 : n ≤ 8 := hsh.2.2.1
  have s0 : M (m + 1) 0 = nI r := Z.1
  have s3 : M (m + 1) 3 = nI c := e.2.2.2.1.2.1
  have s4 : M (m + 1) 4 = nI n := hsh.2.1
  have hd := e.2.2.2.2.2.2.2.2
  have d0 : M d 0 = nI r := (hS 0 (by decide)).trans s0
  have d3 : M d 3 = nI c := (hS 3 (by decide)).trans s3
  have d4 : M d 4 = nI n := (hS 4 (by decide)).trans s4
  refine j_aload_n C dL_arePlans_0 rfl ?_
  refine j_aload_n C dL_arePlans_1 rfl ?_
  refine j_iconst C (nI 5) dL_arePlans_2 (by decide) ?_
  refine j_ialdN C (by assumption) dL_arePlans_3 (by omega) (by decide) ?_
  refine j_top (M (m + 1) 5) (hS 5 (by decide)) ?_
  refine j_iconst C (nI 0) dL_arePlans_4 (by decide) ?_
  refine j_cVi C (c_X9_planOf _ ω γ M R gx CBH ((M (m + 1)) 5) (nI 0)) yc_X9_planOf mn_L_137 im_X9_planOf se_X9_planOf rfl rfl dL_arePlans_5 rfl rfl (gx0) (by decide) (Nat.le_of_ble_eq_true rfl) (by decide) ?_
  refine j_top (-1) ((st_planOf e _ _).trans (zv_planN hd hb)) ?_
  refine j_iconst C (-1) dL_arePlans_8 (by decide) ?_
  refine j_icmp_ne C 16 dL_arePlans_9 (by decide) (fun h => absurd (rfl) h) (fun _ => ?_)
  refine j_iconst C (nI 1) dL_arePlans_12 (by decide) ?_
  refine j_goto C 17 dL_arePlans_13 (by decide) ?_
  refine j_istore_n C dL_arePlans_17 (by rw [hxn]; decide) ?_
  refine j_iconst C (nI 0) dL_arePlans_18 (by decide) ?_
  refine j_istore C dL_arePlans_19 (by rw [hxn]; decide) ?_
  refine j_iconst C (nI 0) dL_arePlans_21 (by decide) ?_
  refine j_istore C dL_arePlans_22 (by rw [hxn]; decide) ?_
  refine j_locs [0, 1, 2, 3, 4, 5] (l' := [(0, .ref x), (1, .ref d), (2, .ref (d + 4)), (3, .int (nI 1)), (4, .int (sI (zPinF (M (m + 1))) 0)), (5, .int (nI 0))]) rfl ?_
  refine j_loop n (fun q => [(0, .ref x), (1, .ref d), (2, .ref (d + 4)), (3, .int (nI 1)), (4, .int (sI (zPinF (M (m + 1))) q)), (5, .int (nI q))]) (fun _ => M) (fun _ => R) (fun _ => True) trivial (fun q hq _ ih => ?_) (fun _ => ?_)
  · skip
    obtain ⟨u, s, hu, hs, eu, es, e6⟩ := lPl_6 P Q hq
    obtain ⟨-, z, hz, ez⟩ := A.2.2.2.2.2.2.2.2 q hq
    obtain ⟨-, t, ht1, et, -⟩ := hsh.2.2.2.2.2 q hq
    refine j_iload C dL_arePlans_24 rfl ?_
    refine j_aload_n C dL_arePlans_26 rfl ?_
    refine j_iconst C (nI 4) dL_arePlans_27 (by decide) ?_
    refine j_ialdN C (by assumption) dL_arePlans_28 (by omega) (by decide) ?_
    refine j_top (nI n) (d4) ?_
    refine j_icmp_ge C 236 dL_arePlans_29 (by decide) (fun h => absurd h (nI_ge hq (by omega))) (fun _ => ?_)
    refine j_iload_n C dL_arePlans_32 rfl ?_
    refine j_if_eq C 236 dL_arePlans_33 (by decide) (fun h => absurd h (by decide)) (fun _ => ?_)
    refine j_aload_n C dL_arePlans_36 rfl ?_
    refine j_bipush C (nI 8) dL_arePlans_37 (by decide) ?_
    refine j_iload C dL_arePlans_39 rfl ?_
    first | with_reducible refine j_imulN C dL_arePlans_41 ?_ | refine j_imul C dL_arePlans_41 ?_
    refine j_ialdN C (by assumption) dL_arePlans_42 (by omega) (by decide) ?_
    refine j_top ((M (m + 1)) (367 + 9 * q + 0)) ((P q hq).1 0 (by decide)) ?_
    refine j_istore C dL_arePlans_43 (by rw [hxn]; decide) ?_
    refine j_iload C dL_arePlans_45 rfl ?_
    refine j_aload_n C dL_arePlans_47 rfl ?_
    refine j_bipush C (nI 8) dL_arePlans_48 (by decide) ?_
    refine j_iload C dL_arePlans_50 rfl ?_
    first | with_reducible refine j_imulN C dL_arePlans_52 ?_ | refine j_imul C dL_arePlans_52 ?_
    refine j_bipush C (nI 6) dL_arePlans_53 (by decide) ?_
    first | with_reducible refine j_iaddN C dL_arePlans_55 ?_ | refine j_iadd C dL_arePlans_55 ?_
    refine j_ialdN C (by assumption) dL_arePlans_56 (by omega) (by decide) ?_
    refine j_top (nI (u + 2 * s)) e6 ?_
    refine j_iconst C (nI 2) dL_arePlans_57 (by decide) ?_
    refine j_iremN C dL_arePlans_58 (by omega) (by decide) (by decide) ?_
    refine j_top (nI u) (by congr 1; omega) ?_
    refine j_iadd C dL_arePlans_59 ?_
    refine j_top (sI (zPinF (M (m + 1))) (q + 1)) (by simp only [sI, zPinF]; rw [eu]) ?_
    refine j_istore C dL_arePlans_60 (by rw [hxn]; decide) ?_
    refine j_iconst C (nI 0) dL_arePlans_62 (by decide) ?_
    refine j_istore C dL_arePlans_63 (by rw [hxn]; decide) ?_
    refine j_loop 5 (fun j => [(0, .ref x), (1, .ref d), (2, .ref (d + 4)), (3, .int (nI 1)), (4, .int (sI (zPinF (M (m + 1))) (q + 1))), (5, .int (nI q)), (6, .int ((M (m + 1)) (367 + 9 * q + 0))), (7, .int (nI j))]) (fun _ => M) (fun _ => R) (fun _ => True) trivial (fun j hj _ ih2 => ?_) (fun _ => ?_)
    · skip
      refine j_iload C dL_arePlans_65 rfl ?_
      refine j_iconst C (nI 5) dL_arePlans_67 (by decide) ?_
      refine j_icmp_ge C 110 dL_arePlans_68 (by decide) (fun h => absurd h (nI_ge hj (by decide))) (fun _ => ?_)
      refine j_iload_n C dL_arePlans_71 rfl ?_
      refine j_if_eq C 102 dL_arePlans_72 (by decide) (fun h => absurd h (by decide)) (fun _ => ?_)
      refine j_aload_n C dL_arePlans_75 rfl ?_
      refine j_iload C dL_arePlans_76 rfl ?_
      refine j_iload C dL_arePlans_78 rfl ?_
      refine j_cVi C (c_X9_planOf _ ω γ M R gx CBH ((M (m + 1)) (367 + 9 * q + 0)) (nI j)) yc_X9_planOf mn_L_137 im_X9_planOf se_X9_planOf rfl rfl dL_arePlans_80 rfl rfl (gx0) (by decide) (Nat.le_of_ble_eq_true rfl) (by decide) ?_
      refine j_top ((M (m + 1)) (367 + 9 * q + 1 + j)) ((st_planOf e _ _).trans (zv_plan hd hn8 hq (by omega))) ?_
      refine j_aload_n C dL_arePlans_83 rfl ?_
      refine j_bipush C (nI 8) dL_arePlans_84 (by decide) ?_
      refine j_iload C dL_arePlans_86 rfl ?_
      first | with_reducible refine j_imulN C dL_arePlans_88 ?_ | refine j_imul C dL_arePlans_88 ?_
      refine j_iconst C (nI 1) dL_arePlans_89 (by decide) ?_
      first | with_reducible refine j_iaddN C dL_arePlans_90 ?_ | refine j_iadd C dL_arePlans_90 ?_
      refine j_iload C dL_arePlans_91 rfl ?_
      first | with_reducible refine j_iaddN C dL_arePlans_93 ?_ | refine j_iadd C dL_arePlans_93 ?_
      refine j_ialdN C (by assumption) dL_arePlans_94 (by omega) (by decide) ?_
      refine j_top ((M (m + 1)) (367 + 9 * q + 1 + j)) (by have := (P q hq).1 (1 + j) (by omega); rw [show 8 * q + 1 + j = 8 * q + (1 + j) by omega, this]; congr 1; omega) ?_
      refine j_icmp_ne C 102 dL_arePlans_95 (by decide) (fun h => absurd (rfl) h) (fun _ => ?_)
      refine j_iconst C (nI 1) dL_arePlans_98 (by decide) ?_
      refine j_goto C 103 dL_arePlans_99 (by decide) ?_
      refine j_istore_n C dL_arePlans_103 (by rw [hxn]; decide) ?_
      first | refine j_iinc1 C dL_arePlans_104 rfl (by rw [hxn]; decide) ?_ | refine j_iinc C _ dL_arePlans_104 rfl rfl (by rw [hxn]; decide) ?_
      refine j_goto C 65 dL_arePlans_107 (by decide) ?_
      refine j_locs [0, 1, 2, 3, 4, 5, 6, 7] (l' := [(0, .ref x), (1, .ref d), (2, .ref (d + 4)), (3, .int (nI 1)), (4, .int (sI (zPinF (M (m + 1))) (q + 1))), (5, .int (nI q)), (6, .int ((M (m + 1)) (367 + 9 * q + 0))), (7, .int (nI (j + 1)))]) rfl ?_
      exact ih2 trivial
    · skip
      refine j_iload C dL_arePlans_65 rfl ?_
      refine j_iconst C (nI 5) dL_arePlans_67 (by decide) ?_
      refine j_icmp_ge C 110 dL_arePlans_68 (by decide) (fun _ => ?_) (fun h => absurd (Int32.le_refl _) h)
      refine j_iload_n C dL_arePlans_110 rfl ?_
      refine j_if_eq C 228 dL_arePlans_111 (by decide) (fun h => absurd h (by decide)) (fun _ => ?_)
      refine j_aload_n C dL_arePlans_114 rfl ?_
      refine j_iload C dL_arePlans_115 rfl ?_
      refine j_iconst C (nI 5) dL_arePlans_117 (by decide) ?_
      refine j_cVi C (c_X9_planOf _ ω γ M R gx CBH ((M (m + 1)) (367 + 9 * q + 0)) (nI 5)) yc_X9_planOf mn_L_137 im_X9_planOf se_X9_planOf rfl rfl dL_arePlans_118 rfl rfl (gx0) (by decide) (Nat.le_of_ble_eq_true rfl) (by decide) ?_
      refine j_top ((M (m + 1)) (367 + 9 * q + 1 + 5)) ((st_planOf e _ _).trans (zv_plan hd hn8 hq (by decide))) ?_
      refine j_aload_n C dL_arePlans_121 rfl ?_
      refine j_bipush C (nI 8) dL_arePlans_122 (by decide) ?_
      refine j_iload C dL_arePlans_124 rfl ?_
      first | with_reducible refine j_imulN C dL_arePlans_126 ?_ | refine j_imul C dL_arePlans_126 ?_
      refine j_bipush C (nI 6) dL_arePlans_127 (by decide) ?_
      first | with_reducible refine j_iaddN C dL_arePlans_129 ?_ | refine j_iadd C dL_arePlans_129 ?_
      refine j_ialdN C (by assumption) dL_arePlans_130 (by omega) (by decide) ?_
      refine j_top (nI (u + 2 * s)) e6 ?_
      refine j_iconst C (nI 2) dL_arePlans_131 (by decide) ?_
      refine j_idivN C dL_arePlans_132 (by omega) (by decide) (by decide) ?_
      refine j_icmp_ne C 228 dL_arePlans_133 (by decide) (fun h => absurd (es.trans (by congr 1; omega)) h) (fun _ => ?_)
      refine j_aload_n C dL_arePlans_136 rfl ?_
      refine j_iload C dL_arePlans_137 rfl ?_
      refine j_bipush C (nI 6) dL_arePlans_139 (by decide) ?_
      refine j_cVi C (c_X9_planOf _ ω γ M R gx CBH ((M (m + 1)) (367 + 9 * q + 0)) (nI 6)) yc_X9_planOf mn_L_137 im_X9_planOf se_X9_planOf rfl rfl dL_arePlans_141 rfl rfl (gx0) (by decide) (Nat.le_of_ble_eq_true rfl) (by decide) ?_
      refine j_top ((M (m + 1)) (367 + 9 * q + 1 + 6)) ((st_planOf e _ _).trans (zv_plan hd hn8 hq (by decide))) ?_
      refine j_aload_n C dL_arePlans_144 rfl ?_
      refine j_bipush C (nI 8) dL_arePlans_145 (by decide) ?_
      refine j_iload C dL_arePlans_147 rfl ?_
      first | with_reducible refine j_imulN C dL_arePlans_149 ?_ | refine j_imul C dL_arePlans_149 ?_
      refine j_bipush C (nI 6) dL_arePlans_150 (by decide) ?_
      first | with_reducible refine j_iaddN C dL_arePlans_152 ?_ | refine j_iadd C dL_arePlans_152 ?_
      refine j_ialdN C (by assumption) dL_arePlans_153 (by omega) (by decide) ?_
      refine j_top (nI (u + 2 * s)) e6 ?_
      refine j_iconst C (nI 2) dL_arePlans_154 (by decide) ?_
      refine j_iremN C dL_arePlans_155 (by omega) (by decide) (by decide) ?_
      refine j_icmp_ne C 228 dL_arePlans_156 (by decide) (fun h => absurd (eu.trans (by congr 1; omega)) h) (fun _ => ?_)
      refine j_aload_n C dL_arePlans_159 rfl ?_
      refine j_iload C dL_arePlans_160 rfl ?_
      refine j_bipush C (nI 7) dL_arePlans_162 (by decide) ?_
      refine j_cVi C (c_X9_planOf _ ω γ M R gx CBH ((M (m + 1)) (367 + 9 * q + 0)) (nI 7)) yc_X9_planOf mn_L_137 im_X9_planOf se_X9_planOf rfl rfl dL_arePlans_164 rfl rfl (gx0) (by decide) (Nat.le_of_ble_eq_true rfl) (by decide) ?_
      refine j_top ((M (m + 1)) 6 - (M (m + 1)) (367 + 9 * q + 8)) ((st_planOf e _ _).trans (zv_plan7 hd hn8 hq)) ?_
      refine j_aload_n C dL_arePlans_167 rfl ?_
      refine j_bipush C (nI 6) dL_arePlans_168 (by decide) ?_
      refine j_ialdN C (by assumption) dL_arePlans_170 (by omega) (by decide) ?_
      refine j_top (M (m + 1) 6) (hS 6 (by decide)) ?_
      refine j_aload_n C dL_arePlans_171 rfl ?_
      refine j_bipush C (nI 8) dL_arePlans_172 (by decide) ?_
      refine j_iload C dL_arePlans_174 rfl ?_
      first | with_reducible refine j_imulN C dL_arePlans_176 ?_ | refine j_imul C dL_arePlans_176 ?_
      refine j_bipush C (nI 7) dL_arePlans_177 (by decide) ?_
      first | with_reducible refine j_iaddN C dL_arePlans_179 ?_ | refine j_iadd C dL_arePlans_179 ?_
      refine j_ialdN C (by assumption) dL_arePlans_180 (by omega) (by decide) ?_
      refine j_top ((M (m + 1)) (367 + 9 * q + 8)) (P q hq).2.2 ?_
      refine j_isub C dL_arePlans_181 ?_
      refine j_icmp_ne C 228 dL_arePlans_182 (by decide) (fun h => absurd (rfl) h) (fun _ => ?_)
      refine j_aload_n C dL_arePlans_185 rfl ?_
      refine j_iload C dL_arePlans_186 rfl ?_
      refine j_bipush C (nI 8) dL_arePlans_188 (by decide) ?_
      refine j_cVi C (c_X9_planOf _ ω γ M R gx CBH ((M (m + 1)) (367 + 9 * q + 0)) (nI 8)) yc_X9_planOf mn_L_137 im_X9_planOf se_X9_planOf rfl rfl dL_arePlans_190 rfl rfl (gx0) (by decide) (Nat.le_of_ble_eq_true rfl) (by decide) ?_
      refine j_top (-1) ((st_planOf e _ _).trans (zv_plan8 _ _)) ?_
      refine j_iconst C (-1) dL_arePlans_193 (by decide) ?_
      refine j_icmp_ne C 228 dL_arePlans_194 (by decide) (fun h => absurd (rfl) h) (fun _ => ?_)
      refine j_aload_n C dL_arePlans_197 rfl ?_
      refine j_aload_n C dL_arePlans_198 rfl ?_
      refine j_bipush C (nI 8) dL_arePlans_199 (by decide) ?_
      refine j_iload C dL_arePlans_201 rfl ?_
      first | with_reducible refine j_imulN C dL_arePlans_203 ?_ | refine j_imul C dL_arePlans_203 ?_
      refine j_iconst C (nI 1) dL_arePlans_204 (by decide) ?_
      first | with_reducible refine j_iaddN C dL_arePlans_205 ?_ | refine j_iadd C dL_arePlans_205 ?_
      refine j_ialdN C (by assumption) dL_arePlans_206 (by omega) (by decide) ?_
      refine j_top ((M (m + 1)) (367 + 9 * q + 1)) ((P q hq).1 1 (by decide)) ?_
      refine j_aload_n C dL_arePlans_207 rfl ?_
      refine j_bipush C (nI 8) dL_arePlans_208 (by decide) ?_
      refine j_iload C dL_arePlans_210 rfl ?_
      first | with_reducible refine j_imulN C dL_arePlans_212 ?_ | refine j_imul C dL_arePlans_212 ?_
      refine j_iconst C (nI 2) dL_arePlans_213 (by decide) ?_
      first | with_reducible refine j_iaddN C dL_arePlans_214 ?_ | refine j_iadd C dL_arePlans_214 ?_
      refine j_ialdN C (by assumption) dL_arePlans_215 (by omega) (by decide) ?_
      refine j_top ((M (m + 1)) (367 + 9 * q + 2)) ((P q hq).1 2 (by decide)) ?_
      refine j_cVi C (c_X9_planFor _ ω γ M R gx CBH ((M (m + 1)) (367 + 9 * q + 1)) ((M (m + 1)) (367 + 9 * q + 2))) yc_X9_planFor mn_L_140 im_X9_planFor se_X9_planFor rfl rfl dL_arePlans_216 rfl rfl (gx0) (by decide) (Nat.le_of_ble_eq_true rfl) (by decide) ?_
      refine j_top ((M (m + 1)) (367 + 9 * q + 0)) ((st_planFor e _ _).trans (zv_planF hd hn8 s3 hc6 hq ht1 et hz ez)) ?_
      refine j_iload C dL_arePlans_219 rfl ?_
      refine j_icmp_ne C 228 dL_arePlans_221 (by decide) (fun h => absurd (rfl) h) (fun _ => ?_)
      refine j_iconst C (nI 1) dL_arePlans_224 (by decide) ?_
      refine j_goto C 229 dL_arePlans_225 (by decide) ?_
      refine j_istore_n C dL_arePlans_229 (by rw [hxn]; decide) ?_
      first | refine j_iinc1 C dL_arePlans_230 rfl (by rw [hxn]; decide) ?_ | refine j_iinc C _ dL_arePlans_230 rfl rfl (by rw [hxn]; decide) ?_
      refine j_goto C 24 dL_arePlans_233 (by decide) ?_
      refine j_locs [0, 1, 2, 3, 4, 5] (l' := [(0, .ref x), (1, .ref d), (2, .ref (d + 4)), (3, .int (nI 1)), (4, .int (sI (zPinF (M (m + 1))) (q + 1))), (5, .int (nI (q + 1)))]) rfl ?_
      exact ih trivial
  · skip
    refine j_iload C dL_arePlans_24 rfl ?_
    refine j_aload_n C dL_arePlans_26 rfl ?_
    refine j_iconst C (nI 4) dL_arePlans_27 (by decide) ?_
    refine j_ialdN C (by assumption) dL_arePlans_28 (by omega) (by decide) ?_
    refine j_top (nI n) (d4) ?_
    refine j_icmp_ge C 236 dL_arePlans_29 (by decide) (fun _ => ?_) (fun h => absurd (Int32.le_refl _) h)
    refine j_iload_n C dL_arePlans_236 rfl ?_
    refine j_if_eq C 266 dL_arePlans_237 (by decide) (fun h => absurd h (by decide)) (fun _ => ?_)
    refine j_aload_n C dL_arePlans_240 rfl ?_
    refine j_iconst C (nI 5) dL_arePlans_241 (by decide) ?_
    refine j_cVi C (c_X9_count _ ω γ M R gx CBH (nI 5)) yc_X9_count mn_L_134 im_X9_count se_X9_count rfl rfl dL_arePlans_242 rfl rfl (gx0) (by decide) (Nat.le_of_ble_eq_true rfl) (by decide) ?_
    refine j_top (nI n) ((st_count I e _).trans (s4)) ?_
    refine j_aload_n C dL_arePlans_245 rfl ?_
    refine j_iconst C (nI 4) dL_arePlans_246 (by decide) ?_
    refine j_ialdN C (by assumption) dL_arePlans_247 (by omega) (by decide) ?_
    refine j_top (nI n) (d4) ?_
    refine j_icmp_ne C 266 dL_arePlans_248 (by decide) (fun h => absurd (rfl) h) (fun _ => ?_)
    refine j_aload_n C dL_arePlans_251 rfl ?_
    refine j_bipush C (nI 6) dL_arePlans_252 (by decide) ?_
    refine j_cVi C (c_X9_count _ ω γ M R gx CBH (nI 6)) yc_X9_count mn_L_134 im_X9_count se_X9_count rfl rfl dL_arePlans_254 rfl rfl (gx0) (by decide) (Nat.le_of_ble_eq_true rfl) (by decide) ?_
    refine j_top (sI (zPinF (M (m + 1))) n) ((st_count I e _).trans (rfl)) ?_
    refine j_iload C dL_arePlans_257 rfl ?_
    refine j_icmp_ne C 266 dL_arePlans_259 (by decide) (fun h => absurd (rfl) h) (fun _ => ?_)
    refine j_iconst C (nI 1) dL_arePlans_262 (by decide) ?_
    refine j_goto C 267 dL_arePlans_263 (by decide) ?_
    exact j_ireturn C E dL_arePlans_267 (by decide) (by decide) (by decide) (⟨rfl, rfl, rfl, rfl⟩)

set_option maxHeartbeats 4000000 in
set_option maxRecDepth 100000 in
theorem c_L_isSo (l : Launch) (ω : jW) (γ : jG) (M : jM) (R : jR) {x a h T v m d b nh r n c : Nat} {f : Nat → Nat} (L : LI ω γ M R x a h T v m d b nh r n c f) (hb : b ≤ 100000)  : Ct l ω yL_isSo cL_isSo 9 (some .boolean) 7 0 0 [.ref x, .ref d, .ref (d + 1), .ref (d + 2), .ref (d + 3), .ref (d + 4), .ref (d + 5)] γ M R (jx γ (some (.int (nI 1))) M R) := by
  refine Ct_of (by decide) (Nat.le_of_ble_eq_true rfl) rfl (jcat_of rfl) ?_
  intro X C E hnm hxl hxn
  subst hxl
  obtain ⟨gx, gd, hvd, hdm, hjm, I, e, hx, A⟩ := L
  have CBH := CB_inv I.1 e I.2.2.2.2.1 hx
  have gx0 := gx.1
  obtain ⟨g0, g1, g2, g3, g4, g5⟩ := gd
  have Z := zRd_of e A.2.2.2.2.2.2.1
  have H := lRd_of A
  have Q := zPn_of e A.2.2.2.2.2.2.2.2 hb
  have hS := A.1
  have P := A.2.2.2.2.1
  have hr30 := Z.2.1
  have hc6 := Z.2.2.2.2.1
  have hsh := e.2.2.2.2.2.2.2.1
  have hn8 : n ≤ 8 := hsh.2.2.1
  have s0 : M (m + 1) 0 = nI r := Z.1
  have s3 : M (m + 1) 3 = nI c := e.2.2.2.1.2.1
  have s4 : M (m + 1) 4 = nI n := hsh.2.1
  have hd := e.2.2.2.2.2.2.2.2
  have d0 : M d 0 = nI r := (hS 0 (by decide)).trans s0
  have d3 : M d 3 = nI c := (hS 3 (by decide)).trans s3
  have d4 : M d 4 = nI n := (hS 4 (by decide)).trans s4
  refine j_aload_n C dL_isSo_0 rfl ?_
  refine j_aload_n C dL_isSo_1 rfl ?_
  refine j_aload_n C dL_isSo_2 rfl ?_
  refine j_aload_n C dL_isSo_3 rfl ?_
  refine j_cSi C (c_L_areRows _ ω γ M R ⟨gx, ⟨g0, g1, g2, g3, g4, g5⟩, hvd, hdm, hjm, I, e, hx, A⟩ hb) yc_L_areRows mn_L_143 st_L_areRows dL_isSo_4 rfl rfl (Nat.le_of_ble_eq_true rfl) (by decide) ?_
  refine j_if_eq C 36 dL_isSo_7 (by decide) (fun h => absurd h (by decide)) (fun _ => ?_)
  refine j_aload_n C dL_isSo_10 rfl ?_
  refine j_aload_n C dL_isSo_11 rfl ?_
  refine j_aload C dL_isSo_12 rfl ?_
  refine j_aload C dL_isSo_14 rfl ?_
  refine j_cSi C (c_L_areStatements _ ω γ M R ⟨gx, ⟨g0, g1, g2, g3, g4, g5⟩, hvd, hdm, hjm, I, e, hx, A⟩ hb) yc_L_areStatements mn_L_147 st_L_areStatements dL_isSo_16 rfl rfl (Nat.le_of_ble_eq_true rfl) (by decide) ?_
  refine j_if_eq C 36 dL_isSo_19 (by decide) (fun h => absurd h (by decide)) (fun _ => ?_)
  refine j_aload_n C dL_isSo_22 rfl ?_
  refine j_aload_n C dL_isSo_23 rfl ?_
  refine j_aload C dL_isSo_24 rfl ?_
  refine j_cSi C (c_L_arePlans _ ω γ M R ⟨gx, ⟨g0, g1, g2, g3, g4, g5⟩, hvd, hdm, hjm, I, e, hx, A⟩ hb) yc_L_arePlans mn_L_151 st_L_arePlans dL_isSo_26 rfl rfl (Nat.le_of_ble_eq_true rfl) (by decide) ?_
  refine j_if_eq C 36 dL_isSo_29 (by decide) (fun h => absurd h (by decide)) (fun _ => ?_)
  refine j_iconst C (nI 1) dL_isSo_32 (by decide) ?_
  refine j_goto C 37 dL_isSo_33 (by decide) ?_
  refine j_istore C dL_isSo_37 (by rw [hxn]; decide) ?_
  refine j_iload C dL_isSo_39 rfl ?_
  refine j_if_eq C 179 dL_isSo_41 (by decide) (fun h => absurd h (by decide)) (fun _ => ?_)
  refine j_aload_n C dL_isSo_44 rfl ?_
  refine j_iconst C (nI 0) dL_isSo_45 (by decide) ?_
  refine j_cVi C (c_X9_count _ ω γ M R gx CBH (nI 0)) yc_X9_count mn_L_134 im_X9_count se_X9_count rfl rfl dL_isSo_46 rfl rfl (gx0) (by decide) (Nat.le_of_ble_eq_true rfl) (by decide) ?_
  refine j_top (nI r) ((st_count I e _).trans (s0)) ?_
  refine j_aload_n C dL_isSo_49 rfl ?_
  refine j_iconst C (nI 0) dL_isSo_50 (by decide) ?_
  refine j_ialdN C (by assumption) dL_isSo_51 (by omega) (by decide) ?_
  refine j_top (nI r) (d0) ?_
  refine j_icmp_ne C 179 dL_isSo_52 (by decide) (fun h => absurd (rfl) h) (fun _ => ?_)
  refine j_aload_n C dL_isSo_55 rfl ?_
  refine j_iconst C (nI 1) dL_isSo_56 (by decide) ?_
  refine j_cVi C (c_X9_count _ ω γ M R gx CBH (nI 1)) yc_X9_count mn_L_134 im_X9_count se_X9_count rfl rfl dL_isSo_57 rfl rfl (gx0) (by decide) (Nat.le_of_ble_eq_true rfl) (by decide) ?_
  refine j_top (sI (zRowW (M (m + 1))) r) ((st_count I e _).trans (rfl)) ?_
  refine j_aload_n C dL_isSo_60 rfl ?_
  refine j_aload_n C dL_isSo_61 rfl ?_
  refine j_cSi C (c_L_size _ ω γ M R ⟨g0, g1, g2, g3, g4, g5⟩ H Z) yc_L_size mn_L_29 st_L_size dL_isSo_62 rfl rfl (Nat.le_of_ble_eq_true rfl) (by decide) ?_
  refine j_icmp_ne C 179 dL_isSo_65 (by decide) (fun h => absurd (rfl) h) (fun _ => ?_)
  refine j_aload_n C dL_isSo_68 rfl ?_
  refine j_iconst C (nI 2) dL_isSo_69 (by decide) ?_
  refine j_cVi C (c_X9_count _ ω γ M R gx CBH (nI 2)) yc_X9_count mn_L_134 im_X9_count se_X9_count rfl rfl dL_isSo_70 rfl rfl (gx0) (by decide) (Nat.le_of_ble_eq_true rfl) (by decide) ?_
  refine j_top ((M (m + 1)) 2) ((st_count I e _).trans (rfl)) ?_
  refine j_aload_n C dL_isSo_73 rfl ?_
  refine j_iconst C (nI 2) dL_isSo_74 (by decide) ?_
  refine j_ialdN C (by assumption) dL_isSo_75 (by omega) (by decide) ?_
  refine j_top (M (m + 1) 2) (hS 2 (by decide)) ?_
  refine j_icmp_ne C 179 dL_isSo_76 (by decide) (fun h => absurd (rfl) h) (fun _ => ?_)
  refine j_aload_n C dL_isSo_79 rfl ?_
  refine j_iconst C (nI 3) dL_isSo_80 (by decide) ?_
  refine j_cVi C (c_X9_count _ ω γ M R gx CBH (nI 3)) yc_X9_count mn_L_134 im_X9_count se_X9_count rfl rfl dL_isSo_81 rfl rfl (gx0) (by decide) (Nat.le_of_ble_eq_true rfl) (by decide) ?_
  refine j_top ((M (m + 1)) 1) ((st_count I e _).trans (rfl)) ?_
  refine j_aload_n C dL_isSo_84 rfl ?_
  refine j_iconst C (nI 1) dL_isSo_85 (by decide) ?_
  refine j_ialdN C (by assumption) dL_isSo_86 (by omega) (by decide) ?_
  refine j_top (M (m + 1) 1) (hS 1 (by decide)) ?_
  refine j_icmp_ne C 179 dL_isSo_87 (by decide) (fun h => absurd (rfl) h) (fun _ => ?_)
  refine j_aload_n C dL_isSo_90 rfl ?_
  refine j_iconst C (nI 4) dL_isSo_91 (by decide) ?_
  refine j_cVi C (c_X9_count _ ω γ M R gx CBH (nI 4)) yc_X9_count mn_L_134 im_X9_count se_X9_count rfl rfl dL_isSo_92 rfl rfl (gx0) (by decide) (Nat.le_of_ble_eq_true rfl) (by decide) ?_
  refine j_top (nI c) ((st_count I e _).trans (s3)) ?_
  refine j_aload_n C dL_isSo_95 rfl ?_
  refine j_iconst C (nI 3) dL_isSo_96 (by decide) ?_
  refine j_ialdN C (by assumption) dL_isSo_97 (by omega) (by decide) ?_
  refine j_top (nI c) (d3) ?_
  refine j_icmp_ne C 179 dL_isSo_98 (by decide) (fun h => absurd (rfl) h) (fun _ => ?_)
  refine j_aload_n C dL_isSo_101 rfl ?_
  refine j_bipush C (nI 7) dL_isSo_102 (by decide) ?_
  refine j_cVi C (c_X9_count _ ω γ M R gx CBH (nI 7)) yc_X9_count mn_L_134 im_X9_count se_X9_count rfl rfl dL_isSo_104 rfl rfl (gx0) (by decide) (Nat.le_of_ble_eq_true rfl) (by decide) ?_
  refine j_top ((M (m + 1)) 6) ((st_count I e _).trans (rfl)) ?_
  refine j_aload_n C dL_isSo_107 rfl ?_
  refine j_bipush C (nI 6) dL_isSo_108 (by decide) ?_
  refine j_ialdN C (by assumption) dL_isSo_110 (by omega) (by decide) ?_
  refine j_top (M (m + 1) 6) (hS 6 (by decide)) ?_
  refine j_icmp_ne C 179 dL_isSo_111 (by decide) (fun h => absurd (rfl) h) (fun _ => ?_)
  refine j_aload_n C dL_isSo_114 rfl ?_
  refine j_bipush C (nI 8) dL_isSo_115 (by decide) ?_
  refine j_cVi C (c_X9_count _ ω γ M R gx CBH (nI 8)) yc_X9_count mn_L_134 im_X9_count se_X9_count rfl rfl dL_isSo_117 rfl rfl (gx0) (by decide) (Nat.le_of_ble_eq_true rfl) (by decide) ?_
  refine j_top ((M (m + 1)) 7) ((st_count I e _).trans (rfl)) ?_
  refine j_aload_n C dL_isSo_120 rfl ?_
  refine j_bipush C (nI 7) dL_isSo_121 (by decide) ?_
  refine j_ialdN C (by assumption) dL_isSo_123 (by omega) (by decide) ?_
  refine j_top (M (m + 1) 7) (hS 7 (by decide)) ?_
  refine j_icmp_ne C 179 dL_isSo_124 (by decide) (fun h => absurd (rfl) h) (fun _ => ?_)
  refine j_aload_n C dL_isSo_127 rfl ?_
  refine j_bipush C (nI 9) dL_isSo_128 (by decide) ?_
  refine j_cVi C (c_X9_count _ ω γ M R gx CBH (nI 9)) yc_X9_count mn_L_134 im_X9_count se_X9_count rfl rfl dL_isSo_130 rfl rfl (gx0) (by decide) (Nat.le_of_ble_eq_true rfl) (by decide) ?_
  refine j_top ((M (m + 1)) 8) ((st_count I e _).trans (rfl)) ?_
  refine j_aload_n C dL_isSo_133 rfl ?_
  refine j_bipush C (nI 8) dL_isSo_134 (by decide) ?_
  refine j_ialdN C (by assumption) dL_isSo_136 (by omega) (by decide) ?_
  refine j_top (M (m + 1) 8) (hS 8 (by decide)) ?_
  refine j_icmp_ne C 179 dL_isSo_137 (by decide) (fun h => absurd (rfl) h) (fun _ => ?_)
  refine j_aload_n C dL_isSo_140 rfl ?_
  refine j_bipush C (nI 10) dL_isSo_141 (by decide) ?_
  refine j_cVi C (c_X9_count _ ω γ M R gx CBH (nI 10)) yc_X9_count mn_L_134 im_X9_count se_X9_count rfl rfl dL_isSo_143 rfl rfl (gx0) (by decide) (Nat.le_of_ble_eq_true rfl) (by decide) ?_
  refine j_top ((M (m + 1)) 9) ((st_count I e _).trans (rfl)) ?_
  refine j_aload_n C dL_isSo_146 rfl ?_
  refine j_bipush C (nI 9) dL_isSo_147 (by decide) ?_
  refine j_ialdN C (by assumption) dL_isSo_149 (by omega) (by decide) ?_
  refine j_top (M (m + 1) 9) (hS 9 (by decide)) ?_
  refine j_icmp_ne C 179 dL_isSo_150 (by decide) (fun h => absurd (rfl) h) (fun _ => ?_)
  refine j_aload_n C dL_isSo_153 rfl ?_
  refine j_bipush C (nI 11) dL_isSo_154 (by decide) ?_
  refine j_cVi C (c_X9_count _ ω γ M R gx CBH (nI 11)) yc_X9_count mn_L_134 im_X9_count se_X9_count rfl rfl dL_isSo_156 rfl rfl (gx0) (by decide) (Nat.le_of_ble_eq_true rfl) (by decide) ?_
  refine j_top ((M (m + 1)) 10) ((st_count I e _).trans (rfl)) ?_
  refine j_aload_n C dL_isSo_159 rfl ?_
  refine j_bipush C (nI 10) dL_isSo_160 (by decide) ?_
  refine j_ialdN C (by assumption) dL_isSo_162 (by omega) (by decide) ?_
  refine j_top (M (m + 1) 10) (hS 10 (by decide)) ?_
  refine j_icmp_ne C 179 dL_isSo_163 (by decide) (fun h => absurd (rfl) h) (fun _ => ?_)
  refine j_aload_n C dL_isSo_166 rfl ?_
  refine j_bipush C (nI 13) dL_isSo_167 (by decide) ?_
  refine j_cVi C (c_X9_count _ ω γ M R gx CBH (nI 13)) yc_X9_count mn_L_134 im_X9_count se_X9_count rfl rfl dL_isSo_169 rfl rfl (gx0) (by decide) (Nat.le_of_ble_eq_true rfl) (by decide) ?_
  refine j_top (nI 0) ((st_count I e _).trans (hx.2.2.1)) ?_
  refine j_if_ne C 179 dL_isSo_172 (by decide) (fun h => absurd (rfl) h) (fun _ => ?_)
  refine j_iconst C (nI 1) dL_isSo_175 (by decide) ?_
  refine j_goto C 180 dL_isSo_176 (by decide) ?_
  refine j_istore C dL_isSo_180 (by rw [hxn]; decide) ?_
  refine j_iconst C (nI 0) dL_isSo_182 (by decide) ?_
  refine j_istore C dL_isSo_183 (by rw [hxn]; decide) ?_
  refine j_loop 5 (fun q => [(0, .ref x), (1, .ref d), (2, .ref (d + 1)), (3, .ref (d + 2)), (4, .ref (d + 3)), (5, .ref (d + 4)), (6, .ref (d + 5)), (7, .int (nI 1)), (8, .int (nI q))]) (fun _ => M) (fun _ => R) (fun _ => True) trivial (fun q hq _ ih => ?_) (fun _ => ?_)
  · skip
    refine j_iload C dL_isSo_185 rfl ?_
    refine j_iconst C (nI 5) dL_isSo_187 (by decide) ?_
    refine j_icmp_ge C 228 dL_isSo_188 (by decide) (fun h => absurd h (nI_ge hq (by decide))) (fun _ => ?_)
    refine j_iload C dL_isSo_191 rfl ?_
    refine j_if_eq C 228 dL_isSo_193 (by decide) (fun h => absurd h (by decide)) (fun _ => ?_)
    refine j_aload_n C dL_isSo_196 rfl ?_
    refine j_bipush C (nI 20) dL_isSo_197 (by decide) ?_
    refine j_iload C dL_isSo_199 rfl ?_
    first | with_reducible refine j_iaddN C dL_isSo_201 ?_ | refine j_iadd C dL_isSo_201 ?_
    refine j_cVi C (c_X9_count _ ω γ M R gx CBH (nI (20 + q))) yc_X9_count mn_L_134 im_X9_count se_X9_count rfl rfl dL_isSo_202 rfl rfl (gx0) (by decide) (Nat.le_of_ble_eq_true rfl) (by decide) ?_
    refine j_top ((M (m + 1)) (11 + q)) ((st_count I e _).trans (zv_set _ _ _ _ hq)) ?_
    refine j_aload_n C dL_isSo_205 rfl ?_
    refine j_bipush C (nI 11) dL_isSo_206 (by decide) ?_
    refine j_iload C dL_isSo_208 rfl ?_
    first | with_reducible refine j_iaddN C dL_isSo_210 ?_ | refine j_iadd C dL_isSo_210 ?_
    refine j_ialdN C (by assumption) dL_isSo_211 (by omega) (by decide) ?_
    refine j_top ((M (m + 1)) (11 + q)) (hS _ (by omega)) ?_
    refine j_icmp_ne C 219 dL_isSo_212 (by decide) (fun h => absurd (rfl) h) (fun _ => ?_)
    refine j_iconst C (nI 1) dL_isSo_215 (by decide) ?_
    refine j_goto C 220 dL_isSo_216 (by decide) ?_
    refine j_istore C dL_isSo_220 (by rw [hxn]; decide) ?_
    first | refine j_iinc1 C dL_isSo_222 rfl (by rw [hxn]; decide) ?_ | refine j_iinc C _ dL_isSo_222 rfl rfl (by rw [hxn]; decide) ?_
    refine j_goto C 185 dL_isSo_225 (by decide) ?_
    exact ih trivial
  · skip
    refine j_iload C dL_isSo_185 rfl ?_
    refine j_iconst C (nI 5) dL_isSo_187 (by decide) ?_
    refine j_icmp_ge C 228 dL_isSo_188 (by decide) (fun _ => ?_) (fun h => absurd (Int32.le_refl _) h)
    refine j_iconst C (nI 0) dL_isSo_228 (by decide) ?_
    refine j_istore C dL_isSo_229 (by rw [hxn]; decide) ?_
    refine j_loop 8 (fun q => [(0, .ref x), (1, .ref d), (2, .ref (d + 1)), (3, .ref (d + 2)), (4, .ref (d + 3)), (5, .ref (d + 4)), (6, .ref (d + 5)), (7, .int (nI 1)), (8, .int (nI q))]) (fun _ => M) (fun _ => R) (fun _ => True) trivial (fun q hq _ ih => ?_) (fun _ => ?_)
    · skip
      refine j_iload C dL_isSo_231 rfl ?_
      refine j_bipush C (nI 8) dL_isSo_233 (by decide) ?_
      refine j_icmp_ge C 284 dL_isSo_235 (by decide) (fun h => absurd h (nI_ge hq (by decide))) (fun _ => ?_)
      refine j_iload C dL_isSo_238 rfl ?_
      refine j_if_eq C 284 dL_isSo_240 (by decide) (fun h => absurd h (by decide)) (fun _ => ?_)
      refine j_aload_n C dL_isSo_243 rfl ?_
      refine j_iload C dL_isSo_244 rfl ?_
      refine j_cVi C (c_X9_latest _ ω γ M R gx CBH (nI q)) yc_X9_latest mn_L_155 im_X9_latest se_X9_latest rfl rfl dL_isSo_246 rfl rfl (gx0) (by decide) (Nat.le_of_ble_eq_true rfl) (by decide) ?_
      refine j_top _ ((st_latest I e _).trans (zv_lat _ hq)) ?_
      refine j_aload C dL_isSo_249 rfl ?_
      refine j_iconst C (nI 0) dL_isSo_251 (by decide) ?_
      refine j_ialdN C (by assumption) dL_isSo_252 (by omega) (by decide) ?_
      refine j_top ((M (m + 1)) 16) A.2.2.2.2.2.1.1 ?_
      refine j_if_ge C 261 dL_isSo_253 (by decide) (fun h253 => ?_) (fun h253 => ?_)
      · skip
        refine j_aload C dL_isSo_261 rfl ?_
        refine j_iconst C (nI 5) dL_isSo_263 (by decide) ?_
        refine j_iload C dL_isSo_264 rfl ?_
        first | with_reducible refine j_iaddN C dL_isSo_266 ?_ | refine j_iadd C dL_isSo_266 ?_
        refine j_ialdN C (by assumption) dL_isSo_267 (by omega) (by decide) ?_
        refine j_top ((M (m + 1)) (21 + q)) (A.2.2.2.2.2.1.2 q hq) ?_
        refine j_icmp_ne C 275 dL_isSo_268 (by decide) (fun h => absurd (by first | rw [if_pos h253] | rw [if_neg h253]) h) (fun _ => ?_)
        refine j_iconst C (nI 1) dL_isSo_271 (by decide) ?_
        refine j_goto C 276 dL_isSo_272 (by decide) ?_
        refine j_istore C dL_isSo_276 (by rw [hxn]; decide) ?_
        first | refine j_iinc1 C dL_isSo_278 rfl (by rw [hxn]; decide) ?_ | refine j_iinc C _ dL_isSo_278 rfl rfl (by rw [hxn]; decide) ?_
        refine j_goto C 231 dL_isSo_281 (by decide) ?_
        exact ih trivial
      · skip
        refine j_bipush C (-4) dL_isSo_256 (by decide) ?_
        refine j_goto C 268 dL_isSo_258 (by decide) ?_
        refine j_icmp_ne C 275 dL_isSo_268 (by decide) (fun h => absurd (by first | rw [if_pos h253] | rw [if_neg h253]) h) (fun _ => ?_)
        refine j_iconst C (nI 1) dL_isSo_271 (by decide) ?_
        refine j_goto C 276 dL_isSo_272 (by decide) ?_
        refine j_istore C dL_isSo_276 (by rw [hxn]; decide) ?_
        first | refine j_iinc1 C dL_isSo_278 rfl (by rw [hxn]; decide) ?_ | refine j_iinc C _ dL_isSo_278 rfl rfl (by rw [hxn]; decide) ?_
        refine j_goto C 231 dL_isSo_281 (by decide) ?_
        exact ih trivial
    · skip
      refine j_iload C dL_isSo_231 rfl ?_
      refine j_bipush C (nI 8) dL_isSo_233 (by decide) ?_
      refine j_icmp_ge C 284 dL_isSo_235 (by decide) (fun _ => ?_) (fun h => absurd (Int32.le_refl _) h)
      refine j_iload C dL_isSo_284 rfl ?_
      refine j_if_eq C 323 dL_isSo_286 (by decide) (fun h => absurd h (by decide)) (fun _ => ?_)
      refine j_aload_n C dL_isSo_289 rfl ?_
      refine j_bipush C (nI 8) dL_isSo_290 (by decide) ?_
      refine j_cVi C (c_X9_latest _ ω γ M R gx CBH (nI 8)) yc_X9_latest mn_L_155 im_X9_latest se_X9_latest rfl rfl dL_isSo_292 rfl rfl (gx0) (by decide) (Nat.le_of_ble_eq_true rfl) (by decide) ?_
      refine j_top (-1) ((st_latest I e _).trans (rfl)) ?_
      refine j_iconst C (-1) dL_isSo_295 (by decide) ?_
      refine j_icmp_ne C 323 dL_isSo_296 (by decide) (fun h => absurd (rfl) h) (fun _ => ?_)
      refine j_aload_n C dL_isSo_299 rfl ?_
      refine j_bipush C (nI 14) dL_isSo_300 (by decide) ?_
      refine j_cVi C (c_X9_count _ ω γ M R gx CBH (nI 14)) yc_X9_count mn_L_134 im_X9_count se_X9_count rfl rfl dL_isSo_302 rfl rfl (gx0) (by decide) (Nat.le_of_ble_eq_true rfl) (by decide) ?_
      refine j_top (-1) ((st_count I e _).trans (rfl)) ?_
      refine j_iconst C (-1) dL_isSo_305 (by decide) ?_
      refine j_icmp_ne C 323 dL_isSo_306 (by decide) (fun h => absurd (rfl) h) (fun _ => ?_)
      refine j_aload_n C dL_isSo_309 rfl ?_
      refine j_bipush C (nI 25) dL_isSo_310 (by decide) ?_
      refine j_cVi C (c_X9_count _ ω γ M R gx CBH (nI 25)) yc_X9_count mn_L_134 im_X9_count se_X9_count rfl rfl dL_isSo_312 rfl rfl (gx0) (by decide) (Nat.le_of_ble_eq_true rfl) (by decide) ?_
      refine j_top (-1) ((st_count I e _).trans (rfl)) ?_
      refine j_iconst C (-1) dL_isSo_315 (by decide) ?_
      refine j_icmp_ne C 323 dL_isSo_316 (by decide) (fun h => absurd (rfl) h) (fun _ => ?_)
      refine j_iconst C (nI 1) dL_isSo_319 (by decide) ?_
      refine j_goto C 324 dL_isSo_320 (by decide) ?_
      exact j_ireturn C E dL_isSo_324 (by decide) (by decide) (by decide) (⟨rfl, rfl, rfl, rfl⟩)
