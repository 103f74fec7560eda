set_option maxHeartbeats 4000000 in
set_option maxRecDepth 100000 in
theorem c_L_tells (l : Launch) (ω : jW) (γ : jG) (M : jM) (R : jR) {x a h T v m d b nh r n c : Nat} {f : Nat → Nat} (L : LI ω γ M R x a h T v m d b nh r n c f) (hb : b ≤ 90000) {y : Nat} (hy : y < 10000000) : Ct l ω yL_tells cL_tells 12 (some .boolean) 9 0 0 [.ref x, .ref d, .ref (d + 3), .int (nI y)] γ M R (lQ ω γ x a h T v m d b) := by
  refine Ct_of (by decide) (Nat.le_of_ble_eq_true rfl) rfl (jcat_of rfl) ?_
  intro X C E hnm hxl hxn
  subst hxl
  have hb0 : b ≤ 100000 := by omega
  obtain ⟨gx, gd, hvd, hdm, hjm, I, e, hx, A⟩ := L
  have CBH := CB_inv I.1 e I.2.2.2.2.1 hx
  have gx0 := gx.1
  obtain ⟨g0, g1, g2, g3, g4, g5⟩ := gd
  have Z := zRd_of e A.2.2.2.2.2.2.1
  have H := lRd_of A
  have Q := zPn_of e A.2.2.2.2.2.2.2.2 hb0
  have hS := A.1
  have P := A.2.2.2.2.1
  have hr30 := Z.2.1
  have hc6 := Z.2.2.2.2.1
  have hsh := e.2.2.2.2.2.2.2.1
  have hn8 : n ≤ 8 := hsh.2.2.1
  have s0 : M (m + 1) 0 = nI r := Z.1
  have s3 : M (m + 1) 3 = nI c := e.2.2.2.1.2.1
  have s4 : M (m + 1) 4 = nI n := hsh.2.1
  have hd := e.2.2.2.2.2.2.2.2
  have d0 : M d 0 = nI r := (hS 0 (by decide)).trans s0
  have d3 : M d 3 = nI c := (hS 3 (by decide)).trans s3
  have d4 : M d 4 = nI n := (hS 4 (by decide)).trans s4
  have J : LJ M R a h T v m b nh r n c 0 f := ⟨I, e, hx⟩
  have gdd : gD ω γ d := ⟨g0, g1, g2, g3, g4, g5⟩
  refine j_iconst C (nI 1) dL_tells_0 (by decide) ?_
  refine j_iload_n C dL_tells_1 rfl ?_
  refine j_iconst C (nI 4) dL_tells_2 (by decide) ?_
  refine j_iremN C dL_tells_3 (by omega) (by decide) (by decide) ?_
  first | with_reducible refine j_iaddN C dL_tells_4 ?_ | refine j_iadd C dL_tells_4 ?_
  obtain ⟨told, ht0⟩ : ∃ told, told = 1 + y % 4 := ⟨_, rfl⟩
  have h1 : 1 ≤ told := by omega
  have h4 : told ≤ 4 := by omega
  refine j_top (nI told) (by rw [ht0]) ?_
  refine j_istore C dL_tells_5 (by rw [hxn]; decide) ?_
  refine j_iload_n C dL_tells_7 rfl ?_
  refine j_iconst C (nI 4) dL_tells_8 (by decide) ?_
  refine j_idivN C dL_tells_9 (by omega) (by decide) (by decide) ?_
  refine j_istore C dL_tells_10 (by rw [hxn]; decide) ?_
  refine j_aload_n C dL_tells_12 rfl ?_
  obtain ⟨eqc, Mq, loq, emq, edq, nhq, fq, Jq⟩ := op_clear J hvd hdm
  refine j_cVi C (c_X9_clearText _ ω γ M R gx CBH) yc_X9_clearText mn_L_62 im_X9_clearText se_X9_clearText rfl rfl dL_tells_13 rfl rfl (gx0) (by decide) (Nat.le_of_ble_eq_true rfl) (by decide) ?_
  refine j_top (nI 0) eqc ?_
  refine j_ghost Mq (fun z hz => loq z (by omega)) ?_
  have Aq : lA Mq d (Mq (m + 1)) r n c (b + 1) := by rw [emq]; exact lA_M (lA_b A (by omega)) edq
  refine j_if_lt C 23 dL_tells_16 (by decide) (fun h => absurd h (nI_pos (by decide))) (fun _ => ?_)
  refine j_iconst C (nI 1) dL_tells_19 (by decide) ?_
  refine j_goto C 24 dL_tells_20 (by decide) ?_
  refine j_istore C dL_tells_24 (by rw [hxn]; decide) ?_
  refine j_iconst C (nI 0) dL_tells_26 (by decide) ?_
  refine j_istore C dL_tells_27 (by rw [hxn]; decide) ?_
  have tq : lTS R a h T v m d r n c y Mq (b + 1) 0 Mq := ⟨b + 1, nhq, fq, by omega, by omega, Jq, rfl, fun _ _ _ => rfl, fun i hi => absurd hi (Nat.not_lt_zero i)⟩
  refine j_locs [0, 1, 2, 3, 4, 5, 6, 7] (l' := [(0, .ref x), (1, .ref d), (2, .ref (d + 3)), (3, .int (nI y)), (4, .int (nI told)), (5, .int (nI (y / 4 / 12 ^ 0))), (6, .int (nI 1)), (7, .int (nI 0))]) (by simp only [Nat.pow_zero, Nat.div_one]; rfl) ?_
  refine j_loopP told (fun q => [(0, .ref x), (1, .ref d), (2, .ref (d + 3)), (3, .int (nI y)), (4, .int (nI told)), (5, .int (nI (y / 4 / 12 ^ q))), (6, .int (nI 1)), (7, .int (nI q))]) (fun _ => 0) (fun _ => 0) (fun q γ9 M9 R9 => γ = γ9 ∧ R = R9 ∧ lTS R a h T v m d r n c y Mq (b + 1) (4 * q - 1) M9) (fun q γ9 M9 R9 hq I9 ih => ?_) (fun γ9 M9 R9 I9 => ?_) ⟨rfl, rfl, tq⟩
  · skip
    obtain ⟨e1, e2, t0⟩ := I9
    subst e1 e2
    have hcy := lCy_lt y q
    refine j_iload C dL_tells_29 rfl ?_
    refine j_iload C dL_tells_31 rfl ?_
    refine j_icmp_ge C 145 dL_tells_33 (by decide) (fun h => absurd h (nI_ge hq (by omega))) (fun _ => ?_)
    refine j_iload C dL_tells_36 rfl ?_
    refine j_bipush C (nI 12) dL_tells_38 (by decide) ?_
    refine j_iremN C dL_tells_40 (Nat.lt_of_le_of_lt (Nat.div_le_self _ _) (by omega)) (by decide) (by decide) ?_
    refine j_top (nI (lCy y q)) rfl ?_
    refine j_istore C dL_tells_41 (by rw [hxn]; decide) ?_
    refine j_iload C dL_tells_43 rfl ?_
    refine j_bipush C (nI 12) dL_tells_45 (by decide) ?_
    refine j_idivN C dL_tells_47 (Nat.lt_of_le_of_lt (Nat.div_le_self _ _) (by omega)) (by decide) (by decide) ?_
    refine j_top (nI (y / 4 / 12 ^ (q + 1))) (by rw [Nat.div_div_eq_div_mul, ← Nat.pow_succ]) ?_
    refine j_istore C dL_tells_48 (by rw [hxn]; decide) ?_
    refine j_iload C dL_tells_50 rfl ?_
    refine j_if_eq C 136 dL_tells_52 (by decide) (fun h => absurd h (by decide)) (fun _ => ?_)
    refine j_iload C dL_tells_55 rfl ?_
    refine j_if_eq C 69 dL_tells_57 (by decide) (fun h57 => ?_) (fun h57 => ?_)
    · skip
      have hq0 : q = 0 := nI_inj (h57.trans nI_0.symm) (by omega) (by decide)
      obtain ⟨Mb, t1, eMb⟩ : ∃ Mb, lTS R a h T v m d r n c y Mq (b + 1) (4 * q) Mb ∧ M9 = Mb := ⟨M9, by rw [hq0] at t0 ⊢; exact t0, rfl⟩
      refine j_mem Mb eMb ?_
      refine j_aload_n C dL_tells_69 rfl ?_
      refine j_bipush C (nI 97) dL_tells_70 (by decide) ?_
      refine j_iload C dL_tells_72 rfl ?_
      refine j_iconst C (nI 3) dL_tells_74 (by decide) ?_
      refine j_idivN C dL_tells_75 (by omega) (by decide) (by decide) ?_
      first | with_reducible refine j_iaddN C dL_tells_76 ?_ | refine j_iadd C dL_tells_76 ?_
      obtain ⟨nh2, CB2, eq2, Mc, lo2, t2⟩ := lTS_type t1 hvd hdm (by omega) (ch := 97 + lCy y q / 3) (lCh_0 y q)
      refine j_cVi C (c_X9_type _ ω γ Mb R gx CB2 (nI (97 + lCy y q / 3))) yc_X9_type mn_L_68 im_X9_type se_X9_type rfl rfl dL_tells_77 rfl rfl (gx0) (by decide) (Nat.le_of_ble_eq_true rfl) (by decide) ?_
      refine j_top (nI (4 * q + 1)) eq2 ?_
      refine j_ghost Mc (fun z hz => lo2 z (by omega)) ?_
      refine j_if_le C 136 dL_tells_80 (by decide) (fun h => absurd h (nI_nle (by omega) (by omega))) (fun _ => ?_)
      refine j_aload_n C dL_tells_83 rfl ?_
      refine j_iload C dL_tells_84 rfl ?_
      refine j_iconst C (nI 3) dL_tells_86 (by decide) ?_
      refine j_iremN C dL_tells_87 (by omega) (by decide) (by decide) ?_
      refine j_if_ne C 96 dL_tells_88 (by decide) (fun h88 => ?_) (fun h88 => ?_)
      · skip
        have he0 : ¬ lCy y q % 3 = 0 := fun z => h88 (by rw [z]; exact nI_0)
        refine j_iload C dL_tells_96 rfl ?_
        refine j_iconst C (nI 3) dL_tells_98 (by decide) ?_
        refine j_iremN C dL_tells_99 (by omega) (by decide) (by decide) ?_
        refine j_iconst C (nI 1) dL_tells_100 (by decide) ?_
        refine j_icmp_ne C 109 dL_tells_101 (by decide) (fun h101 => ?_) (fun h101 => ?_)
        · skip
          have he1 : ¬ lCy y q % 3 = 1 := fun z => h101 (by rw [z])
          refine j_bipush C (nI 62) dL_tells_109 (by decide) ?_
          obtain ⟨nh3, CB3, eq3, Md, lo3, t3⟩ := lTS_type t2 hvd hdm (by omega) (ch := 62) (by rw [lCh_1, if_neg he0, if_neg he1])
          refine j_cVi C (c_X9_type _ ω γ Mc R gx CB3 (nI 62)) yc_X9_type mn_L_68 im_X9_type se_X9_type rfl rfl dL_tells_111 rfl rfl (gx0) (by decide) (Nat.le_of_ble_eq_true rfl) (by decide) ?_
          refine j_top (nI (4 * q + 1 + 1)) eq3 ?_
          refine j_ghost Md (fun z hz => lo3 z (by omega)) ?_
          refine j_if_le C 136 dL_tells_114 (by decide) (fun h => absurd h (nI_nle (by omega) (by omega))) (fun _ => ?_)
          refine j_aload_n C dL_tells_117 rfl ?_
          refine j_bipush C (nI 63) dL_tells_118 (by decide) ?_
          obtain ⟨nh4, CB4, eq4, Me, lo4, t4⟩ := lTS_type t3 hvd hdm (by omega) (ch := 63) (lCh_2 y q)
          refine j_cVi C (c_X9_type _ ω γ Md R gx CB4 (nI 63)) yc_X9_type mn_L_68 im_X9_type se_X9_type rfl rfl dL_tells_120 rfl rfl (gx0) (by decide) (Nat.le_of_ble_eq_true rfl) (by decide) ?_
          refine j_top (nI (4 * q + 1 + 1 + 1)) eq4 ?_
          refine j_ghost Me (fun z hz => lo4 z (by omega)) ?_
          refine j_iconst C (nI 4) dL_tells_123 (by decide) ?_
          refine j_iload C dL_tells_124 rfl ?_
          first | with_reducible refine j_imulN C dL_tells_126 ?_ | refine j_imul C dL_tells_126 ?_
          refine j_iconst C (nI 3) dL_tells_127 (by decide) ?_
          first | with_reducible refine j_iaddN C dL_tells_128 ?_ | refine j_iadd C dL_tells_128 ?_
          refine j_icmp_ne C 136 dL_tells_129 (by decide) (fun h => absurd (rfl) h) (fun _ => ?_)
          refine j_iconst C (nI 1) dL_tells_132 (by decide) ?_
          refine j_goto C 137 dL_tells_133 (by decide) ?_
          refine j_istore C dL_tells_137 (by rw [hxn]; decide) ?_
          first | refine j_iinc1 C dL_tells_139 rfl (by rw [hxn]; decide) ?_ | refine j_iinc C _ dL_tells_139 rfl rfl (by rw [hxn]; decide) ?_
          refine j_goto C 29 dL_tells_142 (by decide) ?_
          refine j_locs [0, 1, 2, 3, 4, 5, 6, 7] rfl ?_
          exact ih γ Me R ⟨rfl, rfl, by rw [show 4 * (q + 1) - 1 = 4 * q + 1 + 1 + 1 by omega]; exact t4⟩
        · skip
          have he : lCy y q % 3 = 1 := nI_inj h101 (by omega) (by decide)
          refine j_bipush C (nI 60) dL_tells_104 (by decide) ?_
          refine j_goto C 111 dL_tells_106 (by decide) ?_
          obtain ⟨nh3, CB3, eq3, Md, lo3, t3⟩ := lTS_type t2 hvd hdm (by omega) (ch := 60) (by rw [lCh_1, if_neg he0, if_pos he])
          refine j_cVi C (c_X9_type _ ω γ Mc R gx CB3 (nI 60)) yc_X9_type mn_L_68 im_X9_type se_X9_type rfl rfl dL_tells_111 rfl rfl (gx0) (by decide) (Nat.le_of_ble_eq_true rfl) (by decide) ?_
          refine j_top (nI (4 * q + 1 + 1)) eq3 ?_
          refine j_ghost Md (fun z hz => lo3 z (by omega)) ?_
          refine j_if_le C 136 dL_tells_114 (by decide) (fun h => absurd h (nI_nle (by omega) (by omega))) (fun _ => ?_)
          refine j_aload_n C dL_tells_117 rfl ?_
          refine j_bipush C (nI 63) dL_tells_118 (by decide) ?_
          obtain ⟨nh4, CB4, eq4, Me, lo4, t4⟩ := lTS_type t3 hvd hdm (by omega) (ch := 63) (lCh_2 y q)
          refine j_cVi C (c_X9_type _ ω γ Md R gx CB4 (nI 63)) yc_X9_type mn_L_68 im_X9_type se_X9_type rfl rfl dL_tells_120 rfl rfl (gx0) (by decide) (Nat.le_of_ble_eq_true rfl) (by decide) ?_
          refine j_top (nI (4 * q + 1 + 1 + 1)) eq4 ?_
          refine j_ghost Me (fun z hz => lo4 z (by omega)) ?_
          refine j_iconst C (nI 4) dL_tells_123 (by decide) ?_
          refine j_iload C dL_tells_124 rfl ?_
          first | with_reducible refine j_imulN C dL_tells_126 ?_ | refine j_imul C dL_tells_126 ?_
          refine j_iconst C (nI 3) dL_tells_127 (by decide) ?_
          first | with_reducible refine j_iaddN C dL_tells_128 ?_ | refine j_iadd C dL_tells_128 ?_
          refine j_icmp_ne C 136 dL_tells_129 (by decide) (fun h => absurd (rfl) h) (fun _ => ?_)
          refine j_iconst C (nI 1) dL_tells_132 (by decide) ?_
          refine j_goto C 137 dL_tells_133 (by decide) ?_
          refine j_istore C dL_tells_137 (by rw [hxn]; decide) ?_
          first | refine j_iinc1 C dL_tells_139 rfl (by rw [hxn]; decide) ?_ | refine j_iinc C _ dL_tells_139 rfl rfl (by rw [hxn]; decide) ?_
          refine j_goto C 29 dL_tells_142 (by decide) ?_
          refine j_locs [0, 1, 2, 3, 4, 5, 6, 7] rfl ?_
          exact ih γ Me R ⟨rfl, rfl, by rw [show 4 * (q + 1) - 1 = 4 * q + 1 + 1 + 1 by omega]; exact t4⟩
      · skip
        have he : lCy y q % 3 = 0 := nI_inj (h88.trans nI_0.symm) (by omega) (by decide)
        refine j_bipush C (nI 61) dL_tells_91 (by decide) ?_
        refine j_goto C 111 dL_tells_93 (by decide) ?_
        obtain ⟨nh3, CB3, eq3, Md, lo3, t3⟩ := lTS_type t2 hvd hdm (by omega) (ch := 61) (by rw [lCh_1, if_pos he])
        refine j_cVi C (c_X9_type _ ω γ Mc R gx CB3 (nI 61)) yc_X9_type mn_L_68 im_X9_type se_X9_type rfl rfl dL_tells_111 rfl rfl (gx0) (by decide) (Nat.le_of_ble_eq_true rfl) (by decide) ?_
        refine j_top (nI (4 * q + 1 + 1)) eq3 ?_
        refine j_ghost Md (fun z hz => lo3 z (by omega)) ?_
        refine j_if_le C 136 dL_tells_114 (by decide) (fun h => absurd h (nI_nle (by omega) (by omega))) (fun _ => ?_)
        refine j_aload_n C dL_tells_117 rfl ?_
        refine j_bipush C (nI 63) dL_tells_118 (by decide) ?_
        obtain ⟨nh4, CB4, eq4, Me, lo4, t4⟩ := lTS_type t3 hvd hdm (by omega) (ch := 63) (lCh_2 y q)
        refine j_cVi C (c_X9_type _ ω γ Md R gx CB4 (nI 63)) yc_X9_type mn_L_68 im_X9_type se_X9_type rfl rfl dL_tells_120 rfl rfl (gx0) (by decide) (Nat.le_of_ble_eq_true rfl) (by decide) ?_
        refine j_top (nI (4 * q + 1 + 1 + 1)) eq4 ?_
        refine j_ghost Me (fun z hz => lo4 z (by omega)) ?_
        refine j_iconst C (nI 4) dL_tells_123 (by decide) ?_
        refine j_iload C dL_tells_124 rfl ?_
        first | with_reducible refine j_imulN C dL_tells_126 ?_ | refine j_imul C dL_tells_126 ?_
        refine j_iconst C (nI 3) dL_tells_127 (by decide) ?_
        first | with_reducible refine j_iaddN C dL_tells_128 ?_ | refine j_iadd C dL_tells_128 ?_
        refine j_icmp_ne C 136 dL_tells_129 (by decide) (fun h => absurd (rfl) h) (fun _ => ?_)
        refine j_iconst C (nI 1) dL_tells_132 (by decide) ?_
        refine j_goto C 137 dL_tells_133 (by decide) ?_
        refine j_istore C dL_tells_137 (by rw [hxn]; decide) ?_
        first | refine j_iinc1 C dL_tells_139 rfl (by rw [hxn]; decide) ?_ | refine j_iinc C _ dL_tells_139 rfl rfl (by rw [hxn]; decide) ?_
        refine j_goto C 29 dL_tells_142 (by decide) ?_
        refine j_locs [0, 1, 2, 3, 4, 5, 6, 7] rfl ?_
        exact ih γ Me R ⟨rfl, rfl, by rw [show 4 * (q + 1) - 1 = 4 * q + 1 + 1 + 1 by omega]; exact t4⟩
    · skip
      have hq0 : 0 < q := Nat.pos_of_ne_zero fun z => h57 (by rw [z]; exact nI_0)
      refine j_aload_n C dL_tells_60 rfl ?_
      refine j_bipush C (nI 38) dL_tells_61 (by decide) ?_
      obtain ⟨nh1, CB1, eq1, Mb, lo1, t1⟩ := lTS_type t0 hvd hdm (by omega) (ch := 38) (by rw [show 4 * q - 1 = 4 * (q - 1) + 3 by omega, lCh_3])
      refine j_cVi C (c_X9_type _ ω γ M9 R gx CB1 (nI 38)) yc_X9_type mn_L_68 im_X9_type se_X9_type rfl rfl dL_tells_63 rfl rfl (gx0) (by decide) (Nat.le_of_ble_eq_true rfl) (by decide) ?_
      refine j_top (nI (4 * q - 1 + 1)) eq1 ?_
      refine j_ghost Mb (fun z hz => lo1 z (by omega)) ?_
      rw [show 4 * q - 1 + 1 = 4 * q by omega] at t1
      refine j_if_le C 136 dL_tells_66 (by decide) (fun h => absurd h (nI_nle (by omega) (by omega))) (fun _ => ?_)
      refine j_aload_n C dL_tells_69 rfl ?_
      refine j_bipush C (nI 97) dL_tells_70 (by decide) ?_
      refine j_iload C dL_tells_72 rfl ?_
      refine j_iconst C (nI 3) dL_tells_74 (by decide) ?_
      refine j_idivN C dL_tells_75 (by omega) (by decide) (by decide) ?_
      first | with_reducible refine j_iaddN C dL_tells_76 ?_ | refine j_iadd C dL_tells_76 ?_
      obtain ⟨nh2, CB2, eq2, Mc, lo2, t2⟩ := lTS_type t1 hvd hdm (by omega) (ch := 97 + lCy y q / 3) (lCh_0 y q)
      refine j_cVi C (c_X9_type _ ω γ Mb R gx CB2 (nI (97 + lCy y q / 3))) yc_X9_type mn_L_68 im_X9_type se_X9_type rfl rfl dL_tells_77 rfl rfl (gx0) (by decide) (Nat.le_of_ble_eq_true rfl) (by decide) ?_
      refine j_top (nI (4 * q + 1)) eq2 ?_
      refine j_ghost Mc (fun z hz => lo2 z (by omega)) ?_
      refine j_if_le C 136 dL_tells_80 (by decide) (fun h => absurd h (nI_nle (by omega) (by omega))) (fun _ => ?_)
      refine j_aload_n C dL_tells_83 rfl ?_
      refine j_iload C dL_tells_84 rfl ?_
      refine j_iconst C (nI 3) dL_tells_86 (by decide) ?_
      refine j_iremN C dL_tells_87 (by omega) (by decide) (by decide) ?_
      refine j_if_ne C 96 dL_tells_88 (by decide) (fun h88 => ?_) (fun h88 => ?_)
      · skip
        have he0 : ¬ lCy y q % 3 = 0 := fun z => h88 (by rw [z]; exact nI_0)
        refine j_iload C dL_tells_96 rfl ?_
        refine j_iconst C (nI 3) dL_tells_98 (by decide) ?_
        refine j_iremN C dL_tells_99 (by omega) (by decide) (by decide) ?_
        refine j_iconst C (nI 1) dL_tells_100 (by decide) ?_
        refine j_icmp_ne C 109 dL_tells_101 (by decide) (fun h101 => ?_) (fun h101 => ?_)
        · skip
          have he1 : ¬ lCy y q % 3 = 1 := fun z => h101 (by rw [z])
          refine j_bipush C (nI 62) dL_tells_109 (by decide) ?_
          obtain ⟨nh3, CB3, eq3, Md, lo3, t3⟩ := lTS_type t2 hvd hdm (by omega) (ch := 62) (by rw [lCh_1, if_neg he0, if_neg he1])
          refine j_cVi C (c_X9_type _ ω γ Mc R gx CB3 (nI 62)) yc_X9_type mn_L_68 im_X9_type se_X9_type rfl rfl dL_tells_111 rfl rfl (gx0) (by decide) (Nat.le_of_ble_eq_true rfl) (by decide) ?_
          refine j_top (nI (4 * q + 1 + 1)) eq3 ?_
          refine j_ghost Md (fun z hz => lo3 z (by omega)) ?_
          refine j_if_le C 136 dL_tells_114 (by decide) (fun h => absurd h (nI_nle (by omega) (by omega))) (fun _ => ?_)
          refine j_aload_n C dL_tells_117 rfl ?_
          refine j_bipush C (nI 63) dL_tells_118 (by decide) ?_
          obtain ⟨nh4, CB4, eq4, Me, lo4, t4⟩ := lTS_type t3 hvd hdm (by omega) (ch := 63) (lCh_2 y q)
          refine j_cVi C (c_X9_type _ ω γ Md R gx CB4 (nI 63)) yc_X9_type mn_L_68 im_X9_type se_X9_type rfl rfl dL_tells_120 rfl rfl (gx0) (by decide) (Nat.le_of_ble_eq_true rfl) (by decide) ?_
          refine j_top (nI (4 * q + 1 + 1 + 1)) eq4 ?_
          refine j_ghost Me (fun z hz => lo4 z (by omega)) ?_
          refine j_iconst C (nI 4) dL_tells_123 (by decide) ?_
          refine j_iload C dL_tells_124 rfl ?_
          first | with_reducible refine j_imulN C dL_tells_126 ?_ | refine j_imul C dL_tells_126 ?_
          refine j_iconst C (nI 3) dL_tells_127 (by decide) ?_
          first | with_reducible refine j_iaddN C dL_tells_128 ?_ | refine j_iadd C dL_tells_128 ?_
          refine j_icmp_ne C 136 dL_tells_129 (by decide) (fun h => absurd (rfl) h) (fun _ => ?_)
          refine j_iconst C (nI 1) dL_tells_132 (by decide) ?_
          refine j_goto C 137 dL_tells_133 (by decide) ?_
          refine j_istore C dL_tells_137 (by rw [hxn]; decide) ?_
          first | refine j_iinc1 C dL_tells_139 rfl (by rw [hxn]; decide) ?_ | refine j_iinc C _ dL_tells_139 rfl rfl (by rw [hxn]; decide) ?_
          refine j_goto C 29 dL_tells_142 (by decide) ?_
          refine j_locs [0, 1, 2, 3, 4, 5, 6, 7] rfl ?_
          exact ih γ Me R ⟨rfl, rfl, by rw [show 4 * (q + 1) - 1 = 4 * q + 1 + 1 + 1 by omega]; exact t4⟩
        · skip
          have he : lCy y q % 3 = 1 := nI_inj h101 (by omega) (by decide)
          refine j_bipush C (nI 60) dL_tells_104 (by decide) ?_
          refine j_goto C 111 dL_tells_106 (by decide) ?_
          obtain ⟨nh3, CB3, eq3, Md, lo3, t3⟩ := lTS_type t2 hvd hdm (by omega) (ch := 60) (by rw [lCh_1, if_neg he0, if_pos he])
          refine j_cVi C (c_X9_type _ ω γ Mc R gx CB3 (nI 60)) yc_X9_type mn_L_68 im_X9_type se_X9_type rfl rfl dL_tells_111 rfl rfl (gx0) (by decide) (Nat.le_of_ble_eq_true rfl) (by decide) ?_
          refine j_top (nI (4 * q + 1 + 1)) eq3 ?_
          refine j_ghost Md (fun z hz => lo3 z (by omega)) ?_
          refine j_if_le C 136 dL_tells_114 (by decide) (fun h => absurd h (nI_nle (by omega) (by omega))) (fun _ => ?_)
          refine j_aload_n C dL_tells_117 rfl ?_
          refine j_bipush C (nI 63) dL_tells_118 (by decide) ?_
          obtain ⟨nh4, CB4, eq4, Me, lo4, t4⟩ := lTS_type t3 hvd hdm (by omega) (ch := 63) (lCh_2 y q)
          refine j_cVi C (c_X9_type _ ω γ Md R gx CB4 (nI 63)) yc_X9_type mn_L_68 im_X9_type se_X9_type rfl rfl dL_tells_120 rfl rfl (gx0) (by decide) (Nat.le_of_ble_eq_true rfl) (by decide) ?_
          refine j_top (nI (4 * q + 1 + 1 + 1)) eq4 ?_
          refine j_ghost Me (fun z hz => lo4 z (by omega)) ?_
          refine j_iconst C (nI 4) dL_tells_123 (by decide) ?_
          refine j_iload C dL_tells_124 rfl ?_
          first | with_reducible refine j_imulN C dL_tells_126 ?_ | refine j_imul C dL_tells_126 ?_
          refine j_iconst C (nI 3) dL_tells_127 (by decide) ?_
          first | with_reducible refine j_iaddN C dL_tells_128 ?_ | refine j_iadd C dL_tells_128 ?_
          refine j_icmp_ne C 136 dL_tells_129 (by decide) (fun h => absurd (rfl) h) (fun _ => ?_)
          refine j_iconst C (nI 1) dL_tells_132 (by decide) ?_
          refine j_goto C 137 dL_tells_133 (by decide) ?_
          refine j_istore C dL_tells_137 (by rw [hxn]; decide) ?_
          first | refine j_iinc1 C dL_tells_139 rfl (by rw [hxn]; decide) ?_ | refine j_iinc C _ dL_tells_139 rfl rfl (by rw [hxn]; decide) ?_
          refine j_goto C 29 dL_tells_142 (by decide) ?_
          refine j_locs [0, 1, 2, 3, 4, 5, 6, 7] rfl ?_
          exact ih γ Me R ⟨rfl, rfl, by rw [show 4 * (q + 1) - 1 = 4 * q + 1 + 1 + 1 by omega]; exact t4⟩
      · skip
        have he : lCy y q % 3 = 0 := nI_inj (h88.trans nI_0.symm) (by omega) (by decide)
        refine j_bipush C (nI 61) dL_tells_91 (by decide) ?_
        refine j_goto C 111 dL_tells_93 (by decide) ?_
        obtain ⟨nh3, CB3, eq3, Md, lo3, t3⟩ := lTS_type t2 hvd hdm (by omega) (ch := 61) (by rw [lCh_1, if_pos he])
        refine j_cVi C (c_X9_type _ ω γ Mc R gx CB3 (nI 61)) yc_X9_type mn_L_68 im_X9_type se_X9_type rfl rfl dL_tells_111 rfl rfl (gx0) (by decide) (Nat.le_of_ble_eq_true rfl) (by decide) ?_
        refine j_top (nI (4 * q + 1 + 1)) eq3 ?_
        refine j_ghost Md (fun z hz => lo3 z (by omega)) ?_
        refine j_if_le C 136 dL_tells_114 (by decide) (fun h => absurd h (nI_nle (by omega) (by omega))) (fun _ => ?_)
        refine j_aload_n C dL_tells_117 rfl ?_
        refine j_bipush C (nI 63) dL_tells_118 (by decide) ?_
        obtain ⟨nh4, CB4, eq4, Me, lo4, t4⟩ := lTS_type t3 hvd hdm (by omega) (ch := 63) (lCh_2 y q)
        refine j_cVi C (c_X9_type _ ω γ Md R gx CB4 (nI 63)) yc_X9_type mn_L_68 im_X9_type se_X9_type rfl rfl dL_tells_120 rfl rfl (gx0) (by decide) (Nat.le_of_ble_eq_true rfl) (by decide) ?_
        refine j_top (nI (4 * q + 1 + 1 + 1)) eq4 ?_
        refine j_ghost Me (fun z hz => lo4 z (by omega)) ?_
        refine j_iconst C (nI 4) dL_tells_123 (by decide) ?_
        refine j_iload C dL_tells_124 rfl ?_
        first | with_reducible refine j_imulN C dL_tells_126 ?_ | refine j_imul C dL_tells_126 ?_
        refine j_iconst C (nI 3) dL_tells_127 (by decide) ?_
        first | with_reducible refine j_iaddN C dL_tells_128 ?_ | refine j_iadd C dL_tells_128 ?_
        refine j_icmp_ne C 136 dL_tells_129 (by decide) (fun h => absurd (rfl) h) (fun _ => ?_)
        refine j_iconst C (nI 1) dL_tells_132 (by decide) ?_
        refine j_goto C 137 dL_tells_133 (by decide) ?_
        refine j_istore C dL_tells_137 (by rw [hxn]; decide) ?_
        first | refine j_iinc1 C dL_tells_139 rfl (by rw [hxn]; decide) ?_ | refine j_iinc C _ dL_tells_139 rfl rfl (by rw [hxn]; decide) ?_
        refine j_goto C 29 dL_tells_142 (by decide) ?_
        refine j_locs [0, 1, 2, 3, 4, 5, 6, 7] rfl ?_
        exact ih γ Me R ⟨rfl, rfl, by rw [show 4 * (q + 1) - 1 = 4 * q + 1 + 1 + 1 by omega]; exact t4⟩
  · skip
    obtain ⟨e1, e2, t0⟩ := I9
    subst e1 e2
    obtain ⟨b5, nh5, f5, hb50, hb5, J5, em5, ed5, tx5⟩ := t0
    have A5 : lA M9 d (M9 (m + 1)) r n c b5 := by rw [em5]; exact lA_M (lA_b Aq hb50) ed5
    have Z5 := zRd_of J5.2.1 A5.2.2.2.2.2.2.1
    have m93 : M9 d 3 = nI c := (A5.1 3 (by decide)).trans J5.num.2.2.2.2.1
    have hd20 := dS_20 y h4
    refine j_iload C dL_tells_29 rfl ?_
    refine j_iload C dL_tells_31 rfl ?_
    refine j_icmp_ge C 145 dL_tells_33 (by decide) (fun _ => ?_) (fun h => absurd (Int32.le_refl _) h)
    refine j_iload C dL_tells_145 rfl ?_
    refine j_istore C dL_tells_147 (by rw [hxn]; decide) ?_
    refine j_bipush C (nI 10) dL_tells_149 (by decide) ?_
    refine j_istore C dL_tells_151 (by rw [hxn]; decide) ?_
    refine j_iconst C (nI 0) dL_tells_153 (by decide) ?_
    refine j_istore C dL_tells_154 (by rw [hxn]; decide) ?_
    refine j_locs [0, 1, 2, 3, 4, 5, 6, 7, 8, 9] (l' := [(0, .ref x), (1, .ref d), (2, .ref (d + 3)), (3, .int (nI y)), (4, .int (nI told)), (5, .int (nI (y / 4 / 12 ^ told))), (6, .int (nI 1)), (7, .int (nI (told + 10 * dS (lCy y) 0))), (8, .int (nI (10 * 12 ^ 0))), (9, .int (nI 0))]) rfl ?_
    refine j_loop told (fun q => [(0, .ref x), (1, .ref d), (2, .ref (d + 3)), (3, .int (nI y)), (4, .int (nI told)), (5, .int (nI (y / 4 / 12 ^ told))), (6, .int (nI 1)), (7, .int (nI (told + 10 * dS (lCy y) q))), (8, .int (nI (10 * 12 ^ q))), (9, .int (nI q))]) (fun _ => M9) (fun _ => R) (fun _ => True) trivial (fun q hq _ ih => ?_) (fun _ => ?_)
    · skip
      refine j_iload C dL_tells_156 rfl ?_
      refine j_iload C dL_tells_158 rfl ?_
      refine j_icmp_ge C 217 dL_tells_160 (by decide) (fun h => absurd h (nI_ge hq (by omega))) (fun _ => ?_)
      refine j_iload_n C dL_tells_163 rfl ?_
      refine j_iconst C (nI 4) dL_tells_164 (by decide) ?_
      refine j_idivN C dL_tells_165 (by omega) (by decide) (by decide) ?_
      refine j_istore C dL_tells_166 (by rw [hxn]; decide) ?_
      refine j_iconst C (nI 0) dL_tells_168 (by decide) ?_
      refine j_istore C dL_tells_169 (by rw [hxn]; decide) ?_
      refine j_locs [0, 1, 2, 3, 4, 5, 6, 7, 8, 9, 10, 11] (l' := [(0, .ref x), (1, .ref d), (2, .ref (d + 3)), (3, .int (nI y)), (4, .int (nI told)), (5, .int (nI (y / 4 / 12 ^ told))), (6, .int (nI 1)), (7, .int (nI (told + 10 * dS (lCy y) q))), (8, .int (nI (10 * 12 ^ q))), (9, .int (nI q)), (10, .int (nI (y / 4 / 12 ^ 0))), (11, .int (nI 0))]) (by simp only [Nat.pow_zero, Nat.div_one]; rfl) ?_
      refine j_loop q (fun p => [(0, .ref x), (1, .ref d), (2, .ref (d + 3)), (3, .int (nI y)), (4, .int (nI told)), (5, .int (nI (y / 4 / 12 ^ told))), (6, .int (nI 1)), (7, .int (nI (told + 10 * dS (lCy y) q))), (8, .int (nI (10 * 12 ^ q))), (9, .int (nI q)), (10, .int (nI (y / 4 / 12 ^ p))), (11, .int (nI p))]) (fun _ => M9) (fun _ => R) (fun _ => True) trivial (fun p hp _ ih2 => ?_) (fun _ => ?_)
      · skip
        refine j_iload C dL_tells_171 rfl ?_
        refine j_iload C dL_tells_173 rfl ?_
        refine j_icmp_ge C 191 dL_tells_175 (by decide) (fun h => absurd h (nI_ge hp (by omega))) (fun _ => ?_)
        refine j_iload C dL_tells_178 rfl ?_
        refine j_bipush C (nI 12) dL_tells_180 (by decide) ?_
        refine j_idivN C dL_tells_182 (Nat.lt_of_le_of_lt (Nat.div_le_self _ _) (by omega)) (by decide) (by decide) ?_
        refine j_top (nI (y / 4 / 12 ^ (p + 1))) (by rw [Nat.div_div_eq_div_mul, ← Nat.pow_succ]) ?_
        refine j_istore C dL_tells_183 (by rw [hxn]; decide) ?_
        first | refine j_iinc1 C dL_tells_185 rfl (by rw [hxn]; decide) ?_ | refine j_iinc C _ dL_tells_185 rfl rfl (by rw [hxn]; decide) ?_
        refine j_goto C 171 dL_tells_188 (by decide) ?_
        exact ih2 trivial
      · skip
        refine j_iload C dL_tells_171 rfl ?_
        refine j_iload C dL_tells_173 rfl ?_
        refine j_icmp_ge C 191 dL_tells_175 (by decide) (fun _ => ?_) (fun h => absurd (Int32.le_refl _) h)
        refine j_iload C dL_tells_191 rfl ?_
        refine j_iload C dL_tells_193 rfl ?_
        refine j_iload C dL_tells_195 rfl ?_
        refine j_bipush C (nI 12) dL_tells_197 (by decide) ?_
        refine j_iremN C dL_tells_199 (Nat.lt_of_le_of_lt (Nat.div_le_self _ _) (by omega)) (by decide) (by decide) ?_
        first | with_reducible refine j_imulN C dL_tells_200 ?_ | refine j_imul C dL_tells_200 ?_
        first | with_reducible refine j_iaddN C dL_tells_201 ?_ | refine j_iadd C dL_tells_201 ?_
        refine j_top (nI (told + 10 * dS (lCy y) (q + 1))) (by congr 1; show _ = told + 10 * (dS (lCy y) q + 12 ^ q * lCy y q); rw [Nat.mul_add, Nat.mul_assoc, Nat.add_assoc]; rfl) ?_
        refine j_istore C dL_tells_202 (by rw [hxn]; decide) ?_
        refine j_iload C dL_tells_204 rfl ?_
        refine j_bipush C (nI 12) dL_tells_206 (by decide) ?_
        first | with_reducible refine j_imulN C dL_tells_208 ?_ | refine j_imul C dL_tells_208 ?_
        refine j_top (nI (10 * 12 ^ (q + 1))) (by rw [Nat.pow_succ, Nat.mul_assoc]) ?_
        refine j_istore C dL_tells_209 (by rw [hxn]; decide) ?_
        first | refine j_iinc1 C dL_tells_211 rfl (by rw [hxn]; decide) ?_ | refine j_iinc C _ dL_tells_211 rfl rfl (by rw [hxn]; decide) ?_
        refine j_goto C 156 dL_tells_214 (by decide) ?_
        refine j_locs [0, 1, 2, 3, 4, 5, 6, 7, 8, 9] rfl ?_
        exact ih trivial
    · skip
      refine j_iload C dL_tells_156 rfl ?_
      refine j_iload C dL_tells_158 rfl ?_
      refine j_icmp_ge C 217 dL_tells_160 (by decide) (fun _ => ?_) (fun h => absurd (Int32.le_refl _) h)
      refine j_iconst C (nI 0) dL_tells_217 (by decide) ?_
      refine j_istore C dL_tells_218 (by rw [hxn]; decide) ?_
      refine j_loop c (fun k => [(0, .ref x), (1, .ref d), (2, .ref (d + 3)), (3, .int (nI y)), (4, .int (nI told)), (5, .int (nI (y / 4 / 12 ^ told))), (6, .int (nI 1)), (7, .int (nI (told + 10 * dS (lCy y) told))), (8, .int (nI (10 * 12 ^ told))), (9, .int (nI k))]) (fun _ => M9) (fun _ => R) (fun k => ∀ j, j < k → ¬ lCode (M9 (m + 1)) j = lTc y told) (fun j hj => absurd hj (Nat.not_lt_zero j)) (fun k hk hI ih => ?_) (fun hI => ?_)
      · skip
        have hcm := lCode_m Z5 hk
        refine j_iload C dL_tells_220 rfl ?_
        refine j_aload_n C dL_tells_222 rfl ?_
        refine j_iconst C (nI 3) dL_tells_223 (by decide) ?_
        refine j_ialdN C (by assumption) dL_tells_224 (by omega) (by decide) ?_
        refine j_top (nI c) m93 ?_
        refine j_icmp_ge C 245 dL_tells_225 (by decide) (fun h => absurd h (nI_ge hk (by omega))) (fun _ => ?_)
        refine j_aload_n C dL_tells_228 rfl ?_
        refine j_iconst C (nI 2) dL_tells_229 (by decide) ?_
        refine j_iload C dL_tells_230 rfl ?_
        first | with_reducible refine j_imulN C dL_tells_232 ?_ | refine j_imul C dL_tells_232 ?_
        refine j_ialdN C (by assumption) dL_tells_233 (by omega) (by decide) ?_
        refine j_top (nI (lCode (M9 (m + 1)) k)) (A5.2.2.2.1 k hk).1 ?_
        refine j_iload C dL_tells_234 rfl ?_
        refine j_icmp_eq C 245 dL_tells_236 (by decide) (fun h236 => ?_) (fun h236 => ?_)
        · skip
          have hkE : lCode (M9 (m + 1)) k = lTc y told := nI_inj h236 (by omega) (by show told + 10 * _ < _; omega)
          refine j_iload C dL_tells_245 rfl ?_
          refine j_aload_n C dL_tells_247 rfl ?_
          refine j_iconst C (nI 3) dL_tells_248 (by decide) ?_
          refine j_ialdN C (by assumption) dL_tells_249 (by omega) (by decide) ?_
          refine j_top (nI c) m93 ?_
          refine j_icmp_ne C 284 dL_tells_250 (by decide) (fun _ => ?_) (fun h => absurd h (fun z => by have := nI_inj z (by omega) (by omega); omega))
          refine j_iload C dL_tells_284 rfl ?_
          refine j_if_eq C 337 dL_tells_286 (by decide) (fun h => absurd h (by decide)) (fun _ => ?_)
          refine j_aload_n C dL_tells_289 rfl ?_
          refine j_iconst C (nI 0) dL_tells_290 (by decide) ?_
          refine j_cVi C (c_X9_fault _ ω γ M9 R gx J5.CB (nI 0)) yc_X9_fault mn_L_72 im_X9_fault se_X9_fault rfl rfl dL_tells_291 rfl rfl (gx0) (by decide) (Nat.le_of_ble_eq_true rfl) (by decide) ?_
          refine j_top (-4) (op_fault J5 (tx_right tx5 h1 h4)) ?_
          refine j_bipush C (-4) dL_tells_294 (by decide) ?_
          refine j_icmp_ne C 337 dL_tells_296 (by decide) (fun h => absurd (rfl) h) (fun _ => ?_)
          refine j_aload_n C dL_tells_299 rfl ?_
          obtain ⟨eqs, M6, lo6, nh6, f6, J6, A6⟩ := op_statS J5 A5 hvd hdm tx5 h1 h4 rfl (Nat.le_of_lt hk) (Or.inl hk) hI (fun _ => hkE)
          refine j_cVi C (c_X9_statement _ ω γ M9 R gx J5.CB) yc_X9_statement mn_L_75 im_X9_statement se_X9_statement rfl rfl dL_tells_300 rfl rfl (gx0) (by decide) (Nat.le_of_ble_eq_true rfl) (by decide) ?_
          refine j_top (nI k) (eqs.trans (if_pos hk)) ?_
          refine j_ghost M6 (fun z hz => lo6 z (by omega)) ?_
          refine j_iload C dL_tells_303 rfl ?_
          refine j_bipush C (nI 6) dL_tells_305 (by decide) ?_
          refine j_icmp_ne C 315 dL_tells_307 (by decide) (fun _ => ?_) (fun h => absurd h (fun z => by have := nI_inj z (by omega) (by decide); omega))
          refine j_iload C dL_tells_315 rfl ?_
          refine j_icmp_ne C 337 dL_tells_317 (by decide) (fun h => absurd (rfl) h) (fun _ => ?_)
          refine j_aload_n C dL_tells_320 rfl ?_
          obtain ⟨eqd, M7, lo7, em7, ed7, nh7, f7, J7⟩ := op_clear J6 hvd hdm
          refine j_cVi C (c_X9_clearText _ ω γ M6 _ gx J6.CB) yc_X9_clearText mn_L_62 im_X9_clearText se_X9_clearText rfl rfl dL_tells_321 rfl rfl (gx0) (by decide) (Nat.le_of_ble_eq_true rfl) (by decide) ?_
          refine j_top (nI (4 * told - 1)) eqd ?_
          refine j_ghost M7 (fun z hz => lo7 z (by omega)) ?_
          refine j_iconst C (nI 4) dL_tells_324 (by decide) ?_
          refine j_iload C dL_tells_325 rfl ?_
          first | with_reducible refine j_imulN C dL_tells_327 ?_ | refine j_imul C dL_tells_327 ?_
          refine j_iconst C (nI 1) dL_tells_328 (by decide) ?_
          refine j_isubN C dL_tells_329 (by omega) ?_
          refine j_icmp_ne C 337 dL_tells_330 (by decide) (fun h => absurd (rfl) h) (fun _ => ?_)
          refine j_iconst C (nI 1) dL_tells_333 (by decide) ?_
          refine j_goto C 338 dL_tells_334 (by decide) ?_
          exact j_ireturn C E dL_tells_338 (by decide) (by decide) (by decide) (lQ_of gx gdd hvd hdm hjm J7 (by omega) (by rw [em7]; exact lA_M (lA_b A6 (by omega)) ed7))
        · skip
          first | refine j_iinc1 C dL_tells_239 rfl (by rw [hxn]; decide) ?_ | refine j_iinc C _ dL_tells_239 rfl rfl (by rw [hxn]; decide) ?_
          refine j_goto C 220 dL_tells_242 (by decide) ?_
          exact ih (fun j hj => (Nat.lt_succ_iff_lt_or_eq.mp hj).elim (hI j) (fun e => by rw [e]; exact fun z => h236 (by rw [z]; rfl)))
      · skip
        refine j_iload C dL_tells_220 rfl ?_
        refine j_aload_n C dL_tells_222 rfl ?_
        refine j_iconst C (nI 3) dL_tells_223 (by decide) ?_
        refine j_ialdN C (by assumption) dL_tells_224 (by omega) (by decide) ?_
        refine j_top (nI c) m93 ?_
        refine j_icmp_ge C 245 dL_tells_225 (by decide) (fun _ => ?_) (fun h => absurd (Int32.le_refl _) h)
        refine j_iload C dL_tells_245 rfl ?_
        refine j_aload_n C dL_tells_247 rfl ?_
        refine j_iconst C (nI 3) dL_tells_248 (by decide) ?_
        refine j_ialdN C (by assumption) dL_tells_249 (by omega) (by decide) ?_
        refine j_top (nI c) m93 ?_
        refine j_icmp_ne C 284 dL_tells_250 (by decide) (fun h => absurd (rfl) h) (fun _ => ?_)
        refine j_iload C dL_tells_253 rfl ?_
        refine j_bipush C (nI 6) dL_tells_255 (by decide) ?_
        refine j_icmp_ge C 284 dL_tells_257 (by decide) (fun h257 => ?_) (fun h257 => ?_)
        · skip
          have hc66 : c = 6 := by have := (nI_leI (by decide) (by omega)).mp h257; omega
          refine j_iload C dL_tells_284 rfl ?_
          refine j_if_eq C 337 dL_tells_286 (by decide) (fun h => absurd h (by decide)) (fun _ => ?_)
          refine j_aload_n C dL_tells_289 rfl ?_
          refine j_iconst C (nI 0) dL_tells_290 (by decide) ?_
          refine j_cVi C (c_X9_fault _ ω γ M9 R gx J5.CB (nI 0)) yc_X9_fault mn_L_72 im_X9_fault se_X9_fault rfl rfl dL_tells_291 rfl rfl (gx0) (by decide) (Nat.le_of_ble_eq_true rfl) (by decide) ?_
          refine j_top (-4) (op_fault J5 (tx_right tx5 h1 h4)) ?_
          refine j_bipush C (-4) dL_tells_294 (by decide) ?_
          refine j_icmp_ne C 337 dL_tells_296 (by decide) (fun h => absurd (rfl) h) (fun _ => ?_)
          refine j_aload_n C dL_tells_299 rfl ?_
          obtain ⟨eqs, M6, lo6, nh6, f6, J6, A6⟩ := op_statS J5 A5 hvd hdm tx5 h1 h4 rfl (Nat.le_refl c) (Or.inr hc66) hI (fun z => absurd z (Nat.lt_irrefl c))
          refine j_cVi C (c_X9_statement _ ω γ M9 R gx J5.CB) yc_X9_statement mn_L_75 im_X9_statement se_X9_statement rfl rfl dL_tells_300 rfl rfl (gx0) (by decide) (Nat.le_of_ble_eq_true rfl) (by decide) ?_
          refine j_top (-3) (eqs.trans (if_neg (Nat.lt_irrefl c))) ?_
          refine j_ghost M6 (fun z hz => lo6 z (by omega)) ?_
          refine j_iload C dL_tells_303 rfl ?_
          refine j_bipush C (nI 6) dL_tells_305 (by decide) ?_
          refine j_icmp_ne C 315 dL_tells_307 (by decide) (fun h => absurd (by rw [hc66]) h) (fun _ => ?_)
          refine j_bipush C (-3) dL_tells_310 (by decide) ?_
          refine j_goto C 317 dL_tells_312 (by decide) ?_
          refine j_icmp_ne C 337 dL_tells_317 (by decide) (fun h => absurd (rfl) h) (fun _ => ?_)
          refine j_aload_n C dL_tells_320 rfl ?_
          obtain ⟨eqd, M7, lo7, em7, ed7, nh7, f7, J7⟩ := op_clear J6 hvd hdm
          refine j_cVi C (c_X9_clearText _ ω γ M6 _ gx J6.CB) yc_X9_clearText mn_L_62 im_X9_clearText se_X9_clearText rfl rfl dL_tells_321 rfl rfl (gx0) (by decide) (Nat.le_of_ble_eq_true rfl) (by decide) ?_
          refine j_top (nI (4 * told - 1)) eqd ?_
          refine j_ghost M7 (fun z hz => lo7 z (by omega)) ?_
          refine j_iconst C (nI 4) dL_tells_324 (by decide) ?_
          refine j_iload C dL_tells_325 rfl ?_
          first | with_reducible refine j_imulN C dL_tells_327 ?_ | refine j_imul C dL_tells_327 ?_
          refine j_iconst C (nI 1) dL_tells_328 (by decide) ?_
          refine j_isubN C dL_tells_329 (by omega) ?_
          refine j_icmp_ne C 337 dL_tells_330 (by decide) (fun h => absurd (rfl) h) (fun _ => ?_)
          refine j_iconst C (nI 1) dL_tells_333 (by decide) ?_
          refine j_goto C 338 dL_tells_334 (by decide) ?_
          exact j_ireturn C E dL_tells_338 (by decide) (by decide) (by decide) (lQ_of gx gdd hvd hdm hjm J7 (by omega) (by rw [em7]; exact lA_M (lA_b A6 (by omega)) ed7))
        · skip
          have hc6l : c < 6 := Nat.lt_of_not_le fun z => h257 (nI_le z (by omega))
          refine j_aload_n C dL_tells_260 rfl ?_
          refine j_iconst C (nI 2) dL_tells_261 (by decide) ?_
          refine j_iload C dL_tells_262 rfl ?_
          first | with_reducible refine j_imulN C dL_tells_264 ?_ | refine j_imul C dL_tells_264 ?_
          refine j_iload C dL_tells_265 rfl ?_
          refine j_iastN C (by assumption) dL_tells_267 (by omega) (by decide) ?_
          refine j_aload_n C dL_tells_268 rfl ?_
          refine j_iconst C (nI 2) dL_tells_269 (by decide) ?_
          refine j_iload C dL_tells_270 rfl ?_
          first | with_reducible refine j_imulN C dL_tells_272 ?_ | refine j_imul C dL_tells_272 ?_
          refine j_iconst C (nI 1) dL_tells_273 (by decide) ?_
          first | with_reducible refine j_iaddN C dL_tells_274 ?_ | refine j_iadd C dL_tells_274 ?_
          refine j_iconst C (nI 0) dL_tells_275 (by decide) ?_
          refine j_iastN C (by assumption) dL_tells_276 (by omega) (by decide) ?_
          refine j_aload_n C dL_tells_277 rfl ?_
          refine j_iconst C (nI 3) dL_tells_278 (by decide) ?_
          refine j_dup2 C dL_tells_279 rfl rfl ?_
          refine j_ialdN C (by assumption) dL_tells_280 (by omega) (by decide) ?_
          refine j_top (nI c) (by rw [jup_row _ _ (by omega), jup_row _ _ (by omega)]; exact m93) ?_
          refine j_iconst C (nI 1) dL_tells_281 (by decide) ?_
          first | with_reducible refine j_iaddN C dL_tells_282 ?_ | refine j_iadd C dL_tells_282 ?_
          refine j_iastN C (by assumption) dL_tells_283 (by omega) (by decide) ?_
          obtain ⟨M1, hM1⟩ : ∃ M1, M1 = jup (jup (jup M9 (d + 3) (2 * c) (nI (lTc y told))) (d + 3) (2 * c + 1) (nI 0)) d 3 (nI (c + 1)) := ⟨_, rfl⟩
          refine j_mem M1 hM1.symm ?_
          obtain ⟨J1, em1, eqs, M6, lo6, nh6, f6, J6, A6⟩ := op_statN J5 A5 hvd hdm tx5 h1 h4 rfl hc6l hI hM1
          refine j_iload C dL_tells_284 rfl ?_
          refine j_if_eq C 337 dL_tells_286 (by decide) (fun h => absurd h (by decide)) (fun _ => ?_)
          refine j_aload_n C dL_tells_289 rfl ?_
          refine j_iconst C (nI 0) dL_tells_290 (by decide) ?_
          refine j_cVi C (c_X9_fault _ ω γ M1 R gx J1.CB (nI 0)) yc_X9_fault mn_L_72 im_X9_fault se_X9_fault rfl rfl dL_tells_291 rfl rfl (gx0) (by decide) (Nat.le_of_ble_eq_true rfl) (by decide) ?_
          refine j_top (-4) (op_fault J1 (by rw [em1]; exact tx_right tx5 h1 h4)) ?_
          refine j_bipush C (-4) dL_tells_294 (by decide) ?_
          refine j_icmp_ne C 337 dL_tells_296 (by decide) (fun h => absurd (rfl) h) (fun _ => ?_)
          refine j_aload_n C dL_tells_299 rfl ?_
          refine j_cVi C (c_X9_statement _ ω γ M1 R gx J1.CB) yc_X9_statement mn_L_75 im_X9_statement se_X9_statement rfl rfl dL_tells_300 rfl rfl (gx0) (by decide) (Nat.le_of_ble_eq_true rfl) (by decide) ?_
          refine j_top (nI c) (eqs) ?_
          refine j_ghost M6 (fun z hz => lo6 z (by omega)) ?_
          refine j_iload C dL_tells_303 rfl ?_
          refine j_bipush C (nI 6) dL_tells_305 (by decide) ?_
          refine j_icmp_ne C 315 dL_tells_307 (by decide) (fun _ => ?_) (fun h => absurd h (fun z => by have := nI_inj z (by omega) (by decide); omega))
          refine j_iload C dL_tells_315 rfl ?_
          refine j_icmp_ne C 337 dL_tells_317 (by decide) (fun h => absurd (rfl) h) (fun _ => ?_)
          refine j_aload_n C dL_tells_320 rfl ?_
          obtain ⟨eqd, M7, lo7, em7, ed7, nh7, f7, J7⟩ := op_clear J6 hvd hdm
          refine j_cVi C (c_X9_clearText _ ω γ M6 _ gx J6.CB) yc_X9_clearText mn_L_62 im_X9_clearText se_X9_clearText rfl rfl dL_tells_321 rfl rfl (gx0) (by decide) (Nat.le_of_ble_eq_true rfl) (by decide) ?_
          refine j_top (nI (4 * told - 1)) eqd ?_
          refine j_ghost M7 (fun z hz => lo7 z (by omega)) ?_
          refine j_iconst C (nI 4) dL_tells_324 (by decide) ?_
          refine j_iload C dL_tells_325 rfl ?_
          first | with_reducible refine j_imulN C dL_tells_327 ?_ | refine j_imul C dL_tells_327 ?_
          refine j_iconst C (nI 1) dL_tells_328 (by decide) ?_
          refine j_isubN C dL_tells_329 (by omega) ?_
          refine j_icmp_ne C 337 dL_tells_330 (by decide) (fun h => absurd (rfl) h) (fun _ => ?_)
          refine j_iconst C (nI 1) dL_tells_333 (by decide) ?_
          refine j_goto C 338 dL_tells_334 (by decide) ?_
          exact j_ireturn C E dL_tells_338 (by decide) (by decide) (by decide) (lQ_of gx gdd hvd hdm hjm J7 (by omega) (by rw [em7]; exact lA_M (lA_b A6 (by omega)) ed7))
