set_option maxHeartbeats 4000000 in
set_option maxRecDepth 100000 in
theorem c_X10_clears (l : Launch) (ω : jW) (γ : jG) (M : jM) (R : jR) {m : Nat} (g : gM ω γ m) {n : Nat} (hn : M (m + 1) 4 = nI n) (hn8 : n ≤ 8)  : Ct l ω yX10_clears cX10_clears 3 (some .int) 4 0 0 [.ref m] γ M R (jx γ (some (.int (zCl (M (m + 1) 15) m n M (-4)).2.1)) (zCl (M (m + 1) 15) m n M (-4)).1 R) := by
  refine Ct_of (by decide) (Nat.le_of_ble_eq_true rfl) rfl (jcat_of rfl) ?_
  intro X C E hnm hxl hxn
  subst hxl
  have g9 := g
  obtain ⟨g0, g1, g2, g3, g4, g5, g6, g7, g8⟩ := g
  refine j_bipush C (-4) dX10_clears_0 (by decide) ?_
  refine j_istore_n C dX10_clears_2 (by rw [hxn]; decide) ?_
  refine j_aload_n C dX10_clears_3 rfl ?_
  refine j_iconst C (nI 0) dX10_clears_4 (by decide) ?_
  refine j_cVi C (c_X10_dropsAt _ ω γ M R g9 hn hn8 (nI 0)) yc_X10_dropsAt mn_X10_108 im_X10_dropsAt se_X10_dropsAt rfl rfl dX10_clears_5 rfl rfl (by assumption) (by decide) (Nat.le_of_ble_eq_true rfl) (by decide) ?_
  refine j_istore_n C dX10_clears_8 (by rw [hxn]; decide) ?_
  refine j_while (σ := Nat × jM × Int32) (fun s => [(0, .ref m), (1, .int s.2.2), (2, .int (zLast (zDrp (s.2.1 (m + 1)) s.1 (nI 0)) s.1))]) (fun s => s.2.1) (fun _ => R) (fun s => s.1 ≤ 8 ∧ s.2.1 (m + 1) 4 = nI s.1 ∧ s.2.1 (m + 1) 15 = M (m + 1) 15 ∧ zCl (M (m + 1) 15) m s.1 s.2.1 s.2.2 = zCl (M (m + 1) 15) m n M (-4)) (fun s => s.1) (fun s hI ih => ?_) (n, M, -4) ?_
  · skip
    obtain ⟨n1, N1, f1⟩ := s
    obtain ⟨hn1, hk1, hc1, hr1⟩ := hI
    dsimp only at hn1 hk1 hc1 hr1 ih ⊢
    refine j_aload_n C dX10_clears_9 rfl ?_
    refine j_getR C fl_X10_7 (by assumption) dX10_clears_10 (by decide) rfl (by assumption) ?_
    refine j_iconst C (nI 4) dX10_clears_13 (by decide) ?_
    refine j_ialdN C (by assumption) dX10_clears_14 (by omega) (by decide) ?_
    refine j_top (nI n1) hk1 ?_
    refine j_aload_n C dX10_clears_15 rfl ?_
    refine j_getR C fl_X10_7 (by assumption) dX10_clears_16 (by decide) rfl (by assumption) ?_
    refine j_bipush C (nI 15) dX10_clears_19 (by decide) ?_
    refine j_ialdN C (by assumption) dX10_clears_21 (by omega) (by decide) ?_
    refine j_top (M (m + 1) 15) hc1 ?_
    refine j_icmp_lt C 69 dX10_clears_22 (by decide) (fun h22 => ?_) (fun h22 => ?_)
    · skip
      have hx := zCl_stop (N := N1) (f := f1) (m := m) (Or.inl h22)
      refine j_iload_n C dX10_clears_69 rfl ?_
      exact j_ireturn C E dX10_clears_70 (rfl) (by decide) (by decide) (⟨by rw [← hr1, hx], rfl, by rw [← hr1, hx], rfl⟩)
    · skip
      refine j_iload_n C dX10_clears_25 rfl ?_
      refine j_if_lt C 69 dX10_clears_26 (by decide) (fun h26 => ?_) (fun h26 => ?_)
      · skip
        have hx := zCl_stop (cap := M (m + 1) 15) (f := f1) (Or.inr h26)
        refine j_iload_n C dX10_clears_69 rfl ?_
        exact j_ireturn C E dX10_clears_70 (rfl) (by decide) (by decide) (⟨by rw [← hr1, hx], rfl, by rw [← hr1, hx], rfl⟩)
      · skip
        obtain ⟨q, hq, -, eq⟩ := zLast_N h26
        obtain ⟨w, rfl⟩ : ∃ w, n1 = w + 1 := ⟨n1 - 1, by omega⟩
        refine j_iload_n C dX10_clears_29 rfl ?_
        refine j_if_ge C 42 dX10_clears_30 (by decide) (fun h30 => ?_) (fun h30 => ?_)
        · skip
          refine j_iload_n C dX10_clears_42 rfl ?_
          refine j_istore_n C dX10_clears_43 (by rw [hxn]; decide) ?_
          refine j_aload_n C dX10_clears_44 rfl ?_
          refine j_iload_n C dX10_clears_45 rfl ?_
          refine j_top (nI q) eq ?_
          refine j_cVv C (c_X10_takesOut _ ω γ N1 R g9 hk1 hn1 hq) yc_X10_takesOut mn_X10_53 im_X10_takesOut se_X10_takesOut rfl rfl dX10_clears_46 rfl rfl (by assumption) (by decide) (Nat.le_of_ble_eq_true rfl) (by decide) ?_
          refine j_aload_n C dX10_clears_49 rfl ?_
          refine j_getR C fl_X10_7 (by assumption) dX10_clears_50 (by decide) rfl (by assumption) ?_
          refine j_bipush C (nI 8) dX10_clears_53 (by decide) ?_
          refine j_dup2 C dX10_clears_55 rfl rfl ?_
          refine j_ialdN C (by assumption) dX10_clears_56 (by omega) (by decide) ?_
          refine j_iconst C (nI 1) dX10_clears_57 (by decide) ?_
          first | with_reducible refine j_iaddN C dX10_clears_58 ?_ | refine j_iadd C dX10_clears_58 ?_
          refine j_iastN C (by assumption) dX10_clears_59 (by omega) (by decide) ?_
          refine j_aload_n C dX10_clears_60 rfl ?_
          refine j_iconst C (nI 0) dX10_clears_61 (by decide) ?_
          refine j_cVi C (c_X10_dropsAt _ ω γ _ R g9 (n := w) (by rw [jup_nk _ _ (by decide)]; exact mOut_n _ _ _ _) (by omega) (nI 0)) yc_X10_dropsAt mn_X10_108 im_X10_dropsAt se_X10_dropsAt rfl rfl dX10_clears_62 rfl rfl (by assumption) (by decide) (Nat.le_of_ble_eq_true rfl) (by decide) ?_
          refine j_istore_n C dX10_clears_65 (by rw [hxn]; decide) ?_
          refine j_goto C 9 dX10_clears_66 (by decide) ?_
          have n4 : (jup (mOut N1 m (w + 1) q) (m + 1) 8 (mOut N1 m (w + 1) q (m + 1) 8 + nI 1)) (m + 1) 4 = nI w := by rw [jup_nk _ _ (by decide)]; exact mOut_n _ _ _ _
          have n15 : (jup (mOut N1 m (w + 1) q) (m + 1) 8 (mOut N1 m (w + 1) q (m + 1) 8 + nI 1)) (m + 1) 15 = M (m + 1) 15 := by rw [jup_nk _ _ (by decide), mOut_l _ (by decide) (by decide)]; exact hc1
          have e9 : zCl (M (m + 1) 15) m w (jup (mOut N1 m (w + 1) q) (m + 1) 8 (mOut N1 m (w + 1) q (m + 1) 8 + nI 1)) (if 0 ≤ f1 then f1 else N1 (m + 1) (367 + 9 * q + 0)) = zCl (M (m + 1) 15) m n M (-4) := by rw [← hr1, zCl_go h22 eq (by omega)]
          first | (rw [if_pos h30] at e9; exact ih (w, jup (mOut N1 m (w + 1) q) (m + 1) 8 (mOut N1 m (w + 1) q (m + 1) 8 + nI 1), f1) ⟨Nat.le_of_succ_le hn1, n4, n15, e9⟩ (Nat.lt_succ_self w)) | (rw [if_neg h30] at e9; exact ih (w, jup (mOut N1 m (w + 1) q) (m + 1) 8 (mOut N1 m (w + 1) q (m + 1) 8 + nI 1), N1 (m + 1) (367 + 9 * q + 0)) ⟨Nat.le_of_succ_le hn1, n4, n15, e9⟩ (Nat.lt_succ_self w))
        · skip
          refine j_aload_n C dX10_clears_33 rfl ?_
          refine j_iload_n C dX10_clears_34 rfl ?_
          refine j_top (nI q) eq ?_
          refine j_iconst C (nI 0) dX10_clears_35 (by decide) ?_
          refine j_cVi C (c_X10_ofPlan _ _ _ _ _ (by assumption) (by omega)) yc_X10_ofPlan mn_X10_47 im_X10_ofPlan se_X10_ofPlan rfl rfl dX10_clears_36 rfl rfl (by assumption) (by decide) (Nat.le_of_ble_eq_true rfl) (by decide) ?_
          refine j_goto C 43 dX10_clears_39 (by decide) ?_
          refine j_istore_n C dX10_clears_43 (by rw [hxn]; decide) ?_
          refine j_aload_n C dX10_clears_44 rfl ?_
          refine j_iload_n C dX10_clears_45 rfl ?_
          refine j_top (nI q) eq ?_
          refine j_cVv C (c_X10_takesOut _ ω γ N1 R g9 hk1 hn1 hq) yc_X10_takesOut mn_X10_53 im_X10_takesOut se_X10_takesOut rfl rfl dX10_clears_46 rfl rfl (by assumption) (by decide) (Nat.le_of_ble_eq_true rfl) (by decide) ?_
          refine j_aload_n C dX10_clears_49 rfl ?_
          refine j_getR C fl_X10_7 (by assumption) dX10_clears_50 (by decide) rfl (by assumption) ?_
          refine j_bipush C (nI 8) dX10_clears_53 (by decide) ?_
          refine j_dup2 C dX10_clears_55 rfl rfl ?_
          refine j_ialdN C (by assumption) dX10_clears_56 (by omega) (by decide) ?_
          refine j_iconst C (nI 1) dX10_clears_57 (by decide) ?_
          first | with_reducible refine j_iaddN C dX10_clears_58 ?_ | refine j_iadd C dX10_clears_58 ?_
          refine j_iastN C (by assumption) dX10_clears_59 (by omega) (by decide) ?_
          refine j_aload_n C dX10_clears_60 rfl ?_
          refine j_iconst C (nI 0) dX10_clears_61 (by decide) ?_
          refine j_cVi C (c_X10_dropsAt _ ω γ _ R g9 (n := w) (by rw [jup_nk _ _ (by decide)]; exact mOut_n _ _ _ _) (by omega) (nI 0)) yc_X10_dropsAt mn_X10_108 im_X10_dropsAt se_X10_dropsAt rfl rfl dX10_clears_62 rfl rfl (by assumption) (by decide) (Nat.le_of_ble_eq_true rfl) (by decide) ?_
          refine j_istore_n C dX10_clears_65 (by rw [hxn]; decide) ?_
          refine j_goto C 9 dX10_clears_66 (by decide) ?_
          have n4 : (jup (mOut N1 m (w + 1) q) (m + 1) 8 (mOut N1 m (w + 1) q (m + 1) 8 + nI 1)) (m + 1) 4 = nI w := by rw [jup_nk _ _ (by decide)]; exact mOut_n _ _ _ _
          have n15 : (jup (mOut N1 m (w + 1) q) (m + 1) 8 (mOut N1 m (w + 1) q (m + 1) 8 + nI 1)) (m + 1) 15 = M (m + 1) 15 := by rw [jup_nk _ _ (by decide), mOut_l _ (by decide) (by decide)]; exact hc1
          have e9 : zCl (M (m + 1) 15) m w (jup (mOut N1 m (w + 1) q) (m + 1) 8 (mOut N1 m (w + 1) q (m + 1) 8 + nI 1)) (if 0 ≤ f1 then f1 else N1 (m + 1) (367 + 9 * q + 0)) = zCl (M (m + 1) 15) m n M (-4) := by rw [← hr1, zCl_go h22 eq (by omega)]
          first | (rw [if_pos h30] at e9; exact ih (w, jup (mOut N1 m (w + 1) q) (m + 1) 8 (mOut N1 m (w + 1) q (m + 1) 8 + nI 1), f1) ⟨Nat.le_of_succ_le hn1, n4, n15, e9⟩ (Nat.lt_succ_self w)) | (rw [if_neg h30] at e9; exact ih (w, jup (mOut N1 m (w + 1) q) (m + 1) 8 (mOut N1 m (w + 1) q (m + 1) 8 + nI 1), N1 (m + 1) (367 + 9 * q + 0)) ⟨Nat.le_of_succ_le hn1, n4, n15, e9⟩ (Nat.lt_succ_self w))
  exact ⟨hn8, hn, rfl, rfl⟩

set_option maxHeartbeats 4000000 in
set_option maxRecDepth 100000 in
theorem c_X10_index (l : Launch) (ω : jW) (γ : jG) (M : jM) (R : jR) {m : Nat} (g : gM ω γ m) {n : Nat} (hn : M (m + 1) 4 = nI n) (hn8 : n ≤ 8) {np : Nat} (hp : M m 2 = nI np) (hp4 : np ≤ 4) (hpl : zPl M m n) (c w : Int32) : Ct l ω yX10_index cX10_index 6 (some .int) 3 0 0 [.ref m, .int c, .int w] γ M R (jx γ (some (.int (zfIndex M m np n c w))) (zmIndex M m np n c w) R) := by
  refine Ct_of (by decide) (Nat.le_of_ble_eq_true rfl) rfl (jcat_of rfl) ?_
  intro X C E hnm hxl hxn
  subst hxl
  have g9 := g
  obtain ⟨g0, g1, g2, g3, g4, g5, g6, g7, g8⟩ := g
  have eS : mChg M m np (m + 1) = M (m + 1) := mChg_o M (by omega) (by omega)
  have e15 : zIxM M m np c (m + 1) 4 = nI n := by rw [zIxM, jup_nk _ _ (by decide), eS]; exact hn
  have e16 : zPl (zIxM M m np c) m n := fun q hq => by rw [zIxM, jup_nk _ _ (by omega), jup_nk _ _ (by omega), eS]; exact hpl q hq
  refine j_iload_n C dX10_index_0 rfl ?_
  refine j_iconst C (nI 0) dX10_index_1 (by decide) ?_
  refine j_iconst C (nI 3) dX10_index_2 (by decide) ?_
  refine j_cSi C (c_X10_in _ _ _ _ _ _ _ _) yc_X10_in mn_X10_26 st_X10_in dX10_index_3 rfl rfl (Nat.le_of_ble_eq_true rfl) (by decide) ?_
  refine j_if_eq C 18 dX10_index_6 (by decide) (fun h6 => ?_) (fun h6 => ?_)
  · skip
    refine j_iconst C (-1) dX10_index_18 (by decide) ?_
    exact j_ireturn C E dX10_index_19 (rfl) (by decide) (by decide) (⟨by simp only [zfIndex, if_pos h6], rfl, by simp only [zmIndex, if_pos h6], rfl⟩)
  · skip
    refine j_iload_n C dX10_index_9 rfl ?_
    refine j_iconst C (nI 0) dX10_index_10 (by decide) ?_
    refine j_iconst C (nI 1) dX10_index_11 (by decide) ?_
    refine j_cSi C (c_X10_in _ _ _ _ _ _ _ _) yc_X10_in mn_X10_26 st_X10_in dX10_index_12 rfl rfl (Nat.le_of_ble_eq_true rfl) (by decide) ?_
    refine j_if_ne C 20 dX10_index_15 (by decide) (fun h15 => ?_) (fun h15 => ?_)
    · skip
      refine j_aload_n C dX10_index_20 rfl ?_
      refine j_iload_n C dX10_index_21 rfl ?_
      refine j_cVi C (c_X10_hasIndex _ _ _ _ _ (by assumption) _) yc_X10_hasIndex mn_X10_44 im_X10_hasIndex se_X10_hasIndex rfl rfl dX10_index_22 rfl rfl (by assumption) (by decide) (Nat.le_of_ble_eq_true rfl) (by decide) ?_
      refine j_iload_n C dX10_index_25 rfl ?_
      refine j_iconst C (nI 1) dX10_index_26 (by decide) ?_
      refine j_icmp_ne C 34 dX10_index_27 (by decide) (fun h27 => ?_) (fun h27 => ?_)
      · skip
        refine j_iconst C (nI 0) dX10_index_34 (by decide) ?_
        refine j_top (if w = nI 1 then nI 1 else nI 0) (by first | rw [if_pos h27] | rw [if_neg h27]) ?_
        refine j_icmp_ne C 41 dX10_index_35 (by decide) (fun h35 => ?_) (fun h35 => ?_)
        · skip
          refine j_aload_n C dX10_index_41 rfl ?_
          refine j_cVv C (c_X10_changes _ ω γ M R g9 hp hp4) yc_X10_changes mn_X10_34 im_X10_changes se_X10_changes rfl rfl dX10_index_42 rfl rfl (by assumption) (by decide) (Nat.le_of_ble_eq_true rfl) (by decide) ?_
          refine j_aload_n C dX10_index_45 rfl ?_
          refine j_getR C fl_X10_7 (by assumption) dX10_index_46 (by decide) rfl (by assumption) ?_
          refine j_iconst C (nI 1) dX10_index_49 (by decide) ?_
          refine j_dup2 C dX10_index_50 rfl rfl ?_
          refine j_ialdN C (by assumption) dX10_index_51 (by omega) (by decide) ?_
          rw [eS]
          refine j_iconst C (nI 1) dX10_index_52 (by decide) ?_
          refine j_iload_n C dX10_index_53 rfl ?_
          refine j_ishl C dX10_index_54 ?_
          refine j_ixor C dX10_index_55 ?_
          refine j_iastN C (by assumption) dX10_index_56 (by omega) (by decide) ?_
          refine j_mem (zIxM M m np c) rfl ?_
          refine j_iconst C (nI 0) dX10_index_57 (by decide) ?_
          refine j_istore_n C dX10_index_58 (by rw [hxn]; decide) ?_
          refine j_aload_n C dX10_index_59 rfl ?_
          refine j_getR C fl_X10_7 (by assumption) dX10_index_60 (by decide) rfl (by assumption) ?_
          refine j_iconst C (nI 4) dX10_index_63 (by decide) ?_
          refine j_ialdN C (by assumption) dX10_index_64 (by omega) (by decide) ?_
          refine j_top (nI n) e15 ?_
          refine j_iconst C (nI 1) dX10_index_65 (by decide) ?_
          refine j_isub C dX10_index_66 ?_
          refine j_istore C dX10_index_67 (by rw [hxn]; decide) ?_
          rw [show (Value.int (nI n - nI 1)) = Value.int (jPred n) from rfl]
          refine j_while (σ := Nat × Nat × jM × Nat) (fun s => [(0, .ref m), (1, .int c), (2, .int w), (3, .int (nI s.2.2.2)), (4, .int (jPred s.1))]) (fun s => s.2.2.1) (fun _ => R) (fun s => s.1 ≤ s.2.1 ∧ s.2.1 ≤ 8 ∧ s.2.2.1 (m + 1) 4 = nI s.2.1 ∧ zPl s.2.2.1 m s.2.1 ∧ zIx m c w s.1 s.2.1 s.2.2.1 s.2.2.2 = zIxR M m np n c w) (fun s => s.1) (fun s hI ih => ?_) (n, n, zIxM M m np c, 0) ?_
          · skip
            obtain ⟨k1, n1, N1, f1⟩ := s
            obtain ⟨hkn, hn1, hk1, hp1, hr1⟩ := hI
            dsimp only at hkn hn1 hk1 hp1 hr1 ih ⊢
            rcases Nat.eq_zero_or_pos k1 with rfl | hpos
            · skip
              refine j_iload C dX10_index_69 rfl ?_
              refine j_if_lt C 139 dX10_index_71 (by decide) (fun _ => ?_) (fun h => absurd (jPred_neg) h)
              have e9 : zIxR M m np n c w = (N1, n1, f1) := hr1.symm
              refine j_aload_n C dX10_index_139 rfl ?_
              refine j_getR C fl_X10_7 (by assumption) dX10_index_140 (by decide) rfl (by assumption) ?_
              refine j_bipush C (nI 10) dX10_index_143 (by decide) ?_
              refine j_dup2 C dX10_index_145 rfl rfl ?_
              refine j_ialdN C (by assumption) dX10_index_146 (by omega) (by decide) ?_
              refine j_iload_n C dX10_index_147 rfl ?_
              first | with_reducible refine j_iaddN C dX10_index_148 ?_ | refine j_iadd C dX10_index_148 ?_
              refine j_iastN C (by assumption) dX10_index_149 (by omega) (by decide) ?_
              refine j_iload_n C dX10_index_150 rfl ?_
              exact j_ireturn C E dX10_index_151 (rfl) (by decide) (by decide) (⟨by simp only [zfIndex, if_neg h6, if_neg h15, if_neg h35, e9], rfl, by simp only [zmIndex, if_neg h6, if_neg h15, if_neg h35, e9], rfl⟩)
            · skip
              obtain ⟨k, rfl⟩ : ∃ k, k1 = k + 1 := ⟨k1 - 1, by omega⟩
              rw [show jPred (k + 1) = nI k from jPred_s k]
              obtain ⟨t, wy, ht6, hwy, hq1, hq3⟩ := hp1 k (by omega)
              refine j_iload C dX10_index_69 rfl ?_
              refine j_if_lt C 139 dX10_index_71 (by decide) (fun h => absurd h (nI_pos (by omega))) (fun _ => ?_)
              refine j_aload_n C dX10_index_74 rfl ?_
              refine j_iload C dX10_index_75 rfl ?_
              refine j_iconst C (nI 3) dX10_index_77 (by decide) ?_
              refine j_cVi C (c_X10_ofPlan _ _ _ _ _ (by assumption) (by omega)) yc_X10_ofPlan mn_X10_47 im_X10_ofPlan se_X10_ofPlan rfl rfl dX10_index_78 rfl rfl (by assumption) (by decide) (Nat.le_of_ble_eq_true rfl) (by decide) ?_
              refine j_top (nI wy) hq3 ?_
              refine j_bipush C (nI 9) dX10_index_81 (by decide) ?_
              refine j_icmp_eq C 112 dX10_index_83 (by decide) (fun h83 => ?_) (fun h83 => ?_)
              · skip
                refine j_iconst C (nI 0) dX10_index_112 (by decide) ?_
                refine j_istore C dX10_index_113 (by rw [hxn]; decide) ?_
                refine j_iload C dX10_index_115 rfl ?_
                refine j_if_eq C 133 dX10_index_117 (by decide) (fun h117 => ?_) (fun h117 => ?_)
                · skip
                  refine j_iinc C _ dX10_index_133 rfl rfl (by rw [hxn]; decide) ?_
                  rw [jPred_i]
                  refine j_goto C 69 dX10_index_136 (by decide) ?_
                  first
                    | exact absurd (by decide) h117
                    | exact absurd h117 (by decide)
                    | (have e9 : zIx m c w k (n1 - 1) (mOut N1 m n1 k) (f1 + 1) = zIxR M m np n c w := by (rw [← hr1, zIx, if_pos (zGo_t hq1 hq3 ht6 (by assumption) (by assumption) (by assumption) (by assumption))])
                       refine j_locs [0, 1, 2, 3, 4] rfl ?_
                       exact ih (k, n1 - 1, mOut N1 m n1 k, f1 + 1) ⟨Nat.le_pred_of_lt hkn, Nat.le_trans (Nat.pred_le n1) hn1, mOut_n _ _ _ _, zPl_out hp1 (by omega), e9⟩ (Nat.lt_succ_self k))
                    | (have e9 : zIx m c w k n1 N1 f1 = zIxR M m np n c w := by (rw [← hr1, zIx, if_neg (by first | exact zGo_f1 hq3 (by assumption) | exact zGo_f2 hq1 hq3 ht6 hw4 (by assumption) | exact zGo_f3 (by assumption))])
                       refine j_locs [0, 1, 2, 3, 4] rfl ?_
                       exact ih (k, n1, N1, f1) ⟨Nat.le_of_succ_le hkn, hn1, hk1, hp1, e9⟩ (Nat.lt_succ_self k))
                · skip
                  refine j_iload_n C dX10_index_120 rfl ?_
                  refine j_if_ne C 133 dX10_index_121 (by decide) (fun h121 => ?_) (fun h121 => ?_)
                  · skip
                    refine j_iinc C _ dX10_index_133 rfl rfl (by rw [hxn]; decide) ?_
                    rw [jPred_i]
                    refine j_goto C 69 dX10_index_136 (by decide) ?_
                    first
                      | exact absurd (by decide) h117
                      | exact absurd h117 (by decide)
                      | (have e9 : zIx m c w k (n1 - 1) (mOut N1 m n1 k) (f1 + 1) = zIxR M m np n c w := by (rw [← hr1, zIx, if_pos (zGo_t hq1 hq3 ht6 (by assumption) (by assumption) (by assumption) (by assumption))])
                         refine j_locs [0, 1, 2, 3, 4] rfl ?_
                         exact ih (k, n1 - 1, mOut N1 m n1 k, f1 + 1) ⟨Nat.le_pred_of_lt hkn, Nat.le_trans (Nat.pred_le n1) hn1, mOut_n _ _ _ _, zPl_out hp1 (by omega), e9⟩ (Nat.lt_succ_self k))
                      | (have e9 : zIx m c w k n1 N1 f1 = zIxR M m np n c w := by (rw [← hr1, zIx, if_neg (by first | exact zGo_f1 hq3 (by assumption) | exact zGo_f2 hq1 hq3 ht6 hw4 (by assumption) | exact zGo_f3 (by assumption))])
                         refine j_locs [0, 1, 2, 3, 4] rfl ?_
                         exact ih (k, n1, N1, f1) ⟨Nat.le_of_succ_le hkn, hn1, hk1, hp1, e9⟩ (Nat.lt_succ_self k))
                  · skip
                    refine j_aload_n C dX10_index_124 rfl ?_
                    refine j_iload C dX10_index_125 rfl ?_
                    refine j_cVv C (c_X10_takesOut _ ω γ N1 R g9 hk1 hn1 (show k < n1 by omega)) yc_X10_takesOut mn_X10_53 im_X10_takesOut se_X10_takesOut rfl rfl dX10_index_127 rfl rfl (by assumption) (by decide) (Nat.le_of_ble_eq_true rfl) (by decide) ?_
                    first | refine j_iinc1 C dX10_index_130 rfl (by rw [hxn]; decide) ?_ | refine j_iinc C _ dX10_index_130 rfl rfl (by rw [hxn]; decide) ?_
                    refine j_iinc C _ dX10_index_133 rfl rfl (by rw [hxn]; decide) ?_
                    rw [jPred_i]
                    refine j_goto C 69 dX10_index_136 (by decide) ?_
                    first
                      | exact absurd (by decide) h117
                      | exact absurd h117 (by decide)
                      | (have e9 : zIx m c w k (n1 - 1) (mOut N1 m n1 k) (f1 + 1) = zIxR M m np n c w := by (rw [← hr1, zIx, if_pos (zGo_t hq1 hq3 ht6 (by assumption) (by assumption) (by assumption) (by assumption))])
                         refine j_locs [0, 1, 2, 3, 4] rfl ?_
                         exact ih (k, n1 - 1, mOut N1 m n1 k, f1 + 1) ⟨Nat.le_pred_of_lt hkn, Nat.le_trans (Nat.pred_le n1) hn1, mOut_n _ _ _ _, zPl_out hp1 (by omega), e9⟩ (Nat.lt_succ_self k))
                      | (have e9 : zIx m c w k n1 N1 f1 = zIxR M m np n c w := by (rw [← hr1, zIx, if_neg (by first | exact zGo_f1 hq3 (by assumption) | exact zGo_f2 hq1 hq3 ht6 hw4 (by assumption) | exact zGo_f3 (by assumption))])
                         refine j_locs [0, 1, 2, 3, 4] rfl ?_
                         exact ih (k, n1, N1, f1) ⟨Nat.le_of_succ_le hkn, hn1, hk1, hp1, e9⟩ (Nat.lt_succ_self k))
              · skip
                have hw4 : wy < 4 := hwy.elim (fun q => absurd (by rw [q]) h83) id
                refine j_aload_n C dX10_index_86 rfl ?_
                refine j_aload_n C dX10_index_87 rfl ?_
                refine j_iload C dX10_index_88 rfl ?_
                refine j_iconst C (nI 1) dX10_index_90 (by decide) ?_
                refine j_cVi C (c_X10_ofPlan _ _ _ _ _ (by assumption) (by omega)) yc_X10_ofPlan mn_X10_47 im_X10_ofPlan se_X10_ofPlan rfl rfl dX10_index_91 rfl rfl (by assumption) (by decide) (Nat.le_of_ble_eq_true rfl) (by decide) ?_
                refine j_top (nI t) hq1 ?_
                refine j_aload_n C dX10_index_94 rfl ?_
                refine j_iload C dX10_index_95 rfl ?_
                refine j_iconst C (nI 3) dX10_index_97 (by decide) ?_
                refine j_cVi C (c_X10_ofPlan _ _ _ _ _ (by assumption) (by omega)) yc_X10_ofPlan mn_X10_47 im_X10_ofPlan se_X10_ofPlan rfl rfl dX10_index_98 rfl rfl (by assumption) (by decide) (Nat.le_of_ble_eq_true rfl) (by decide) ?_
                refine j_top (nI wy) hq3 ?_
                refine j_cVi C (c_X10_columnOf _ _ _ _ _ (by assumption) (by omega)) yc_X10_columnOf mn_X10_50 im_X10_columnOf se_X10_columnOf rfl rfl dX10_index_101 rfl rfl (by assumption) (by decide) (Nat.le_of_ble_eq_true rfl) (by decide) ?_
                refine j_iload_n C dX10_index_104 rfl ?_
                refine j_icmp_ne C 112 dX10_index_105 (by decide) (fun h105 => ?_) (fun h105 => ?_)
                · skip
                  refine j_iconst C (nI 0) dX10_index_112 (by decide) ?_
                  refine j_istore C dX10_index_113 (by rw [hxn]; decide) ?_
                  refine j_iload C dX10_index_115 rfl ?_
                  refine j_if_eq C 133 dX10_index_117 (by decide) (fun h117 => ?_) (fun h117 => ?_)
                  · skip
                    refine j_iinc C _ dX10_index_133 rfl rfl (by rw [hxn]; decide) ?_
                    rw [jPred_i]
                    refine j_goto C 69 dX10_index_136 (by decide) ?_
                    first
                      | exact absurd (by decide) h117
                      | exact absurd h117 (by decide)
                      | (have e9 : zIx m c w k (n1 - 1) (mOut N1 m n1 k) (f1 + 1) = zIxR M m np n c w := by (rw [← hr1, zIx, if_pos (zGo_t hq1 hq3 ht6 (by assumption) (by assumption) (by assumption) (by assumption))])
                         refine j_locs [0, 1, 2, 3, 4] rfl ?_
                         exact ih (k, n1 - 1, mOut N1 m n1 k, f1 + 1) ⟨Nat.le_pred_of_lt hkn, Nat.le_trans (Nat.pred_le n1) hn1, mOut_n _ _ _ _, zPl_out hp1 (by omega), e9⟩ (Nat.lt_succ_self k))
                      | (have e9 : zIx m c w k n1 N1 f1 = zIxR M m np n c w := by (rw [← hr1, zIx, if_neg (by first | exact zGo_f1 hq3 (by assumption) | exact zGo_f2 hq1 hq3 ht6 hw4 (by assumption) | exact zGo_f3 (by assumption))])
                         refine j_locs [0, 1, 2, 3, 4] rfl ?_
                         exact ih (k, n1, N1, f1) ⟨Nat.le_of_succ_le hkn, hn1, hk1, hp1, e9⟩ (Nat.lt_succ_self k))
                  · skip
                    refine j_iload_n C dX10_index_120 rfl ?_
                    refine j_if_ne C 133 dX10_index_121 (by decide) (fun h121 => ?_) (fun h121 => ?_)
                    · skip
                      refine j_iinc C _ dX10_index_133 rfl rfl (by rw [hxn]; decide) ?_
                      rw [jPred_i]
                      refine j_goto C 69 dX10_index_136 (by decide) ?_
                      first
                        | exact absurd (by decide) h117
                        | exact absurd h117 (by decide)
                        | (have e9 : zIx m c w k (n1 - 1) (mOut N1 m n1 k) (f1 + 1) = zIxR M m np n c w := by (rw [← hr1, zIx, if_pos (zGo_t hq1 hq3 ht6 (by assumption) (by assumption) (by assumption) (by assumption))])
                           refine j_locs [0, 1, 2, 3, 4] rfl ?_
                           exact ih (k, n1 - 1, mOut N1 m n1 k, f1 + 1) ⟨Nat.le_pred_of_lt hkn, Nat.le_trans (Nat.pred_le n1) hn1, mOut_n _ _ _ _, zPl_out hp1 (by omega), e9⟩ (Nat.lt_succ_self k))
                        | (have e9 : zIx m c w k n1 N1 f1 = zIxR M m np n c w := by (rw [← hr1, zIx, if_neg (by first | exact zGo_f1 hq3 (by assumption) | exact zGo_f2 hq1 hq3 ht6 hw4 (by assumption) | exact zGo_f3 (by assumption))])
                           refine j_locs [0, 1, 2, 3, 4] rfl ?_
                           exact ih (k, n1, N1, f1) ⟨Nat.le_of_succ_le hkn, hn1, hk1, hp1, e9⟩ (Nat.lt_succ_self k))
                    · skip
                      refine j_aload_n C dX10_index_124 rfl ?_
                      refine j_iload C dX10_index_125 rfl ?_
                      refine j_cVv C (c_X10_takesOut _ ω γ N1 R g9 hk1 hn1 (show k < n1 by omega)) yc_X10_takesOut mn_X10_53 im_X10_takesOut se_X10_takesOut rfl rfl dX10_index_127 rfl rfl (by assumption) (by decide) (Nat.le_of_ble_eq_true rfl) (by decide) ?_
                      first | refine j_iinc1 C dX10_index_130 rfl (by rw [hxn]; decide) ?_ | refine j_iinc C _ dX10_index_130 rfl rfl (by rw [hxn]; decide) ?_
                      refine j_iinc C _ dX10_index_133 rfl rfl (by rw [hxn]; decide) ?_
                      rw [jPred_i]
                      refine j_goto C 69 dX10_index_136 (by decide) ?_
                      first
                        | exact absurd (by decide) h117
                        | exact absurd h117 (by decide)
                        | (have e9 : zIx m c w k (n1 - 1) (mOut N1 m n1 k) (f1 + 1) = zIxR M m np n c w := by (rw [← hr1, zIx, if_pos (zGo_t hq1 hq3 ht6 (by assumption) (by assumption) (by assumption) (by assumption))])
                           refine j_locs [0, 1, 2, 3, 4] rfl ?_
                           exact ih (k, n1 - 1, mOut N1 m n1 k, f1 + 1) ⟨Nat.le_pred_of_lt hkn, Nat.le_trans (Nat.pred_le n1) hn1, mOut_n _ _ _ _, zPl_out hp1 (by omega), e9⟩ (Nat.lt_succ_self k))
                        | (have e9 : zIx m c w k n1 N1 f1 = zIxR M m np n c w := by (rw [← hr1, zIx, if_neg (by first | exact zGo_f1 hq3 (by assumption) | exact zGo_f2 hq1 hq3 ht6 hw4 (by assumption) | exact zGo_f3 (by assumption))])
                           refine j_locs [0, 1, 2, 3, 4] rfl ?_
                           exact ih (k, n1, N1, f1) ⟨Nat.le_of_succ_le hkn, hn1, hk1, hp1, e9⟩ (Nat.lt_succ_self k))
                · skip
                  refine j_iconst C (nI 1) dX10_index_108 (by decide) ?_
                  refine j_goto C 113 dX10_index_109 (by decide) ?_
                  refine j_istore C dX10_index_113 (by rw [hxn]; decide) ?_
                  refine j_iload C dX10_index_115 rfl ?_
                  refine j_if_eq C 133 dX10_index_117 (by decide) (fun h117 => ?_) (fun h117 => ?_)
                  · skip
                    refine j_iinc C _ dX10_index_133 rfl rfl (by rw [hxn]; decide) ?_
                    rw [jPred_i]
                    refine j_goto C 69 dX10_index_136 (by decide) ?_
                    first
                      | exact absurd (by decide) h117
                      | exact absurd h117 (by decide)
                      | (have e9 : zIx m c w k (n1 - 1) (mOut N1 m n1 k) (f1 + 1) = zIxR M m np n c w := by (rw [← hr1, zIx, if_pos (zGo_t hq1 hq3 ht6 (by assumption) (by assumption) (by assumption) (by assumption))])
                         refine j_locs [0, 1, 2, 3, 4] rfl ?_
                         exact ih (k, n1 - 1, mOut N1 m n1 k, f1 + 1) ⟨Nat.le_pred_of_lt hkn, Nat.le_trans (Nat.pred_le n1) hn1, mOut_n _ _ _ _, zPl_out hp1 (by omega), e9⟩ (Nat.lt_succ_self k))
                      | (have e9 : zIx m c w k n1 N1 f1 = zIxR M m np n c w := by (rw [← hr1, zIx, if_neg (by first | exact zGo_f1 hq3 (by assumption) | exact zGo_f2 hq1 hq3 ht6 hw4 (by assumption) | exact zGo_f3 (by assumption))])
                         refine j_locs [0, 1, 2, 3, 4] rfl ?_
                         exact ih (k, n1, N1, f1) ⟨Nat.le_of_succ_le hkn, hn1, hk1, hp1, e9⟩ (Nat.lt_succ_self k))
                  · skip
                    refine j_iload_n C dX10_index_120 rfl ?_
                    refine j_if_ne C 133 dX10_index_121 (by decide) (fun h121 => ?_) (fun h121 => ?_)
                    · skip
                      refine j_iinc C _ dX10_index_133 rfl rfl (by rw [hxn]; decide) ?_
                      rw [jPred_i]
                      refine j_goto C 69 dX10_index_136 (by decide) ?_
                      first
                        | exact absurd (by decide) h117
                        | exact absurd h117 (by decide)
                        | (have e9 : zIx m c w k (n1 - 1) (mOut N1 m n1 k) (f1 + 1) = zIxR M m np n c w := by (rw [← hr1, zIx, if_pos (zGo_t hq1 hq3 ht6 (by assumption) (by assumption) (by assumption) (by assumption))])
                           refine j_locs [0, 1, 2, 3, 4] rfl ?_
                           exact ih (k, n1 - 1, mOut N1 m n1 k, f1 + 1) ⟨Nat.le_pred_of_lt hkn, Nat.le_trans (Nat.pred_le n1) hn1, mOut_n _ _ _ _, zPl_out hp1 (by omega), e9⟩ (Nat.lt_succ_self k))
                        | (have e9 : zIx m c w k n1 N1 f1 = zIxR M m np n c w := by (rw [← hr1, zIx, if_neg (by first | exact zGo_f1 hq3 (by assumption) | exact zGo_f2 hq1 hq3 ht6 hw4 (by assumption) | exact zGo_f3 (by assumption))])
                           refine j_locs [0, 1, 2, 3, 4] rfl ?_
                           exact ih (k, n1, N1, f1) ⟨Nat.le_of_succ_le hkn, hn1, hk1, hp1, e9⟩ (Nat.lt_succ_self k))
                    · skip
                      refine j_aload_n C dX10_index_124 rfl ?_
                      refine j_iload C dX10_index_125 rfl ?_
                      refine j_cVv C (c_X10_takesOut _ ω γ N1 R g9 hk1 hn1 (show k < n1 by omega)) yc_X10_takesOut mn_X10_53 im_X10_takesOut se_X10_takesOut rfl rfl dX10_index_127 rfl rfl (by assumption) (by decide) (Nat.le_of_ble_eq_true rfl) (by decide) ?_
                      first | refine j_iinc1 C dX10_index_130 rfl (by rw [hxn]; decide) ?_ | refine j_iinc C _ dX10_index_130 rfl rfl (by rw [hxn]; decide) ?_
                      refine j_iinc C _ dX10_index_133 rfl rfl (by rw [hxn]; decide) ?_
                      rw [jPred_i]
                      refine j_goto C 69 dX10_index_136 (by decide) ?_
                      first
                        | exact absurd (by decide) h117
                        | exact absurd h117 (by decide)
                        | (have e9 : zIx m c w k (n1 - 1) (mOut N1 m n1 k) (f1 + 1) = zIxR M m np n c w := by (rw [← hr1, zIx, if_pos (zGo_t hq1 hq3 ht6 (by assumption) (by assumption) (by assumption) (by assumption))])
                           refine j_locs [0, 1, 2, 3, 4] rfl ?_
                           exact ih (k, n1 - 1, mOut N1 m n1 k, f1 + 1) ⟨Nat.le_pred_of_lt hkn, Nat.le_trans (Nat.pred_le n1) hn1, mOut_n _ _ _ _, zPl_out hp1 (by omega), e9⟩ (Nat.lt_succ_self k))
                        | (have e9 : zIx m c w k n1 N1 f1 = zIxR M m np n c w := by (rw [← hr1, zIx, if_neg (by first | exact zGo_f1 hq3 (by assumption) | exact zGo_f2 hq1 hq3 ht6 hw4 (by assumption) | exact zGo_f3 (by assumption))])
                           refine j_locs [0, 1, 2, 3, 4] rfl ?_
                           exact ih (k, n1, N1, f1) ⟨Nat.le_of_succ_le hkn, hn1, hk1, hp1, e9⟩ (Nat.lt_succ_self k))
          exact ⟨Nat.le_refl n, hn8, e15, e16, rfl⟩
        · skip
          refine j_bipush C (-2) dX10_index_38 (by decide) ?_
          exact j_ireturn C E dX10_index_40 (rfl) (by decide) (by decide) (⟨by rw [zfIndex, if_neg h6, if_neg h15, if_pos h35], rfl, by rw [zmIndex, if_neg h6, if_neg h15, if_pos h35], rfl⟩)
      · skip
        refine j_iconst C (nI 1) dX10_index_30 (by decide) ?_
        refine j_goto C 35 dX10_index_31 (by decide) ?_
        refine j_top (if w = nI 1 then nI 1 else nI 0) (by first | rw [if_pos h27] | rw [if_neg h27]) ?_
        refine j_icmp_ne C 41 dX10_index_35 (by decide) (fun h35 => ?_) (fun h35 => ?_)
        · skip
          refine j_aload_n C dX10_index_41 rfl ?_
          refine j_cVv C (c_X10_changes _ ω γ M R g9 hp hp4) yc_X10_changes mn_X10_34 im_X10_changes se_X10_changes rfl rfl dX10_index_42 rfl rfl (by assumption) (by decide) (Nat.le_of_ble_eq_true rfl) (by decide) ?_
          refine j_aload_n C dX10_index_45 rfl ?_
          refine j_getR C fl_X10_7 (by assumption) dX10_index_46 (by decide) rfl (by assumption) ?_
          refine j_iconst C (nI 1) dX10_index_49 (by decide) ?_
          refine j_dup2 C dX10_index_50 rfl rfl ?_
          refine j_ialdN C (by assumption) dX10_index_51 (by omega) (by decide) ?_
          rw [eS]
          refine j_iconst C (nI 1) dX10_index_52 (by decide) ?_
          refine j_iload_n C dX10_index_53 rfl ?_
          refine j_ishl C dX10_index_54 ?_
          refine j_ixor C dX10_index_55 ?_
          refine j_iastN C (by assumption) dX10_index_56 (by omega) (by decide) ?_
          refine j_mem (zIxM M m np c) rfl ?_
          refine j_iconst C (nI 0) dX10_index_57 (by decide) ?_
          refine j_istore_n C dX10_index_58 (by rw [hxn]; decide) ?_
          refine j_aload_n C dX10_index_59 rfl ?_
          refine j_getR C fl_X10_7 (by assumption) dX10_index_60 (by decide) rfl (by assumption) ?_
          refine j_iconst C (nI 4) dX10_index_63 (by decide) ?_
          refine j_ialdN C (by assumption) dX10_index_64 (by omega) (by decide) ?_
          refine j_top (nI n) e15 ?_
          refine j_iconst C (nI 1) dX10_index_65 (by decide) ?_
          refine j_isub C dX10_index_66 ?_
          refine j_istore C dX10_index_67 (by rw [hxn]; decide) ?_
          rw [show (Value.int (nI n - nI 1)) = Value.int (jPred n) from rfl]
          refine j_while (σ := Nat × Nat × jM × Nat) (fun s => [(0, .ref m), (1, .int c), (2, .int w), (3, .int (nI s.2.2.2)), (4, .int (jPred s.1))]) (fun s => s.2.2.1) (fun _ => R) (fun s => s.1 ≤ s.2.1 ∧ s.2.1 ≤ 8 ∧ s.2.2.1 (m + 1) 4 = nI s.2.1 ∧ zPl s.2.2.1 m s.2.1 ∧ zIx m c w s.1 s.2.1 s.2.2.1 s.2.2.2 = zIxR M m np n c w) (fun s => s.1) (fun s hI ih => ?_) (n, n, zIxM M m np c, 0) ?_
          · skip
            obtain ⟨k1, n1, N1, f1⟩ := s
            obtain ⟨hkn, hn1, hk1, hp1, hr1⟩ := hI
            dsimp only at hkn hn1 hk1 hp1 hr1 ih ⊢
            rcases Nat.eq_zero_or_pos k1 with rfl | hpos
            · skip
              refine j_iload C dX10_index_69 rfl ?_
              refine j_if_lt C 139 dX10_index_71 (by decide) (fun _ => ?_) (fun h => absurd (jPred_neg) h)
              have e9 : zIxR M m np n c w = (N1, n1, f1) := hr1.symm
              refine j_aload_n C dX10_index_139 rfl ?_
              refine j_getR C fl_X10_7 (by assumption) dX10_index_140 (by decide) rfl (by assumption) ?_
              refine j_bipush C (nI 10) dX10_index_143 (by decide) ?_
              refine j_dup2 C dX10_index_145 rfl rfl ?_
              refine j_ialdN C (by assumption) dX10_index_146 (by omega) (by decide) ?_
              refine j_iload_n C dX10_index_147 rfl ?_
              first | with_reducible refine j_iaddN C dX10_index_148 ?_ | refine j_iadd C dX10_index_148 ?_
              refine j_iastN C (by assumption) dX10_index_149 (by omega) (by decide) ?_
              refine j_iload_n C dX10_index_150 rfl ?_
              exact j_ireturn C E dX10_index_151 (rfl) (by decide) (by decide) (⟨by simp only [zfIndex, if_neg h6, if_neg h15, if_neg h35, e9], rfl, by simp only [zmIndex, if_neg h6, if_neg h15, if_neg h35, e9], rfl⟩)
            · skip
              obtain ⟨k, rfl⟩ : ∃ k, k1 = k + 1 := ⟨k1 - 1, by omega⟩
              rw [show jPred (k + 1) = nI k from jPred_s k]
              obtain ⟨t, wy, ht6, hwy, hq1, hq3⟩ := hp1 k (by omega)
              refine j_iload C dX10_index_69 rfl ?_
              refine j_if_lt C 139 dX10_index_71 (by decide) (fun h => absurd h (nI_pos (by omega))) (fun _ => ?_)
              refine j_aload_n C dX10_index_74 rfl ?_
              refine j_iload C dX10_index_75 rfl ?_
              refine j_iconst C (nI 3) dX10_index_77 (by decide) ?_
              refine j_cVi C (c_X10_ofPlan _ _ _ _ _ (by assumption) (by omega)) yc_X10_ofPlan mn_X10_47 im_X10_ofPlan se_X10_ofPlan rfl rfl dX10_index_78 rfl rfl (by assumption) (by decide) (Nat.le_of_ble_eq_true rfl) (by decide) ?_
              refine j_top (nI wy) hq3 ?_
              refine j_bipush C (nI 9) dX10_index_81 (by decide) ?_
              refine j_icmp_eq C 112 dX10_index_83 (by decide) (fun h83 => ?_) (fun h83 => ?_)
              · skip
                refine j_iconst C (nI 0) dX10_index_112 (by decide) ?_
                refine j_istore C dX10_index_113 (by rw [hxn]; decide) ?_
                refine j_iload C dX10_index_115 rfl ?_
                refine j_if_eq C 133 dX10_index_117 (by decide) (fun h117 => ?_) (fun h117 => ?_)
                · skip
                  refine j_iinc C _ dX10_index_133 rfl rfl (by rw [hxn]; decide) ?_
                  rw [jPred_i]
                  refine j_goto C 69 dX10_index_136 (by decide) ?_
                  first
                    | exact absurd (by decide) h117
                    | exact absurd h117 (by decide)
                    | (have e9 : zIx m c w k (n1 - 1) (mOut N1 m n1 k) (f1 + 1) = zIxR M m np n c w := by (rw [← hr1, zIx, if_pos (zGo_t hq1 hq3 ht6 (by assumption) (by assumption) (by assumption) (by assumption))])
                       refine j_locs [0, 1, 2, 3, 4] rfl ?_
                       exact ih (k, n1 - 1, mOut N1 m n1 k, f1 + 1) ⟨Nat.le_pred_of_lt hkn, Nat.le_trans (Nat.pred_le n1) hn1, mOut_n _ _ _ _, zPl_out hp1 (by omega), e9⟩ (Nat.lt_succ_self k))
                    | (have e9 : zIx m c w k n1 N1 f1 = zIxR M m np n c w := by (rw [← hr1, zIx, if_neg (by first | exact zGo_f1 hq3 (by assumption) | exact zGo_f2 hq1 hq3 ht6 hw4 (by assumption) | exact zGo_f3 (by assumption))])
                       refine j_locs [0, 1, 2, 3, 4] rfl ?_
                       exact ih (k, n1, N1, f1) ⟨Nat.le_of_succ_le hkn, hn1, hk1, hp1, e9⟩ (Nat.lt_succ_self k))
                · skip
                  refine j_iload_n C dX10_index_120 rfl ?_
                  refine j_if_ne C 133 dX10_index_121 (by decide) (fun h121 => ?_) (fun h121 => ?_)
                  · skip
                    refine j_iinc C _ dX10_index_133 rfl rfl (by rw [hxn]; decide) ?_
                    rw [jPred_i]
                    refine j_goto C 69 dX10_index_136 (by decide) ?_
                    first
                      | exact absurd (by decide) h117
                      | exact absurd h117 (by decide)
                      | (have e9 : zIx m c w k (n1 - 1) (mOut N1 m n1 k) (f1 + 1) = zIxR M m np n c w := by (rw [← hr1, zIx, if_pos (zGo_t hq1 hq3 ht6 (by assumption) (by assumption) (by assumption) (by assumption))])
                         refine j_locs [0, 1, 2, 3, 4] rfl ?_
                         exact ih (k, n1 - 1, mOut N1 m n1 k, f1 + 1) ⟨Nat.le_pred_of_lt hkn, Nat.le_trans (Nat.pred_le n1) hn1, mOut_n _ _ _ _, zPl_out hp1 (by omega), e9⟩ (Nat.lt_succ_self k))
                      | (have e9 : zIx m c w k n1 N1 f1 = zIxR M m np n c w := by (rw [← hr1, zIx, if_neg (by first | exact zGo_f1 hq3 (by assumption) | exact zGo_f2 hq1 hq3 ht6 hw4 (by assumption) | exact zGo_f3 (by assumption))])
                         refine j_locs [0, 1, 2, 3, 4] rfl ?_
                         exact ih (k, n1, N1, f1) ⟨Nat.le_of_succ_le hkn, hn1, hk1, hp1, e9⟩ (Nat.lt_succ_self k))
                  · skip
                    refine j_aload_n C dX10_index_124 rfl ?_
                    refine j_iload C dX10_index_125 rfl ?_
                    refine j_cVv C (c_X10_takesOut _ ω γ N1 R g9 hk1 hn1 (show k < n1 by omega)) yc_X10_takesOut mn_X10_53 im_X10_takesOut se_X10_takesOut rfl rfl dX10_index_127 rfl rfl (by assumption) (by decide) (Nat.le_of_ble_eq_true rfl) (by decide) ?_
                    first | refine j_iinc1 C dX10_index_130 rfl (by rw [hxn]; decide) ?_ | refine j_iinc C _ dX10_index_130 rfl rfl (by rw [hxn]; decide) ?_
                    refine j_iinc C _ dX10_index_133 rfl rfl (by rw [hxn]; decide) ?_
                    rw [jPred_i]
                    refine j_goto C 69 dX10_index_136 (by decide) ?_
                    first
                      | exact absurd (by decide) h117
                      | exact absurd h117 (by decide)
                      | (have e9 : zIx m c w k (n1 - 1) (mOut N1 m n1 k) (f1 + 1) = zIxR M m np n c w := by (rw [← hr1, zIx, if_pos (zGo_t hq1 hq3 ht6 (by assumption) (by assumption) (by assumption) (by assumption))])
                         refine j_locs [0, 1, 2, 3, 4] rfl ?_
                         exact ih (k, n1 - 1, mOut N1 m n1 k, f1 + 1) ⟨Nat.le_pred_of_lt hkn, Nat.le_trans (Nat.pred_le n1) hn1, mOut_n _ _ _ _, zPl_out hp1 (by omega), e9⟩ (Nat.lt_succ_self k))
                      | (have e9 : zIx m c w k n1 N1 f1 = zIxR M m np n c w := by (rw [← hr1, zIx, if_neg (by first | exact zGo_f1 hq3 (by assumption) | exact zGo_f2 hq1 hq3 ht6 hw4 (by assumption) | exact zGo_f3 (by assumption))])
                         refine j_locs [0, 1, 2, 3, 4] rfl ?_
                         exact ih (k, n1, N1, f1) ⟨Nat.le_of_succ_le hkn, hn1, hk1, hp1, e9⟩ (Nat.lt_succ_self k))
              · skip
                have hw4 : wy < 4 := hwy.elim (fun q => absurd (by rw [q]) h83) id
                refine j_aload_n C dX10_index_86 rfl ?_
                refine j_aload_n C dX10_index_87 rfl ?_
                refine j_iload C dX10_index_88 rfl ?_
                refine j_iconst C (nI 1) dX10_index_90 (by decide) ?_
                refine j_cVi C (c_X10_ofPlan _ _ _ _ _ (by assumption) (by omega)) yc_X10_ofPlan mn_X10_47 im_X10_ofPlan se_X10_ofPlan rfl rfl dX10_index_91 rfl rfl (by assumption) (by decide) (Nat.le_of_ble_eq_true rfl) (by decide) ?_
                refine j_top (nI t) hq1 ?_
                refine j_aload_n C dX10_index_94 rfl ?_
                refine j_iload C dX10_index_95 rfl ?_
                refine j_iconst C (nI 3) dX10_index_97 (by decide) ?_
                refine j_cVi C (c_X10_ofPlan _ _ _ _ _ (by assumption) (by omega)) yc_X10_ofPlan mn_X10_47 im_X10_ofPlan se_X10_ofPlan rfl rfl dX10_index_98 rfl rfl (by assumption) (by decide) (Nat.le_of_ble_eq_true rfl) (by decide) ?_
                refine j_top (nI wy) hq3 ?_
                refine j_cVi C (c_X10_columnOf _ _ _ _ _ (by assumption) (by omega)) yc_X10_columnOf mn_X10_50 im_X10_columnOf se_X10_columnOf rfl rfl dX10_index_101 rfl rfl (by assumption) (by decide) (Nat.le_of_ble_eq_true rfl) (by decide) ?_
                refine j_iload_n C dX10_index_104 rfl ?_
                refine j_icmp_ne C 112 dX10_index_105 (by decide) (fun h105 => ?_) (fun h105 => ?_)
                · skip
                  refine j_iconst C (nI 0) dX10_index_112 (by decide) ?_
                  refine j_istore C dX10_index_113 (by rw [hxn]; decide) ?_
                  refine j_iload C dX10_index_115 rfl ?_
                  refine j_if_eq C 133 dX10_index_117 (by decide) (fun h117 => ?_) (fun h117 => ?_)
                  · skip
                    refine j_iinc C _ dX10_index_133 rfl rfl (by rw [hxn]; decide) ?_
                    rw [jPred_i]
                    refine j_goto C 69 dX10_index_136 (by decide) ?_
                    first
                      | exact absurd (by decide) h117
                      | exact absurd h117 (by decide)
                      | (have e9 : zIx m c w k (n1 - 1) (mOut N1 m n1 k) (f1 + 1) = zIxR M m np n c w := by (rw [← hr1, zIx, if_pos (zGo_t hq1 hq3 ht6 (by assumption) (by assumption) (by assumption) (by assumption))])
                         refine j_locs [0, 1, 2, 3, 4] rfl ?_
                         exact ih (k, n1 - 1, mOut N1 m n1 k, f1 + 1) ⟨Nat.le_pred_of_lt hkn, Nat.le_trans (Nat.pred_le n1) hn1, mOut_n _ _ _ _, zPl_out hp1 (by omega), e9⟩ (Nat.lt_succ_self k))
                      | (have e9 : zIx m c w k n1 N1 f1 = zIxR M m np n c w := by (rw [← hr1, zIx, if_neg (by first | exact zGo_f1 hq3 (by assumption) | exact zGo_f2 hq1 hq3 ht6 hw4 (by assumption) | exact zGo_f3 (by assumption))])
                         refine j_locs [0, 1, 2, 3, 4] rfl ?_
                         exact ih (k, n1, N1, f1) ⟨Nat.le_of_succ_le hkn, hn1, hk1, hp1, e9⟩ (Nat.lt_succ_self k))
                  · skip
                    refine j_iload_n C dX10_index_120 rfl ?_
                    refine j_if_ne C 133 dX10_index_121 (by decide) (fun h121 => ?_) (fun h121 => ?_)
                    · skip
                      refine j_iinc C _ dX10_index_133 rfl rfl (by rw [hxn]; decide) ?_
                      rw [jPred_i]
                      refine j_goto C 69 dX10_index_136 (by decide) ?_
                      first
                        | exact absurd (by decide) h117
                        | exact absurd h117 (by decide)
                        | (have e9 : zIx m c w k (n1 - 1) (mOut N1 m n1 k) (f1 + 1) = zIxR M m np n c w := by (rw [← hr1, zIx, if_pos (zGo_t hq1 hq3 ht6 (by assumption) (by assumption) (by assumption) (by assumption))])
                           refine j_locs [0, 1, 2, 3, 4] rfl ?_
                           exact ih (k, n1 - 1, mOut N1 m n1 k, f1 + 1) ⟨Nat.le_pred_of_lt hkn, Nat.le_trans (Nat.pred_le n1) hn1, mOut_n _ _ _ _, zPl_out hp1 (by omega), e9⟩ (Nat.lt_succ_self k))
                        | (have e9 : zIx m c w k n1 N1 f1 = zIxR M m np n c w := by (rw [← hr1, zIx, if_neg (by first | exact zGo_f1 hq3 (by assumption) | exact zGo_f2 hq1 hq3 ht6 hw4 (by assumption) | exact zGo_f3 (by assumption))])
                           refine j_locs [0, 1, 2, 3, 4] rfl ?_
                           exact ih (k, n1, N1, f1) ⟨Nat.le_of_succ_le hkn, hn1, hk1, hp1, e9⟩ (Nat.lt_succ_self k))
                    · skip
                      refine j_aload_n C dX10_index_124 rfl ?_
                      refine j_iload C dX10_index_125 rfl ?_
                      refine j_cVv C (c_X10_takesOut _ ω γ N1 R g9 hk1 hn1 (show k < n1 by omega)) yc_X10_takesOut mn_X10_53 im_X10_takesOut se_X10_takesOut rfl rfl dX10_index_127 rfl rfl (by assumption) (by decide) (Nat.le_of_ble_eq_true rfl) (by decide) ?_
                      first | refine j_iinc1 C dX10_index_130 rfl (by rw [hxn]; decide) ?_ | refine j_iinc C _ dX10_index_130 rfl rfl (by rw [hxn]; decide) ?_
                      refine j_iinc C _ dX10_index_133 rfl rfl (by rw [hxn]; decide) ?_
                      rw [jPred_i]
                      refine j_goto C 69 dX10_index_136 (by decide) ?_
                      first
                        | exact absurd (by decide) h117
                        | exact absurd h117 (by decide)
                        | (have e9 : zIx m c w k (n1 - 1) (mOut N1 m n1 k) (f1 + 1) = zIxR M m np n c w := by (rw [← hr1, zIx, if_pos (zGo_t hq1 hq3 ht6 (by assumption) (by assumption) (by assumption) (by assumption))])
                           refine j_locs [0, 1, 2, 3, 4] rfl ?_
                           exact ih (k, n1 - 1, mOut N1 m n1 k, f1 + 1) ⟨Nat.le_pred_of_lt hkn, Nat.le_trans (Nat.pred_le n1) hn1, mOut_n _ _ _ _, zPl_out hp1 (by omega), e9⟩ (Nat.lt_succ_self k))
                        | (have e9 : zIx m c w k n1 N1 f1 = zIxR M m np n c w := by (rw [← hr1, zIx, if_neg (by first | exact zGo_f1 hq3 (by assumption) | exact zGo_f2 hq1 hq3 ht6 hw4 (by assumption) | exact zGo_f3 (by assumption))])
                           refine j_locs [0, 1, 2, 3, 4] rfl ?_
                           exact ih (k, n1, N1, f1) ⟨Nat.le_of_succ_le hkn, hn1, hk1, hp1, e9⟩ (Nat.lt_succ_self k))
                · skip
                  refine j_iconst C (nI 1) dX10_index_108 (by decide) ?_
                  refine j_goto C 113 dX10_index_109 (by decide) ?_
                  refine j_istore C dX10_index_113 (by rw [hxn]; decide) ?_
                  refine j_iload C dX10_index_115 rfl ?_
                  refine j_if_eq C 133 dX10_index_117 (by decide) (fun h117 => ?_) (fun h117 => ?_)
                  · skip
                    refine j_iinc C _ dX10_index_133 rfl rfl (by rw [hxn]; decide) ?_
                    rw [jPred_i]
                    refine j_goto C 69 dX10_index_136 (by decide) ?_
                    first
                      | exact absurd (by decide) h117
                      | exact absurd h117 (by decide)
                      | (have e9 : zIx m c w k (n1 - 1) (mOut N1 m n1 k) (f1 + 1) = zIxR M m np n c w := by (rw [← hr1, zIx, if_pos (zGo_t hq1 hq3 ht6 (by assumption) (by assumption) (by assumption) (by assumption))])
                         refine j_locs [0, 1, 2, 3, 4] rfl ?_
                         exact ih (k, n1 - 1, mOut N1 m n1 k, f1 + 1) ⟨Nat.le_pred_of_lt hkn, Nat.le_trans (Nat.pred_le n1) hn1, mOut_n _ _ _ _, zPl_out hp1 (by omega), e9⟩ (Nat.lt_succ_self k))
                      | (have e9 : zIx m c w k n1 N1 f1 = zIxR M m np n c w := by (rw [← hr1, zIx, if_neg (by first | exact zGo_f1 hq3 (by assumption) | exact zGo_f2 hq1 hq3 ht6 hw4 (by assumption) | exact zGo_f3 (by assumption))])
                         refine j_locs [0, 1, 2, 3, 4] rfl ?_
                         exact ih (k, n1, N1, f1) ⟨Nat.le_of_succ_le hkn, hn1, hk1, hp1, e9⟩ (Nat.lt_succ_self k))
                  · skip
                    refine j_iload_n C dX10_index_120 rfl ?_
                    refine j_if_ne C 133 dX10_index_121 (by decide) (fun h121 => ?_) (fun h121 => ?_)
                    · skip
                      refine j_iinc C _ dX10_index_133 rfl rfl (by rw [hxn]; decide) ?_
                      rw [jPred_i]
                      refine j_goto C 69 dX10_index_136 (by decide) ?_
                      first
                        | exact absurd (by decide) h117
                        | exact absurd h117 (by decide)
                        | (have e9 : zIx m c w k (n1 - 1) (mOut N1 m n1 k) (f1 + 1) = zIxR M m np n c w := by (rw [← hr1, zIx, if_pos (zGo_t hq1 hq3 ht6 (by assumption) (by assumption) (by assumption) (by assumption))])
                           refine j_locs [0, 1, 2, 3, 4] rfl ?_
                           exact ih (k, n1 - 1, mOut N1 m n1 k, f1 + 1) ⟨Nat.le_pred_of_lt hkn, Nat.le_trans (Nat.pred_le n1) hn1, mOut_n _ _ _ _, zPl_out hp1 (by omega), e9⟩ (Nat.lt_succ_self k))
                        | (have e9 : zIx m c w k n1 N1 f1 = zIxR M m np n c w := by (rw [← hr1, zIx, if_neg (by first | exact zGo_f1 hq3 (by assumption) | exact zGo_f2 hq1 hq3 ht6 hw4 (by assumption) | exact zGo_f3 (by assumption))])
                           refine j_locs [0, 1, 2, 3, 4] rfl ?_
                           exact ih (k, n1, N1, f1) ⟨Nat.le_of_succ_le hkn, hn1, hk1, hp1, e9⟩ (Nat.lt_succ_self k))
                    · skip
                      refine j_aload_n C dX10_index_124 rfl ?_
                      refine j_iload C dX10_index_125 rfl ?_
                      refine j_cVv C (c_X10_takesOut _ ω γ N1 R g9 hk1 hn1 (show k < n1 by omega)) yc_X10_takesOut mn_X10_53 im_X10_takesOut se_X10_takesOut rfl rfl dX10_index_127 rfl rfl (by assumption) (by decide) (Nat.le_of_ble_eq_true rfl) (by decide) ?_
                      first | refine j_iinc1 C dX10_index_130 rfl (by rw [hxn]; decide) ?_ | refine j_iinc C _ dX10_index_130 rfl rfl (by rw [hxn]; decide) ?_
                      refine j_iinc C _ dX10_index_133 rfl rfl (by rw [hxn]; decide) ?_
                      rw [jPred_i]
                      refine j_goto C 69 dX10_index_136 (by decide) ?_
                      first
                        | exact absurd (by decide) h117
                        | exact absurd h117 (by decide)
                        | (have e9 : zIx m c w k (n1 - 1) (mOut N1 m n1 k) (f1 + 1) = zIxR M m np n c w := by (rw [← hr1, zIx, if_pos (zGo_t hq1 hq3 ht6 (by assumption) (by assumption) (by assumption) (by assumption))])
                           refine j_locs [0, 1, 2, 3, 4] rfl ?_
                           exact ih (k, n1 - 1, mOut N1 m n1 k, f1 + 1) ⟨Nat.le_pred_of_lt hkn, Nat.le_trans (Nat.pred_le n1) hn1, mOut_n _ _ _ _, zPl_out hp1 (by omega), e9⟩ (Nat.lt_succ_self k))
                        | (have e9 : zIx m c w k n1 N1 f1 = zIxR M m np n c w := by (rw [← hr1, zIx, if_neg (by first | exact zGo_f1 hq3 (by assumption) | exact zGo_f2 hq1 hq3 ht6 hw4 (by assumption) | exact zGo_f3 (by assumption))])
                           refine j_locs [0, 1, 2, 3, 4] rfl ?_
                           exact ih (k, n1, N1, f1) ⟨Nat.le_of_succ_le hkn, hn1, hk1, hp1, e9⟩ (Nat.lt_succ_self k))
          exact ⟨Nat.le_refl n, hn8, e15, e16, rfl⟩
        · skip
          refine j_bipush C (-2) dX10_index_38 (by decide) ?_
          exact j_ireturn C E dX10_index_40 (rfl) (by decide) (by decide) (⟨by rw [zfIndex, if_neg h6, if_neg h15, if_pos h35], rfl, by rw [zmIndex, if_neg h6, if_neg h15, if_pos h35], rfl⟩)
    · skip
      refine j_iconst C (-1) dX10_index_18 (by decide) ?_
      exact j_ireturn C E dX10_index_19 (rfl) (by decide) (by decide) (⟨by simp only [zfIndex, if_neg h6, if_pos h15], rfl, by simp only [zmIndex, if_neg h6, if_pos h15], rfl⟩)
