set_option maxHeartbeats 4000000 in
set_option maxRecDepth 100000 in
theorem c_X3_makeRoom (l : Launch) (ω : jW) (γ : jG) (M : jM) (R : jR) {b n : Nat} (g : gShelf ω γ b) (hs : SR R b) (hkp : M b 2 = nI n) (hn : n ≤ 8) (cap : Int32) : Ct l ω yX3_makeRoom cX3_makeRoom 5 (some .int) 5 0 0 [.ref b, .int cap] γ M R (jx γ (some (.int (rMk cap b n M R (-4)).2.2.1)) (rMk cap b n M R (-4)).1 (rMk cap b n M R (-4)).2.1) := by
  refine Ct_of (by decide) (Nat.le_of_ble_eq_true rfl) rfl (jcat_of rfl) ?_
  intro X C E hnm hxl hxn
  subst hxl
  have g0 := g.1
  refine j_bipush C (-4) dX3_makeRoom_0 (by decide) ?_
  refine j_istore_n C dX3_makeRoom_2 (by rw [hxn]; decide) ?_
  refine j_aload_n C dX3_makeRoom_3 rfl ?_
  refine j_iconst C (nI 0) dX3_makeRoom_4 (by decide) ?_
  refine j_cVi C (c_X3_placeToDrop _ ω γ M R g hs hkp hn (nI 0)) yc_X3_placeToDrop mn_X3_51 im_X3_placeToDrop se_X3_placeToDrop rfl rfl dX3_makeRoom_5 rfl rfl (by assumption) (by decide) (Nat.le_of_ble_eq_true rfl) (by decide) ?_
  refine j_istore_n C dX3_makeRoom_8 (by rw [hxn]; decide) ?_
  refine j_aload_n C dX3_makeRoom_9 rfl ?_
  refine j_getI C fl_X3_22 (by assumption) dX3_makeRoom_10 (by decide) rfl ?_
  refine j_top (nI n) (hkp) ?_
  refine j_istore C dX3_makeRoom_13 (by rw [hxn]; decide) ?_
  refine j_while (σ := Nat × jM × jR × Int32) (fun s => [(0, .ref b), (1, .int cap), (2, .int s.2.2.2), (3, .int (rFirst (qDrp s.2.1 s.2.2.1 b s.1 (nI 0)) s.1)), (4, .int (nI s.1))]) (fun s => s.2.1) (fun s => s.2.2.1) (fun s => SR s.2.2.1 b ∧ s.2.1 b 2 = nI s.1 ∧ s.1 ≤ 8 ∧ rMk cap b s.1 s.2.1 s.2.2.1 s.2.2.2 = rMk cap b n M R (-4)) (fun s => s.1) (fun s hI ih => ?_) (n, M, R, -4) ?_
  · skip
    obtain ⟨n1, M1, R1, f1⟩ := s
    obtain ⟨hs1, hk1, hn1, hr1⟩ := hI
    dsimp only at hs1 hk1 hn1 hr1 ih ⊢
    refine j_iload C dX3_makeRoom_15 rfl ?_
    refine j_iload_n C dX3_makeRoom_17 rfl ?_
    refine j_icmp_lt C 65 dX3_makeRoom_18 (by decide) (fun h18 => ?_) (fun h18 => ?_)
    · skip
      have hx := rMk_stop (M := M1) (R := R1) (f := f1) (b := b) (Or.inl h18)
      refine j_iload_n C dX3_makeRoom_65 rfl ?_
      exact j_ireturn C E dX3_makeRoom_66 (rfl) (by decide) (by decide) (⟨by rw [← hr1, hx], rfl, by rw [← hr1, hx], by rw [← hr1, hx]⟩)
    · skip
      rcases rFirst_cases (qDrp M1 R1 b n1 (nI 0)) n1 with ⟨k, hk, hf, hq, -, -⟩ | ⟨hf, hq, -⟩
      · skip
        rw [hq]
        refine j_iload_n C dX3_makeRoom_21 rfl ?_
        refine j_iconst C (-1) dX3_makeRoom_22 (by decide) ?_
        obtain ⟨m, rfl⟩ : ∃ m, n1 = m + 1 := ⟨n1 - 1, by omega⟩
        refine j_icmp_eq C 65 dX3_makeRoom_23 (by decide) (fun h => absurd h (nI_nem1 (by omega))) (fun _ => ?_)
        refine j_iload_n C dX3_makeRoom_26 rfl ?_
        refine j_bipush C (-4) dX3_makeRoom_27 (by decide) ?_
        refine j_icmp_ne C 38 dX3_makeRoom_29 (by decide) (fun h29 => ?_) (fun h29 => ?_)
        · skip
          refine j_aload_n C dX3_makeRoom_38 rfl ?_
          refine j_iload_n C dX3_makeRoom_39 rfl ?_
          refine j_cVv C (c_X3_remove _ ω γ M1 R1 g hs1 hk1 hn1 hk) yc_X3_remove mn_X3_58 im_X3_remove se_X3_remove rfl rfl dX3_makeRoom_40 rfl rfl (by assumption) (by decide) (Nat.le_of_ble_eq_true rfl) (by decide) ?_
          refine j_aload_n C dX3_makeRoom_43 rfl ?_
          refine j_dup C dX3_makeRoom_44 rfl ?_
          refine j_getI C fl_X3_62 (by assumption) dX3_makeRoom_45 (by decide) rfl ?_
          refine j_top (M1 b 4) (by rw [rRem, jup_nk _ _ (by decide)]) ?_
          refine j_iconst C (nI 1) dX3_makeRoom_48 (by decide) ?_
          first | with_reducible refine j_iaddN C dX3_makeRoom_49 ?_ | refine j_iadd C dX3_makeRoom_49 ?_
          refine j_putI C fl_X3_62 (by assumption) dX3_makeRoom_50 (by decide) rfl (rfl) (rfl) ?_
          refine j_aload_n C dX3_makeRoom_53 rfl ?_
          refine j_iconst C (nI 0) dX3_makeRoom_54 (by decide) ?_
          refine j_cVi C (c_X3_placeToDrop _ ω γ _ _ g (SR_swap hs1 (show k < 8 by omega) (show m < 8 by omega)) (rRem_k _ _ _ _) (show m ≤ 8 by omega) (nI 0)) yc_X3_placeToDrop mn_X3_51 im_X3_placeToDrop se_X3_placeToDrop rfl rfl dX3_makeRoom_55 rfl rfl (by assumption) (by decide) (Nat.le_of_ble_eq_true rfl) (by decide) ?_
          refine j_istore_n C dX3_makeRoom_58 (by rw [hxn]; decide) ?_
          first | refine j_iincD C dX3_makeRoom_59 rfl (by rw [hxn]; decide) ?_ | refine j_iinc C _ dX3_makeRoom_59 rfl rfl (by rw [hxn]; decide) ?_
          refine j_goto C 15 dX3_makeRoom_62 (by decide) ?_
          first | exact ih (m, jup (rRem M1 b (m + 1)) b 4 (M1 b 4 + nI 1), jswap R1 b k m, f1) ⟨SR_swap hs1 (by omega) (by omega), rRem_k _ _ _ _, by omega, by rw [← hr1, rMk_go h18 hf, if_neg h29]⟩ (Nat.lt_succ_self m) | exact ih (m, jup (rRem M1 b (m + 1)) b 4 (M1 b 4 + nI 1), jswap R1 b k m, M1 (pa R1 b k) 0) ⟨SR_swap hs1 (by omega) (by omega), rRem_k _ _ _ _, by omega, by rw [← hr1, rMk_go h18 hf, if_pos h29]⟩ (Nat.lt_succ_self m)
        · skip
          refine j_aload_n C dX3_makeRoom_32 rfl ?_
          refine j_iload_n C dX3_makeRoom_33 rfl ?_
          refine j_cVi C (c_X3_numberAt _ ω γ M1 R1 g hs1 (nI k)) yc_X3_numberAt mn_X3_55 im_X3_numberAt se_X3_numberAt rfl rfl dX3_makeRoom_34 rfl rfl (by assumption) (by decide) (Nat.le_of_ble_eq_true rfl) (by decide) ?_
          refine j_top (M1 (pa R1 b k) 0) (rNum_N hk hn1 hk1) ?_
          refine j_istore_n C dX3_makeRoom_37 (by rw [hxn]; decide) ?_
          refine j_aload_n C dX3_makeRoom_38 rfl ?_
          refine j_iload_n C dX3_makeRoom_39 rfl ?_
          refine j_cVv C (c_X3_remove _ ω γ M1 R1 g hs1 hk1 hn1 hk) yc_X3_remove mn_X3_58 im_X3_remove se_X3_remove rfl rfl dX3_makeRoom_40 rfl rfl (by assumption) (by decide) (Nat.le_of_ble_eq_true rfl) (by decide) ?_
          refine j_aload_n C dX3_makeRoom_43 rfl ?_
          refine j_dup C dX3_makeRoom_44 rfl ?_
          refine j_getI C fl_X3_62 (by assumption) dX3_makeRoom_45 (by decide) rfl ?_
          refine j_top (M1 b 4) (by rw [rRem, jup_nk _ _ (by decide)]) ?_
          refine j_iconst C (nI 1) dX3_makeRoom_48 (by decide) ?_
          first | with_reducible refine j_iaddN C dX3_makeRoom_49 ?_ | refine j_iadd C dX3_makeRoom_49 ?_
          refine j_putI C fl_X3_62 (by assumption) dX3_makeRoom_50 (by decide) rfl (rfl) (rfl) ?_
          refine j_aload_n C dX3_makeRoom_53 rfl ?_
          refine j_iconst C (nI 0) dX3_makeRoom_54 (by decide) ?_
          refine j_cVi C (c_X3_placeToDrop _ ω γ _ _ g (SR_swap hs1 (show k < 8 by omega) (show m < 8 by omega)) (rRem_k _ _ _ _) (show m ≤ 8 by omega) (nI 0)) yc_X3_placeToDrop mn_X3_51 im_X3_placeToDrop se_X3_placeToDrop rfl rfl dX3_makeRoom_55 rfl rfl (by assumption) (by decide) (Nat.le_of_ble_eq_true rfl) (by decide) ?_
          refine j_istore_n C dX3_makeRoom_58 (by rw [hxn]; decide) ?_
          first | refine j_iincD C dX3_makeRoom_59 rfl (by rw [hxn]; decide) ?_ | refine j_iinc C _ dX3_makeRoom_59 rfl rfl (by rw [hxn]; decide) ?_
          refine j_goto C 15 dX3_makeRoom_62 (by decide) ?_
          first | exact ih (m, jup (rRem M1 b (m + 1)) b 4 (M1 b 4 + nI 1), jswap R1 b k m, f1) ⟨SR_swap hs1 (by omega) (by omega), rRem_k _ _ _ _, by omega, by rw [← hr1, rMk_go h18 hf, if_neg h29]⟩ (Nat.lt_succ_self m) | exact ih (m, jup (rRem M1 b (m + 1)) b 4 (M1 b 4 + nI 1), jswap R1 b k m, M1 (pa R1 b k) 0) ⟨SR_swap hs1 (by omega) (by omega), rRem_k _ _ _ _, by omega, by rw [← hr1, rMk_go h18 hf, if_pos h29]⟩ (Nat.lt_succ_self m)
      · skip
        rw [hq]
        have hx := rMk_stop (M := M1) (R := R1) (f := f1) (b := b) (cap := cap) (Or.inr hf)
        refine j_iload_n C dX3_makeRoom_21 rfl ?_
        refine j_iconst C (-1) dX3_makeRoom_22 (by decide) ?_
        refine j_icmp_eq C 65 dX3_makeRoom_23 (by decide) (fun _ => ?_) (fun h => absurd (rfl) h)
        refine j_iload_n C dX3_makeRoom_65 rfl ?_
        exact j_ireturn C E dX3_makeRoom_66 (rfl) (by decide) (by decide) (⟨by rw [← hr1, hx], rfl, by rw [← hr1, hx], by rw [← hr1, hx]⟩)
  exact ⟨hs, hkp, hn, rfl⟩

set_option maxHeartbeats 4000000 in
set_option maxRecDepth 100000 in
theorem c_X4_surprise (l : Launch) (ω : jW) (γ : jG) (M : jM) (R : jR) {a p n : Nat} (g : gState ω γ a) (hs : SR R (a + 11)) (hkp : M (a + 11) 2 = nI n) (hn : n ≤ 8) (hp : jAt ω γ p 2) (hpr : p ≠ a + 11) : Ct l ω yX4_surprise cX4_surprise 2 none 3 0 0 [.ref a, .ref p] γ M R (jx γ none (rSurM M R a p n) (rSurR M R a p n)) := by
  refine Ct_of (by decide) (Nat.le_of_ble_eq_true rfl) rfl (jcat_of rfl) ?_
  intro X C E hnm hxl hxn
  subst hxl
  have s0 : jAt ω γ a 4 := g.1
  have p0 : jP γ a 0 = some (a + 1) := g.2.1
  have gt : gTable ω γ (a + 1) := g.2.2.1
  have p1 : jP γ a 1 = some (a + 5) := g.2.2.2.1
  have gs : gSums ω γ (a + 5) := g.2.2.2.2.1
  have p2 : jP γ a 2 = some (a + 7) := g.2.2.2.2.2.1
  have ga : jArr ω γ (a + 7) 15 6 := g.2.2.2.2.2.2.1
  have p4 : jP γ a 4 = some (a + 11) := g.2.2.2.2.2.2.2.2.2.1
  have gh : gShelf ω γ (a + 11) := g.2.2.2.2.2.2.2.2.2.2.1
  have p5 : jP γ a 5 = some (a + 22) := g.2.2.2.2.2.2.2.2.2.2.2.1
  have gl : gLast ω γ (a + 22) := g.2.2.2.2.2.2.2.2.2.2.2.2.1
  have p6 : jP γ a 6 = some (a + 24) := g.2.2.2.2.2.2.2.2.2.2.2.2.2.1
  have gc : jArr ω γ (a + 24) 12 5 := g.2.2.2.2.2.2.2.2.2.2.2.2.2.2.1
  have gm : ∀ t, t < 6 → gStm ω γ (a + 25 + 3 * t) := g.2.2.2.2.2.2.2.2.2.2.2.2.2.2.2
  have gh0 : jAt ω γ (a + 11) 3 := gh.1
  have gl0 : jAt ω γ (a + 22) 1 := gl.1
  have gt0 : jAt ω γ (a + 1) 7 := gt.1
  have gs0 : jAt ω γ (a + 5) 6 := gs.1
  have gtp : jP γ (a + 1) 1 = some (a + 3) := gt.2.2.2.1
  have gu : gSums ω γ (a + 3) := gt.2.2.2.2
  have gu0 : jAt ω γ (a + 3) 6 := gu.1
  refine j_aload_n C dX4_surprise_0 rfl ?_
  refine j_dup C dX4_surprise_1 rfl ?_
  refine j_getI C fl_X4_207 (by assumption) dX4_surprise_2 (by decide) rfl ?_
  refine j_iconst C (nI 1) dX4_surprise_5 (by decide) ?_
  first | with_reducible refine j_iaddN C dX4_surprise_6 ?_ | refine j_iadd C dX4_surprise_6 ?_
  refine j_putI C fl_X4_207 (by assumption) dX4_surprise_7 (by decide) rfl (rfl) (rfl) ?_
  refine j_aload_n C dX4_surprise_10 rfl ?_
  refine j_dup C dX4_surprise_11 rfl ?_
  refine j_getI C fl_X4_210 (by assumption) dX4_surprise_12 (by decide) rfl ?_
  refine j_iconst C (nI 1) dX4_surprise_15 (by decide) ?_
  first | with_reducible refine j_iaddN C dX4_surprise_16 ?_ | refine j_iadd C dX4_surprise_16 ?_
  refine j_putI C fl_X4_210 (by assumption) dX4_surprise_17 (by decide) rfl (rfl) (rfl) ?_
  refine j_mem (rSur2 M a p) rfl ?_
  refine j_aload_n C dX4_surprise_20 rfl ?_
  refine j_getI C fl_X4_210 (by assumption) dX4_surprise_21 (by decide) rfl ?_
  refine j_aload_n C dX4_surprise_24 rfl ?_
  refine j_getR C fl_X4_50 (by assumption) dX4_surprise_25 (by decide) rfl (by assumption) ?_
  refine j_iconst C (nI 3) dX4_surprise_28 (by decide) ?_
  refine j_cSi C (c_X9_at _ _ _ _ _ (by assumption) (by decide) _) yc_X9_at mn_X4_85 st_X9_at dX4_surprise_29 rfl rfl (Nat.le_of_ble_eq_true rfl) (by decide) ?_
  refine j_top (rSur2 M a p (a + 24) 3) (rAt_N _ (by decide) (by decide)) ?_
  refine j_icmp_lt C 53 dX4_surprise_32 (by decide) (fun h32 => ?_) (fun h32 => ?_)
  · skip
    exact j_return C E dX4_surprise_53 (by decide) (by decide) (⟨rfl, rfl, by simp only [rSurM, if_pos h32], by simp only [rSurR, if_pos h32]⟩)
  · skip
    refine j_aload_n C dX4_surprise_35 rfl ?_
    refine j_getR C fl_X4_39 (by assumption) dX4_surprise_36 (by decide) rfl (by assumption) ?_
    refine j_aload_n C dX4_surprise_39 rfl ?_
    refine j_getR C fl_X4_39 (by assumption) dX4_surprise_40 (by decide) rfl (by assumption) ?_
    refine j_aload_n C dX4_surprise_43 rfl ?_
    refine j_getI C fl_X4_181 (by assumption) dX4_surprise_44 (by decide) rfl ?_
    refine j_cVi C (c_X3_placeOf _ ω γ _ R gh hs (show rSur2 M a p (a + 11) 2 = nI n by simp only [rSur2]; rw [jup_row _ _ hpr.symm, jup_row _ _ (by omega)]; exact hkp) hn _) yc_X3_placeOf mn_X4_211 im_X3_placeOf se_X3_placeOf rfl rfl dX4_surprise_47 rfl rfl (by assumption) (by decide) (Nat.le_of_ble_eq_true rfl) (by decide) ?_
    refine j_cVv C (c_X3_throwAway _ ω γ _ R gh hs (show rSur2 M a p (a + 11) 2 = nI n by simp only [rSur2]; rw [jup_row _ _ hpr.symm, jup_row _ _ (by omega)]; exact hkp) hn _) yc_X3_throwAway mn_X4_81 im_X3_throwAway se_X3_throwAway rfl rfl dX4_surprise_50 rfl rfl (by assumption) (by decide) (Nat.le_of_ble_eq_true rfl) (by decide) ?_
    exact j_return C E dX4_surprise_53 (by decide) (by decide) (⟨rfl, rfl, by simp only [rSurM, if_neg h32], by simp only [rSurR, if_neg h32]⟩)

set_option maxHeartbeats 4000000 in
set_option maxRecDepth 100000 in
theorem c_X4_use (l : Launch) (ω : jW) (γ : jG) (M : jM) (R : jR) {a p t v n : Nat} (g : gState ω γ a) (hs : SR R (a + 11)) (hkp : M (a + 11) 2 = nI n) (hn : n ≤ 8) (hp : jAt ω γ p 2) (hpr : p ≠ a + 11) (ht : gStm ω γ t) (hv : jArr ω γ v 12 4) : Ct l ω yX4_use cX4_use 4 none 4 0 0 [.ref a, .ref p, .ref t, .ref v] γ M R (jx γ none (rUseM M R a p t v n) (rUseR M R a p t v n)) := by
  refine Ct_of (by decide) (Nat.le_of_ble_eq_true rfl) rfl (jcat_of rfl) ?_
  intro X C E hnm hxl hxn
  subst hxl
  have s0 : jAt ω γ a 4 := g.1
  have p0 : jP γ a 0 = some (a + 1) := g.2.1
  have gt : gTable ω γ (a + 1) := g.2.2.1
  have p1 : jP γ a 1 = some (a + 5) := g.2.2.2.1
  have gs : gSums ω γ (a + 5) := g.2.2.2.2.1
  have p2 : jP γ a 2 = some (a + 7) := g.2.2.2.2.2.1
  have ga : jArr ω γ (a + 7) 15 6 := g.2.2.2.2.2.2.1
  have p4 : jP γ a 4 = some (a + 11) := g.2.2.2.2.2.2.2.2.2.1
  have gh : gShelf ω γ (a + 11) := g.2.2.2.2.2.2.2.2.2.2.1
  have p5 : jP γ a 5 = some (a + 22) := g.2.2.2.2.2.2.2.2.2.2.2.1
  have gl : gLast ω γ (a + 22) := g.2.2.2.2.2.2.2.2.2.2.2.2.1
  have p6 : jP γ a 6 = some (a + 24) := g.2.2.2.2.2.2.2.2.2.2.2.2.2.1
  have gc : jArr ω γ (a + 24) 12 5 := g.2.2.2.2.2.2.2.2.2.2.2.2.2.2.1
  have gm : ∀ t, t < 6 → gStm ω γ (a + 25 + 3 * t) := g.2.2.2.2.2.2.2.2.2.2.2.2.2.2.2
  have gh0 : jAt ω γ (a + 11) 3 := gh.1
  have gl0 : jAt ω γ (a + 22) 1 := gl.1
  have gt0 : jAt ω γ (a + 1) 7 := gt.1
  have gs0 : jAt ω γ (a + 5) 6 := gs.1
  have gtp : jP γ (a + 1) 1 = some (a + 3) := gt.2.2.2.1
  have gu : gSums ω γ (a + 3) := gt.2.2.2.2
  have gu0 : jAt ω γ (a + 3) 6 := gu.1
  refine j_aload_n C dX4_use_0 rfl ?_
  refine j_dup C dX4_use_1 rfl ?_
  refine j_getI C fl_X4_184 (by assumption) dX4_use_2 (by decide) rfl ?_
  refine j_iconst C (nI 1) dX4_use_5 (by decide) ?_
  first | with_reducible refine j_iaddN C dX4_use_6 ?_ | refine j_iadd C dX4_use_6 ?_
  refine j_putI C fl_X4_184 (by assumption) dX4_use_7 (by decide) rfl (rfl) (rfl) ?_
  refine j_aload_n C dX4_use_10 rfl ?_
  refine j_aload_n C dX4_use_11 rfl ?_
  refine j_getI C fl_X4_128 (by assumption) dX4_use_12 (by decide) rfl ?_
  refine j_putI C fl_X4_187 (by assumption) dX4_use_15 (by decide) rfl (rfl) (rfl) ?_
  refine j_aload_n C dX4_use_18 rfl ?_
  refine j_getR C fl_X4_46 (by assumption) dX4_use_19 (by decide) rfl (by assumption) ?_
  refine j_aload_n C dX4_use_22 rfl ?_
  refine j_getI C fl_X4_181 (by assumption) dX4_use_23 (by decide) rfl ?_
  refine j_putI C fl_X4_190 (by assumption) dX4_use_26 (by decide) rfl (rfl) (rfl) ?_
  refine j_aload_n C dX4_use_29 rfl ?_
  refine j_getR C fl_X4_46 (by assumption) dX4_use_30 (by decide) rfl (by assumption) ?_
  refine j_aload_n C dX4_use_33 rfl ?_
  refine j_getI C fl_X4_65 (by assumption) dX4_use_34 (by decide) rfl ?_
  refine j_putI C fl_X4_193 (by assumption) dX4_use_37 (by decide) rfl (rfl) (rfl) ?_
  refine j_aload_n C dX4_use_40 rfl ?_
  refine j_getR C fl_X4_46 (by assumption) dX4_use_41 (by decide) rfl (by assumption) ?_
  refine j_aload_n C dX4_use_44 rfl ?_
  refine j_getI C fl_X4_178 (by assumption) dX4_use_45 (by decide) rfl ?_
  refine j_putI C fl_X4_194 (by assumption) dX4_use_48 (by decide) rfl (rfl) (rfl) ?_
  refine j_aload_n C dX4_use_51 rfl ?_
  refine j_getR C fl_X4_46 (by assumption) dX4_use_52 (by decide) rfl (by assumption) ?_
  refine j_aload_n C dX4_use_55 rfl ?_
  refine j_getR C fl_X4_12 (by assumption) dX4_use_56 (by decide) rfl (by assumption) ?_
  refine j_getR C fl_X4_195 (by assumption) dX4_use_59 (by decide) rfl (by assumption) ?_
  refine j_aload_n C dX4_use_62 rfl ?_
  refine j_aload_n C dX4_use_63 rfl ?_
  refine j_aload_n C dX4_use_64 rfl ?_
  refine j_getI C fl_X4_65 (by assumption) dX4_use_65 (by decide) rfl ?_
  refine j_cSi C (c_X9_cost _ ω γ _ R gu ht hv _) yc_X9_cost mn_X4_124 st_X9_cost dX4_use_68 rfl rfl (Nat.le_of_ble_eq_true rfl) (by decide) ?_
  refine j_putI C fl_X4_198 (by assumption) dX4_use_71 (by decide) rfl (rfl) (rfl) ?_
  refine j_aload_n C dX4_use_74 rfl ?_
  refine j_getR C fl_X4_46 (by assumption) dX4_use_75 (by decide) rfl (by assumption) ?_
  refine j_aload_n C dX4_use_78 rfl ?_
  refine j_getR C fl_X4_46 (by assumption) dX4_use_79 (by decide) rfl (by assumption) ?_
  refine j_getI C fl_X4_198 (by assumption) dX4_use_82 (by decide) rfl ?_
  refine j_aload_n C dX4_use_85 rfl ?_
  refine j_getR C fl_X4_50 (by assumption) dX4_use_86 (by decide) rfl (by assumption) ?_
  refine j_iconst C (nI 2) dX4_use_89 (by decide) ?_
  refine j_cSi C (c_X9_at _ _ _ _ _ (by assumption) (by decide) _) yc_X9_at mn_X4_85 st_X9_at dX4_use_90 rfl rfl (Nat.le_of_ble_eq_true rfl) (by decide) ?_
  refine j_top (_) (rAt_N _ (by decide) (by decide)) ?_
  refine j_aload_n C dX4_use_93 rfl ?_
  refine j_getI C fl_X4_178 (by assumption) dX4_use_94 (by decide) rfl ?_
  first | with_reducible refine j_imulN C dX4_use_97 ?_ | refine j_imul C dX4_use_97 ?_
  refine j_icmp_le C 105 dX4_use_98 (by decide) (fun h98 => ?_) (fun h98 => ?_)
  · skip
    have h98b := h98
    refine j_iconst C (nI 0) dX4_use_105 (by decide) ?_
    refine j_putI C fl_X4_200 (by assumption) dX4_use_106 (by decide) rfl (by first | exact nb0 | exact nb1) (rfl) ?_
    refine j_mem (rUse7 M a p t v) (by simp only [rUse7]; first | rw [if_pos h98] | rw [if_neg h98]) ?_
    refine j_aload_n C dX4_use_109 rfl ?_
    refine j_getR C fl_X4_46 (by assumption) dX4_use_110 (by decide) rfl (by assumption) ?_
    refine j_getI C fl_X4_200 (by assumption) dX4_use_113 (by decide) rfl ?_
    refine j_if_eq C 124 dX4_use_116 (by decide) (fun h116 => ?_) (fun h116 => ?_)
    · skip
      exact j_return C E dX4_use_124 (by decide) (by decide) (⟨rfl, rfl, by simp only [rUseM]; first | rw [if_pos h116] | rw [if_neg h116], by simp only [rUseR]; first | rw [if_pos h116] | rw [if_neg h116]⟩)
    · skip
      refine j_aload_n C dX4_use_119 rfl ?_
      refine j_aload_n C dX4_use_120 rfl ?_
      refine j_cVv C (c_X4_surprise _ ω γ _ R g hs (by rw [rUse7_o M (by omega) (by omega)]; exact hkp) hn hp hpr) yc_X4_surprise mn_X4_204 im_X4_surprise se_X4_surprise rfl rfl dX4_use_121 rfl rfl (by assumption) (by decide) (Nat.le_of_ble_eq_true rfl) (by decide) ?_
      exact j_return C E dX4_use_124 (by decide) (by decide) (⟨rfl, rfl, by simp only [rUseM]; first | rw [if_pos h116] | rw [if_neg h116], by simp only [rUseR]; first | rw [if_pos h116] | rw [if_neg h116]⟩)
  · skip
    have h98b := h98
    refine j_iconst C (nI 1) dX4_use_101 (by decide) ?_
    refine j_goto C 106 dX4_use_102 (by decide) ?_
    refine j_putI C fl_X4_200 (by assumption) dX4_use_106 (by decide) rfl (by first | exact nb0 | exact nb1) (rfl) ?_
    refine j_mem (rUse7 M a p t v) (by simp only [rUse7]; first | rw [if_pos h98] | rw [if_neg h98]) ?_
    refine j_aload_n C dX4_use_109 rfl ?_
    refine j_getR C fl_X4_46 (by assumption) dX4_use_110 (by decide) rfl (by assumption) ?_
    refine j_getI C fl_X4_200 (by assumption) dX4_use_113 (by decide) rfl ?_
    refine j_if_eq C 124 dX4_use_116 (by decide) (fun h116 => ?_) (fun h116 => ?_)
    · skip
      exact j_return C E dX4_use_124 (by decide) (by decide) (⟨rfl, rfl, by simp only [rUseM]; first | rw [if_pos h116] | rw [if_neg h116], by simp only [rUseR]; first | rw [if_pos h116] | rw [if_neg h116]⟩)
    · skip
      refine j_aload_n C dX4_use_119 rfl ?_
      refine j_aload_n C dX4_use_120 rfl ?_
      refine j_cVv C (c_X4_surprise _ ω γ _ R g hs (by rw [rUse7_o M (by omega) (by omega)]; exact hkp) hn hp hpr) yc_X4_surprise mn_X4_204 im_X4_surprise se_X4_surprise rfl rfl dX4_use_121 rfl rfl (by assumption) (by decide) (Nat.le_of_ble_eq_true rfl) (by decide) ?_
      exact j_return C E dX4_use_124 (by decide) (by decide) (⟨rfl, rfl, by simp only [rUseM]; first | rw [if_pos h116] | rw [if_neg h116], by simp only [rUseR]; first | rw [if_pos h116] | rw [if_neg h116]⟩)

set_option maxHeartbeats 4000000 in
set_option maxRecDepth 100000 in
theorem c_X4_planForLastRun (l : Launch) (ω : jW) (γ : jG) (M : jM) (R : jR) {a t v n nc : Nat} (g : gState ω γ a) (hs : SR R (a + 11)) (hkp : M (a + 11) 2 = nI n) (hn : n ≤ 8) (ht : gStm ω γ t) (htr : t < a ∨ a + 25 ≤ t) (hv : jArr ω γ v 12 4) (hc : M t 2 = nI nc) (hnc : nc ≤ 4) : Ct l ω yX4_planForLastRun cX4_planForLastRun 6 (some (.object "PlanShelves$Plan")) 6 0 0 [.ref a, .ref t, .ref v] γ M R (jx γ (some (.ref (rPFP M R a n))) (rPFM M R a t v n nc) (rPFR M R a n)) := by
  refine Ct_of (by decide) (Nat.le_of_ble_eq_true rfl) rfl (jcat_of rfl) ?_
  intro X C E hnm hxl hxn
  subst hxl
  have s0 : jAt ω γ a 4 := g.1
  have p0 : jP γ a 0 = some (a + 1) := g.2.1
  have gt : gTable ω γ (a + 1) := g.2.2.1
  have p1 : jP γ a 1 = some (a + 5) := g.2.2.2.1
  have gs : gSums ω γ (a + 5) := g.2.2.2.2.1
  have p2 : jP γ a 2 = some (a + 7) := g.2.2.2.2.2.1
  have ga : jArr ω γ (a + 7) 15 6 := g.2.2.2.2.2.2.1
  have p4 : jP γ a 4 = some (a + 11) := g.2.2.2.2.2.2.2.2.2.1
  have gh : gShelf ω γ (a + 11) := g.2.2.2.2.2.2.2.2.2.2.1
  have p5 : jP γ a 5 = some (a + 22) := g.2.2.2.2.2.2.2.2.2.2.2.1
  have gl : gLast ω γ (a + 22) := g.2.2.2.2.2.2.2.2.2.2.2.2.1
  have p6 : jP γ a 6 = some (a + 24) := g.2.2.2.2.2.2.2.2.2.2.2.2.2.1
  have gc : jArr ω γ (a + 24) 12 5 := g.2.2.2.2.2.2.2.2.2.2.2.2.2.2.1
  have gm : ∀ t, t < 6 → gStm ω γ (a + 25 + 3 * t) := g.2.2.2.2.2.2.2.2.2.2.2.2.2.2.2
  have gh0 : jAt ω γ (a + 11) 3 := gh.1
  have gl0 : jAt ω γ (a + 22) 1 := gl.1
  have gt0 : jAt ω γ (a + 1) 7 := gt.1
  have gs0 : jAt ω γ (a + 5) 6 := gs.1
  have gtp : jP γ (a + 1) 1 = some (a + 3) := gt.2.2.2.1
  have gu : gSums ω γ (a + 3) := gt.2.2.2.2
  have gu0 : jAt ω γ (a + 3) 6 := gu.1
  obtain ⟨m1, m2, m3, m4, -, m6⟩ : SR (rMisK M R a n).2.1 (a + 11) ∧ (rMisK M R a n).2.2.2 ≤ n ∧ (rMisK M R a n).1 (a + 11) 2 = nI (rMisK M R a n).2.2.2 ∧ (∀ x, x ≠ a + 11 → (rMisK M R a n).1 x = M x) ∧ ((rMisK M R a n).1 (a + 11) 3 = M (a + 11) 3 ∧ (rMisK M R a n).1 (a + 11) 5 = M (a + 11) 5) ∧ ∀ x, x ≠ a + 11 + 1 → (rMisK M R a n).2.1 x = R x := rMk_inv (M (a + 24) 4) (a + 11) n M R (-4) hn hs hkp
  have ne : ∀ x, x ≠ a + 22 → rMis2 M R a n x = (rMisK M R a n).1 x := fun x hx => jup_row _ _ hx
  have m3b : rMis2 M R a n (a + 11) 2 = nI (rMisK M R a n).2.2.2 := by rw [ne _ (by omega)]; exact m3
  have m2b : (rMisK M R a n).2.2.2 ≤ 8 := Nat.le_trans m2 hn
  refine j_aload_n C dX4_planForLastRun_0 rfl ?_
  refine j_getR C fl_X4_39 (by assumption) dX4_planForLastRun_1 (by decide) rfl (by assumption) ?_
  refine j_aload_n C dX4_planForLastRun_4 rfl ?_
  refine j_getR C fl_X4_46 (by assumption) dX4_planForLastRun_5 (by decide) rfl (by assumption) ?_
  refine j_getI C fl_X4_150 (by assumption) dX4_planForLastRun_8 (by decide) rfl ?_
  refine j_aload_n C dX4_planForLastRun_11 rfl ?_
  refine j_getR C fl_X4_46 (by assumption) dX4_planForLastRun_12 (by decide) rfl (by assumption) ?_
  refine j_getI C fl_X4_151 (by assumption) dX4_planForLastRun_15 (by decide) rfl ?_
  refine j_cVi C (c_X3_placeFor _ ω γ M R gh hs hkp hn _ _) yc_X3_placeFor mn_X4_154 im_X3_placeFor se_X3_placeFor rfl rfl dX4_planForLastRun_18 rfl rfl (by assumption) (by decide) (Nat.le_of_ble_eq_true rfl) (by decide) ?_
  refine j_istore_n C dX4_planForLastRun_21 (by rw [hxn]; decide) ?_
  refine j_iload_n C dX4_planForLastRun_22 rfl ?_
  refine j_iconst C (-1) dX4_planForLastRun_23 (by decide) ?_
  refine j_icmp_eq C 54 dX4_planForLastRun_24 (by decide) (fun h24 => ?_) (fun h24 => ?_)
  · skip
    have h24b : rPlc M R a n = -1 := h24
    refine j_aload_n C dX4_planForLastRun_54 rfl ?_
    refine j_getR C fl_X4_50 (by assumption) dX4_planForLastRun_55 (by decide) rfl (by assumption) ?_
    refine j_iconst C (nI 4) dX4_planForLastRun_58 (by decide) ?_
    refine j_cSi C (c_X9_at _ _ _ _ _ (by assumption) (by decide) _) yc_X9_at mn_X4_85 st_X9_at dX4_planForLastRun_59 rfl rfl (Nat.le_of_ble_eq_true rfl) (by decide) ?_
    refine j_top (M (a + 24) 4) (rAt_N _ (by decide) (by decide)) ?_
    refine j_istore C dX4_planForLastRun_62 (by rw [hxn]; decide) ?_
    refine j_aload_n C dX4_planForLastRun_64 rfl ?_
    refine j_getR C fl_X4_46 (by assumption) dX4_planForLastRun_65 (by decide) rfl (by assumption) ?_
    refine j_aload_n C dX4_planForLastRun_68 rfl ?_
    refine j_getR C fl_X4_39 (by assumption) dX4_planForLastRun_69 (by decide) rfl (by assumption) ?_
    refine j_iload C dX4_planForLastRun_72 rfl ?_
    refine j_cVi C (c_X3_makeRoom _ ω γ M R gh hs hkp hn _) yc_X3_makeRoom mn_X4_164 im_X3_makeRoom se_X3_makeRoom rfl rfl dX4_planForLastRun_74 rfl rfl (by assumption) (by decide) (Nat.le_of_ble_eq_true rfl) (by decide) ?_
    change J _ ω γ (rMisK M R a n).1 (rMisK M R a n).2.1 _ _ _ _ _
    refine j_putI C fl_X4_167 (by assumption) dX4_planForLastRun_77 (by decide) rfl (rfl) (rfl) ?_
    refine j_mem (rMis2 M R a n) rfl ?_
    refine j_aload_n C dX4_planForLastRun_80 rfl ?_
    refine j_getR C fl_X4_39 (by assumption) dX4_planForLastRun_81 (by decide) rfl (by assumption) ?_
    refine j_aload_n C dX4_planForLastRun_84 rfl ?_
    refine j_getR C fl_X4_46 (by assumption) dX4_planForLastRun_85 (by decide) rfl (by assumption) ?_
    refine j_getI C fl_X4_150 (by assumption) dX4_planForLastRun_88 (by decide) rfl ?_
    refine j_aload_n C dX4_planForLastRun_91 rfl ?_
    refine j_getR C fl_X4_46 (by assumption) dX4_planForLastRun_92 (by decide) rfl (by assumption) ?_
    refine j_getI C fl_X4_151 (by assumption) dX4_planForLastRun_95 (by decide) rfl ?_
    refine j_iload C dX4_planForLastRun_98 rfl ?_
    refine j_top (rMis2 M R a n (a + 24) 4) (by rw [ne _ (by omega), m4 _ (by omega)]) ?_
    refine j_cVr C (c_X3_newPlan _ ω γ _ _ gh m1 m3b m2b _ _ _) yc_X3_newPlan mn_X4_170 im_X3_newPlan se_X3_newPlan rfl rfl dX4_planForLastRun_100 rfl rfl (by assumption) (by decide) (Nat.le_of_ble_eq_true rfl) (by decide) ?_
    change J _ ω γ (rMis3 M R a n) _ _ _ _ _ (.ref (rMisP M R a n) :: _)
    have hp : jAt ω γ (rMisP M R a n) 2 := rNewP_at m1 gh m2b m3b
    have ht3 : rMis3 M R a n t = M t := by rw [rMis3, rNewM_o m1 m2b m3b (by omega), ne _ (by omega)]; exact m4 t (by omega)
    refine j_astore C dX4_planForLastRun_103 (by rw [hxn]; decide) ?_
    refine j_aload C dX4_planForLastRun_105 rfl ?_
    refine j_aload_n C dX4_planForLastRun_107 rfl ?_
    refine j_aload_n C dX4_planForLastRun_108 rfl ?_
    refine j_getR C fl_X4_21 (by assumption) dX4_planForLastRun_109 (by decide) rfl (by assumption) ?_
    refine j_aload_n C dX4_planForLastRun_112 rfl ?_
    refine j_aload_n C dX4_planForLastRun_113 rfl ?_
    refine j_cVi C (c_X4_bestWay _ ω γ _ _ s0 gs ht hv (show rMis3 M R a n t 2 = nI nc by rw [ht3]; exact hc) hnc) yc_X4_bestWay mn_X4_174 im_X4_bestWay se_X4_bestWay rfl rfl dX4_planForLastRun_114 rfl rfl (by assumption) (by decide) (Nat.le_of_ble_eq_true rfl) (by decide) ?_
    refine j_putI C fl_X4_65 (hp) dX4_planForLastRun_117 (by decide) rfl (rfl) (rfl) ?_
    refine j_mem (rMis4 M R a t v n nc) rfl ?_
    refine j_aload C dX4_planForLastRun_120 rfl ?_
    refine j_aload_n C dX4_planForLastRun_122 rfl ?_
    refine j_getR C fl_X4_21 (by assumption) dX4_planForLastRun_123 (by decide) rfl (by assumption) ?_
    refine j_aload_n C dX4_planForLastRun_126 rfl ?_
    refine j_aload_n C dX4_planForLastRun_127 rfl ?_
    refine j_aload C dX4_planForLastRun_128 rfl ?_
    refine j_getI C fl_X4_65 (hp) dX4_planForLastRun_130 (by decide) rfl ?_
    refine j_cSi C (c_X9_cost _ ω γ _ _ gs ht hv _) yc_X9_cost mn_X4_124 st_X9_cost dX4_planForLastRun_133 rfl rfl (Nat.le_of_ble_eq_true rfl) (by decide) ?_
    refine j_putI C fl_X4_178 (hp) dX4_planForLastRun_136 (by decide) rfl (rfl) (rfl) ?_
    refine j_mem (rMis5 M R a t v n nc) rfl ?_
    refine j_aload_n C dX4_planForLastRun_139 rfl ?_
    refine j_getR C fl_X4_46 (by assumption) dX4_planForLastRun_140 (by decide) rfl (by assumption) ?_
    refine j_aload C dX4_planForLastRun_143 rfl ?_
    refine j_getI C fl_X4_181 (hp) dX4_planForLastRun_145 (by decide) rfl ?_
    refine j_bipush C (-4) dX4_planForLastRun_148 (by decide) ?_
    refine j_icmp_ne C 157 dX4_planForLastRun_150 (by decide) (fun h150 => ?_) (fun h150 => ?_)
    · skip
      refine j_iconst C (nI 1) dX4_planForLastRun_157 (by decide) ?_
      refine j_putI C fl_X4_161 (by assumption) dX4_planForLastRun_158 (by decide) rfl (rfl) (rfl) ?_
      refine j_mem (rMisM M R a t v n nc) (by simp only [rMisM]; first | rw [if_neg h150] | rw [if_pos h150]) ?_
      refine j_aload C dX4_planForLastRun_161 rfl ?_
      exact j_areturn C E dX4_planForLastRun_163 (by first | exact Or.inl ⟨_, rfl⟩ | exact Or.inr ⟨_, rfl⟩) (by decide) (by decide) (⟨by simp only [rPFP, if_pos h24b], rfl, by simp only [rPFM, if_pos h24b], by simp only [rPFR, if_pos h24b]⟩)
    · skip
      refine j_iconst C (nI 2) dX4_planForLastRun_153 (by decide) ?_
      refine j_goto C 158 dX4_planForLastRun_154 (by decide) ?_
      refine j_putI C fl_X4_161 (by assumption) dX4_planForLastRun_158 (by decide) rfl (rfl) (rfl) ?_
      refine j_mem (rMisM M R a t v n nc) (by simp only [rMisM]; first | rw [if_neg h150] | rw [if_pos h150]) ?_
      refine j_aload C dX4_planForLastRun_161 rfl ?_
      exact j_areturn C E dX4_planForLastRun_163 (by first | exact Or.inl ⟨_, rfl⟩ | exact Or.inr ⟨_, rfl⟩) (by decide) (by decide) (⟨by simp only [rPFP, if_pos h24b], rfl, by simp only [rPFM, if_pos h24b], by simp only [rPFR, if_pos h24b]⟩)
  · skip
    have h24b : ¬ rPlc M R a n = -1 := h24
    refine j_aload_n C dX4_planForLastRun_27 rfl ?_
    refine j_dup C dX4_planForLastRun_28 rfl ?_
    refine j_getI C fl_X4_158 (by assumption) dX4_planForLastRun_29 (by decide) rfl ?_
    refine j_iconst C (nI 1) dX4_planForLastRun_32 (by decide) ?_
    first | with_reducible refine j_iaddN C dX4_planForLastRun_33 ?_ | refine j_iadd C dX4_planForLastRun_33 ?_
    refine j_putI C fl_X4_158 (by assumption) dX4_planForLastRun_34 (by decide) rfl (rfl) (rfl) ?_
    refine j_aload_n C dX4_planForLastRun_37 rfl ?_
    refine j_getR C fl_X4_46 (by assumption) dX4_planForLastRun_38 (by decide) rfl (by assumption) ?_
    refine j_iconst C (nI 0) dX4_planForLastRun_41 (by decide) ?_
    refine j_putI C fl_X4_161 (by assumption) dX4_planForLastRun_42 (by decide) rfl (rfl) (rfl) ?_
    refine j_mem (rHitM M a) rfl ?_
    refine j_aload_n C dX4_planForLastRun_45 rfl ?_
    refine j_getR C fl_X4_39 (by assumption) dX4_planForLastRun_46 (by decide) rfl (by assumption) ?_
    refine j_iload_n C dX4_planForLastRun_49 rfl ?_
    refine j_cVr C (c_X3_planAt _ ω γ _ R gh hs _) yc_X3_planAt mn_X4_61 im_X3_planAt se_X3_planAt rfl rfl dX4_planForLastRun_50 rfl rfl (by assumption) (by decide) (Nat.le_of_ble_eq_true rfl) (by decide) ?_
    exact j_areturn C E dX4_planForLastRun_53 (by first | exact Or.inl ⟨_, rfl⟩ | exact Or.inr ⟨_, rfl⟩) (by decide) (by decide) (⟨by simp only [rPFP, if_neg h24b]; rfl, rfl, by simp only [rPFM, if_neg h24b], by simp only [rPFR, if_neg h24b]⟩)

theorem c_X3_throwAwayN (l : Launch) (ω : jW) (γ : jG) (M : jM) (R : jR) {b n k : Nat} (g : gShelf ω γ b) (hs : SR R b) (hkp : M b 2 = nI n) (hn : n ≤ 8) (hk : k < n) : Ct l ω yX3_throwAway cX3_throwAway 2 none 2 0 0 [.ref b, .int (nI k)] γ M R (jx γ none (rThr M b n) (jswap R b k (n - 1))) := by
  have h := c_X3_throwAway l ω γ M R g hs hkp hn (nI k)
  rw [rThrM, rThrR, if_neg (nI_pos (by omega)), if_neg (nI_pos (by omega)), if_neg (nI_ge hk (by omega)), if_neg (nI_ge hk (by omega)), nI_clamp (by omega)] at h
  exact h

set_option maxHeartbeats 40000000 in
set_option maxRecDepth 100000 in
theorem c_X4_throwAwayPlansBy (l : Launch) (ω : jW) (γ : jG) (M : jM) (R : jR) {a n : Nat} (g : gState ω γ a) (ss : SS R a) (hs : SR R (a + 11)) (hkp : M (a + 11) 2 = nI n) (hn : n ≤ 8) (c : Int32) : Ct l ω yX4_throwAwayPlansBy cX4_throwAwayPlansBy 5 (some .int) 4 0 0 [.ref a, .int c] γ M R (jx γ (some (.int (nI n - nI (rTB a c n n M R).2.2))) (rTB a c n n M R).1 (rTB a c n n M R).2.1) := by
  refine Ct_of (by decide) (Nat.le_of_ble_eq_true rfl) rfl (jcat_of rfl) ?_
  intro X C E hnm hxl hxn
  subst hxl
  have s0 : jAt ω γ a 4 := g.1
  have p0 : jP γ a 0 = some (a + 1) := g.2.1
  have gt : gTable ω γ (a + 1) := g.2.2.1
  have p1 : jP γ a 1 = some (a + 5) := g.2.2.2.1
  have gs : gSums ω γ (a + 5) := g.2.2.2.2.1
  have p2 : jP γ a 2 = some (a + 7) := g.2.2.2.2.2.1
  have ga : jArr ω γ (a + 7) 15 6 := g.2.2.2.2.2.2.1
  have p4 : jP γ a 4 = some (a + 11) := g.2.2.2.2.2.2.2.2.2.1
  have gh : gShelf ω γ (a + 11) := g.2.2.2.2.2.2.2.2.2.2.1
  have p5 : jP γ a 5 = some (a + 22) := g.2.2.2.2.2.2.2.2.2.2.2.1
  have gl : gLast ω γ (a + 22) := g.2.2.2.2.2.2.2.2.2.2.2.2.1
  have p6 : jP γ a 6 = some (a + 24) := g.2.2.2.2.2.2.2.2.2.2.2.2.2.1
  have gc : jArr ω γ (a + 24) 12 5 := g.2.2.2.2.2.2.2.2.2.2.2.2.2.2.1
  have gm : ∀ t, t < 6 → gStm ω γ (a + 25 + 3 * t) := g.2.2.2.2.2.2.2.2.2.2.2.2.2.2.2
  have gh0 : jAt ω γ (a + 11) 3 := gh.1
  have gl0 : jAt ω γ (a + 22) 1 := gl.1
  have gt0 : jAt ω γ (a + 1) 7 := gt.1
  have gs0 : jAt ω γ (a + 5) 6 := gs.1
  have gtp : jP γ (a + 1) 1 = some (a + 3) := gt.2.2.2.1
  have gu : gSums ω γ (a + 3) := gt.2.2.2.2
  have gu0 : jAt ω γ (a + 3) 6 := gu.1
  refine j_aload_n C dX4_throwAwayPlansBy_0 rfl ?_
  refine j_getR C fl_X4_39 (by assumption) dX4_throwAwayPlansBy_1 (by decide) rfl (by assumption) ?_
  refine j_getI C fl_X4_58 (by assumption) dX4_throwAwayPlansBy_4 (by decide) rfl ?_
  refine j_top (nI n) (hkp) ?_
  refine j_istore_n C dX4_throwAwayPlansBy_7 (by rw [hxn]; decide) ?_
  refine j_iload_n C dX4_throwAwayPlansBy_8 rfl ?_
  refine j_iconst C (nI 1) dX4_throwAwayPlansBy_9 (by decide) ?_
  refine j_isub C dX4_throwAwayPlansBy_10 ?_
  refine j_istore_n C dX4_throwAwayPlansBy_11 (by rw [hxn]; decide) ?_
  rw [show (Value.int (nI n - nI 1)) = Value.int (jPred n) from rfl]
  refine j_while (σ := Nat × Nat × jM × jR) (fun s => [(0, .ref a), (1, .int c), (2, .int (nI n)), (3, .int (jPred s.1))]) (fun s => s.2.2.1) (fun s => s.2.2.2) (fun s => SS s.2.2.2 a ∧ SR s.2.2.2 (a + 11) ∧ s.2.2.1 (a + 11) 2 = nI s.2.1 ∧ s.1 ≤ s.2.1 ∧ s.2.1 ≤ 8 ∧ rTB a c s.1 s.2.1 s.2.2.1 s.2.2.2 = rTB a c n n M R) (fun s => s.1) (fun s hI ih => ?_) (n, n, M, R) ?_
  · skip
    obtain ⟨k1, n1, M1, R1⟩ := s
    obtain ⟨hx1, hs1, hk1, hkn, hn1, hr1⟩ := hI
    dsimp only at hx1 hs1 hk1 hkn hn1 hr1 ih ⊢
    rcases Nat.eq_zero_or_pos k1 with rfl | hpos
    · skip
      have hr2 : rTB a c n n M R = (M1, R1, n1) := hr1.symm
      refine j_iload_n C dX4_throwAwayPlansBy_12 rfl ?_
      refine j_if_lt C 71 dX4_throwAwayPlansBy_13 (by decide) (fun _ => ?_) (fun h => absurd (jPred_neg) h)
      refine j_iload_n C dX4_throwAwayPlansBy_71 rfl ?_
      refine j_aload_n C dX4_throwAwayPlansBy_72 rfl ?_
      refine j_getR C fl_X4_39 (by assumption) dX4_throwAwayPlansBy_73 (by decide) rfl (by assumption) ?_
      refine j_getI C fl_X4_58 (by assumption) dX4_throwAwayPlansBy_76 (by decide) rfl ?_
      refine j_top (nI n1) (hk1) ?_
      refine j_isub C dX4_throwAwayPlansBy_79 ?_
      exact j_ireturn C E dX4_throwAwayPlansBy_80 (rfl) (by decide) (by decide) (⟨by rw [hr2], rfl, by rw [hr2], by rw [hr2]⟩)
    · skip
      obtain ⟨k, rfl⟩ : ∃ k, k1 = k + 1 := ⟨k1 - 1, by omega⟩
      rw [jPred_s k]
      refine j_iload_n C dX4_throwAwayPlansBy_12 rfl ?_
      refine j_if_lt C 71 dX4_throwAwayPlansBy_13 (by decide) (fun h => absurd h (nI_pos (by omega))) (fun _ => ?_)
      refine j_aload_n C dX4_throwAwayPlansBy_16 rfl ?_
      refine j_getR C fl_X4_39 (by assumption) dX4_throwAwayPlansBy_17 (by decide) rfl (by assumption) ?_
      refine j_iload_n C dX4_throwAwayPlansBy_20 rfl ?_
      refine j_cVr C (c_X3_planAtN _ ω γ M1 R1 gh hs1 (show k < 8 by omega)) yc_X3_planAt mn_X4_61 im_X3_planAt se_X3_planAt rfl rfl dX4_throwAwayPlansBy_21 rfl rfl (by assumption) (by decide) (Nat.le_of_ble_eq_true rfl) (by decide) ?_
      refine j_astore C dX4_throwAwayPlansBy_24 (by rw [hxn]; decide) ?_
      refine j_aload C dX4_throwAwayPlansBy_26 rfl ?_
      refine j_getI C fl_X4_65 (hs1.pl gh (by omega)) dX4_throwAwayPlansBy_28 (by decide) rfl ?_
      refine j_bipush C (nI 9) dX4_throwAwayPlansBy_31 (by decide) ?_
      refine j_icmp_eq C 65 dX4_throwAwayPlansBy_33 (by decide) (fun h33 => ?_) (fun h33 => ?_)
      · skip
        refine j_iinc C (jPred k) dX4_throwAwayPlansBy_65 rfl (jPred_i k) (by rw [hxn]; decide) ?_
        refine j_goto C 12 dX4_throwAwayPlansBy_68 (by decide) ?_
        first | (have hz54 : _ = _ := h54; refine j_locs [0, 1, 2, 3] rfl ?_; exact ih (k, n1 - 1, rThr M1 (a + 11) n1, jswap R1 (a + 11) k (n1 - 1)) ⟨SS_sw hx1, SR_swap hs1 (by omega) (by omega), rThr_k _ _ _, show k ≤ n1 - 1 by omega, show n1 - 1 ≤ 8 by omega, by rw [← hr1]; simp only [rTB, if_neg h33, if_pos h54]⟩ (Nat.lt_succ_self k)) | (refine j_locs [0, 1, 2, 3] rfl ?_; exact ih (k, n1, M1, R1) ⟨hx1, hs1, hk1, show k ≤ n1 by omega, hn1, by rw [← hr1]; first | (simp only [rTB, if_pos h33]; done) | simp only [rTB, if_neg h33, if_neg h54]⟩ (Nat.lt_succ_self k))
      · skip
        refine j_aload_n C dX4_throwAwayPlansBy_36 rfl ?_
        refine j_aload C dX4_throwAwayPlansBy_37 rfl ?_
        refine j_getI C fl_X4_70 (hs1.pl gh (by omega)) dX4_throwAwayPlansBy_39 (by decide) rfl ?_
        refine j_cVr C (c_X4_statementAt _ ω γ M1 R1 g hx1 _) yc_X4_statementAt mn_X4_73 im_X4_statementAt se_X4_statementAt rfl rfl dX4_throwAwayPlansBy_42 rfl rfl (by assumption) (by decide) (Nat.le_of_ble_eq_true rfl) (by decide) ?_
        refine j_aload C dX4_throwAwayPlansBy_45 rfl ?_
        refine j_getI C fl_X4_65 (hs1.pl gh (by omega)) dX4_throwAwayPlansBy_47 (by decide) rfl ?_
        refine j_cVi C (c_X5_columnAt _ ω γ M1 R1 (rSA_g g _) _) yc_X5_columnAt mn_X4_77 im_X5_columnAt se_X5_columnAt rfl rfl dX4_throwAwayPlansBy_50 rfl rfl ((rSA_g g _).1) (by decide) (Nat.le_of_ble_eq_true rfl) (by decide) ?_
        refine j_iload_n C dX4_throwAwayPlansBy_53 rfl ?_
        refine j_icmp_ne C 65 dX4_throwAwayPlansBy_54 (by decide) (fun h54 => ?_) (fun h54 => ?_)
        · skip
          refine j_iinc C (jPred k) dX4_throwAwayPlansBy_65 rfl (jPred_i k) (by rw [hxn]; decide) ?_
          refine j_goto C 12 dX4_throwAwayPlansBy_68 (by decide) ?_
          first | (have hz54 : _ = _ := h54; refine j_locs [0, 1, 2, 3] rfl ?_; exact ih (k, n1 - 1, rThr M1 (a + 11) n1, jswap R1 (a + 11) k (n1 - 1)) ⟨SS_sw hx1, SR_swap hs1 (by omega) (by omega), rThr_k _ _ _, show k ≤ n1 - 1 by omega, show n1 - 1 ≤ 8 by omega, by rw [← hr1]; simp only [rTB, if_neg h33, if_pos h54]⟩ (Nat.lt_succ_self k)) | (refine j_locs [0, 1, 2, 3] rfl ?_; exact ih (k, n1, M1, R1) ⟨hx1, hs1, hk1, show k ≤ n1 by omega, hn1, by rw [← hr1]; first | (simp only [rTB, if_pos h33]; done) | simp only [rTB, if_neg h33, if_neg h54]⟩ (Nat.lt_succ_self k))
        · skip
          refine j_aload_n C dX4_throwAwayPlansBy_57 rfl ?_
          refine j_getR C fl_X4_39 (by assumption) dX4_throwAwayPlansBy_58 (by decide) rfl (by assumption) ?_
          refine j_iload_n C dX4_throwAwayPlansBy_61 rfl ?_
          refine j_cVv C (c_X3_throwAwayN _ ω γ M1 R1 gh hs1 hk1 hn1 (show k < n1 by omega)) yc_X3_throwAway mn_X4_81 im_X3_throwAway se_X3_throwAway rfl rfl dX4_throwAwayPlansBy_62 rfl rfl (by assumption) (by decide) (Nat.le_of_ble_eq_true rfl) (by decide) ?_
          refine j_iinc C (jPred k) dX4_throwAwayPlansBy_65 rfl (jPred_i k) (by rw [hxn]; decide) ?_
          refine j_goto C 12 dX4_throwAwayPlansBy_68 (by decide) ?_
          first | (have hz54 : _ = _ := h54; refine j_locs [0, 1, 2, 3] rfl ?_; exact ih (k, n1 - 1, rThr M1 (a + 11) n1, jswap R1 (a + 11) k (n1 - 1)) ⟨SS_sw hx1, SR_swap hs1 (by omega) (by omega), rThr_k _ _ _, show k ≤ n1 - 1 by omega, show n1 - 1 ≤ 8 by omega, by rw [← hr1]; simp only [rTB, if_neg h33, if_pos h54]⟩ (Nat.lt_succ_self k)) | (refine j_locs [0, 1, 2, 3] rfl ?_; exact ih (k, n1, M1, R1) ⟨hx1, hs1, hk1, show k ≤ n1 by omega, hn1, by rw [← hr1]; first | (simp only [rTB, if_pos h33]; done) | simp only [rTB, if_neg h33, if_neg h54]⟩ (Nat.lt_succ_self k))
  exact ⟨ss, hs, hkp, Nat.le_refl n, hn, rfl⟩

set_option maxHeartbeats 4000000 in
set_option maxRecDepth 100000 in
theorem c_X0_forgetOldest (l : Launch) (ω : jW) (γ : jG) (M : jM) (R : jR) {h n : Nat} (g : gHist ω γ h) (hs : SH R h) (hk : M h 1 = nI (n + 1)) : Ct l ω yX0_forgetOldest cX0_forgetOldest 3 none 1 0 0 [.ref h] γ M R (jx γ none (jup M h 1 (nI n)) (jrot R h)) := by
  refine Ct_of (by decide) (Nat.le_of_ble_eq_true rfl) rfl (jcat_of rfl) ?_
  intro X C E hnm hxl hxn
  subst hxl
  have g0 := g.1
  have g1 := g.2.1
  have g2 := g.2.2.1
  refine j_iconst C (nI 1) dX0_forgetOldest_0 (by decide) ?_
  refine j_istore_n C dX0_forgetOldest_1 (by rw [hxn]; decide) ?_
  rw [show J X ω γ M R = J X ω γ M (jrotS R h 0) from by rw [jrotS_0 hs]]
  refine j_loop 3 (fun k => [(0, .ref h), (1, .int (nI (k + 1)))]) (fun _ => M) (fun k => jrotS R h k) (fun _ => True) trivial (fun k hk2 _ ih => ?_) (fun _ => ?_)
  · skip
    refine j_iload_n C dX0_forgetOldest_2 rfl ?_
    refine j_aload_n C dX0_forgetOldest_3 rfl ?_
    refine j_getR C fl_X0_11 (by assumption) dX0_forgetOldest_4 (by decide) rfl (by assumption) ?_
    refine j_alen C (by assumption) rfl (by decide) dX0_forgetOldest_7 ?_
    refine j_icmp_ge C 47 dX0_forgetOldest_8 (by decide) (fun h => absurd h (nI_ge (show k + 1 < 4 by omega) (by decide))) (fun _ => ?_)
    refine j_aload_n C dX0_forgetOldest_11 rfl ?_
    refine j_getR C fl_X0_11 (by assumption) dX0_forgetOldest_12 (by decide) rfl (by assumption) ?_
    refine j_iload_n C dX0_forgetOldest_15 rfl ?_
    refine j_iconst C (nI 1) dX0_forgetOldest_16 (by decide) ?_
    refine j_isubN C dX0_forgetOldest_17 (by omega) ?_
    refine j_aaldN C (by assumption) (by decide) rfl (by omega) (by decide) (show jrotS R h k (h + 1) k = some (sa R h 0) from jup_eq _ _ _ _) dX0_forgetOldest_18 ?_
    refine j_astore_n C dX0_forgetOldest_19 (by rw [hxn]; decide) ?_
    refine j_aload_n C dX0_forgetOldest_20 rfl ?_
    refine j_getR C fl_X0_11 (by assumption) dX0_forgetOldest_21 (by decide) rfl (by assumption) ?_
    refine j_iload_n C dX0_forgetOldest_24 rfl ?_
    refine j_iconst C (nI 1) dX0_forgetOldest_25 (by decide) ?_
    refine j_isubN C dX0_forgetOldest_26 (by omega) ?_
    refine j_aload_n C dX0_forgetOldest_27 rfl ?_
    refine j_getR C fl_X0_11 (by assumption) dX0_forgetOldest_28 (by decide) rfl (by assumption) ?_
    refine j_iload_n C dX0_forgetOldest_31 rfl ?_
    refine j_aaldN C (by assumption) (by decide) rfl (by omega) (by decide) (show jrotS R h k (h + 1) (k + 1) = some (sa R h (k + 1)) by rw [jrotS, jup_nk _ _ (by omega), jrotK, if_neg (by omega)]; exact hs.at (by omega)) dX0_forgetOldest_32 ?_
    refine j_aastN C (by assumption) (by decide) ((hs.st g (by omega)).1) (by decide) rfl rfl (by omega) (by decide) dX0_forgetOldest_33 ?_
    refine j_aload_n C dX0_forgetOldest_34 rfl ?_
    refine j_getR C fl_X0_11 (by assumption) dX0_forgetOldest_35 (by decide) rfl (by assumption) ?_
    refine j_iload_n C dX0_forgetOldest_38 rfl ?_
    refine j_aload_n C dX0_forgetOldest_39 rfl ?_
    refine j_aastN C (by assumption) (by decide) ((hs.st g (by decide)).1) (by decide) rfl rfl (by omega) (by decide) dX0_forgetOldest_40 ?_
    rw [show k + 1 - 1 = k from rfl, jrotS_s hs hk2]
    first | refine j_iinc1 C dX0_forgetOldest_41 rfl (by rw [hxn]; decide) ?_ | refine j_iinc C _ dX0_forgetOldest_41 rfl rfl (by rw [hxn]; decide) ?_
    refine j_goto C 2 dX0_forgetOldest_44 (by decide) ?_
    refine j_locs [0, 1] rfl ?_
    exact ih trivial
  · skip
    refine j_iload_n C dX0_forgetOldest_2 rfl ?_
    refine j_aload_n C dX0_forgetOldest_3 rfl ?_
    refine j_getR C fl_X0_11 (by assumption) dX0_forgetOldest_4 (by decide) rfl (by assumption) ?_
    refine j_alen C (by assumption) rfl (by decide) dX0_forgetOldest_7 ?_
    refine j_icmp_ge C 47 dX0_forgetOldest_8 (by decide) (fun _ => ?_) (fun h => absurd (Int32.le_refl _) h)
    refine j_aload_n C dX0_forgetOldest_47 rfl ?_
    refine j_dup C dX0_forgetOldest_48 rfl ?_
    refine j_getI C fl_X0_18 (by assumption) dX0_forgetOldest_49 (by decide) rfl ?_
    refine j_top (nI (n + 1)) (hk) ?_
    refine j_iconst C (nI 1) dX0_forgetOldest_52 (by decide) ?_
    refine j_isubN C dX0_forgetOldest_53 (by omega) ?_
    refine j_putI C fl_X0_18 (by assumption) dX0_forgetOldest_54 (by decide) rfl (rfl) (rfl) ?_
    exact j_return C E dX0_forgetOldest_57 (by decide) (by decide) (⟨rfl, rfl, rfl, rfl⟩)

set_option maxHeartbeats 4000000 in
set_option maxRecDepth 100000 in
theorem c_X0_push (l : Launch) (ω : jW) (γ : jG) (M : jM) (R : jR) {h a n : Nat} (g : gHist ω γ h) (hs : SH R h) (hk : M h 1 = nI n) (hn : n ≤ 4) (ga : gState ω γ a) (hA : SA M R a) (hH : ∀ i, i < 4 → SA M R (sa R h i)) (hd : a + 43 ≤ h) : Ct l ω yX0_push cX0_push 3 none 5 0 0 [.ref h, .ref a] γ M R (jx γ none (rPuM M R h a n) (rPuR R h n)) := by
  refine Ct_of (by decide) (Nat.le_of_ble_eq_true rfl) rfl (jcat_of rfl) ?_
  intro X C E hnm hxl hxn
  subst hxl
  have g0 := g.1
  have g1 := g.2.1
  have g2 := g.2.2.1
  have ga0 := ga.1
  refine j_aload_n C dX0_push_0 rfl ?_
  refine j_getI C fl_X0_18 (by assumption) dX0_push_1 (by decide) rfl ?_
  refine j_top (nI n) (hk) ?_
  refine j_aload_n C dX0_push_4 rfl ?_
  refine j_getR C fl_X0_11 (by assumption) dX0_push_5 (by decide) rfl (by assumption) ?_
  refine j_alen C (by assumption) rfl (by decide) dX0_push_8 ?_
  refine j_icmp_lt C 16 dX0_push_9 (by decide) (fun h9 => ?_) (fun h9 => ?_)
  · skip
    have h4 : n < 4 := (nI_ltI (by omega) (by decide)).mp h9
    refine j_aload_n C dX0_push_16 rfl ?_
    refine j_getI C fl_X0_18 (by assumption) dX0_push_17 (by decide) rfl ?_
    refine j_top (nI n) (hk) ?_
    refine j_if_lt C 64 dX0_push_20 (by decide) (fun h => absurd h (nI_pos (by omega))) (fun _ => ?_)
    refine j_aload_n C dX0_push_23 rfl ?_
    refine j_getI C fl_X0_18 (by assumption) dX0_push_24 (by decide) rfl ?_
    refine j_top (nI n) (hk) ?_
    refine j_aload_n C dX0_push_27 rfl ?_
    refine j_getR C fl_X0_11 (by assumption) dX0_push_28 (by decide) rfl (by assumption) ?_
    refine j_alen C (by assumption) rfl (by decide) dX0_push_31 ?_
    refine j_icmp_ge C 64 dX0_push_32 (by decide) (fun h => absurd h (nI_ge h4 (by decide))) (fun _ => ?_)
    refine j_aload_n C dX0_push_35 rfl ?_
    refine j_getR C fl_X0_11 (by assumption) dX0_push_36 (by decide) rfl (by assumption) ?_
    refine j_aload_n C dX0_push_39 rfl ?_
    refine j_getI C fl_X0_18 (by assumption) dX0_push_40 (by decide) rfl ?_
    refine j_top (nI n) hk ?_
    refine j_aaldN C (by assumption) (by decide) rfl (h4) (by decide) (hs.at h4) dX0_push_43 ?_
    refine j_astore_n C dX0_push_44 (by rw [hxn]; decide) ?_
    refine j_aload_n C dX0_push_45 rfl ?_
    refine j_ifnull C dX0_push_46 ?_
    refine j_aload_n C dX0_push_49 rfl ?_
    refine j_aload_n C dX0_push_50 rfl ?_
    obtain ⟨j, hj, ej⟩ := hs.rg h4
    refine j_cVv C (c_X4_takeFrom _ ω γ M R (hs.st g h4) ga (by omega) (hH n h4).1 hA.1 (hH n h4).2.1 hA.2.1 hA.2.2.1 hA.2.2.2.1 hA.2.2.2.2) yc_X4_takeFrom mn_X0_25 im_X4_takeFrom se_X4_takeFrom rfl rfl dX0_push_51 rfl rfl ((hs.st g h4).1) (by decide) (Nat.le_of_ble_eq_true rfl) (by decide) ?_
    refine j_aload_n C dX0_push_54 rfl ?_
    refine j_dup C dX0_push_55 rfl ?_
    refine j_getI C fl_X0_18 (by assumption) dX0_push_56 (by decide) rfl ?_
    refine j_top (nI n) (by rw [kState_o _ (hH n h4).2.1 (by omega)]; exact hk) ?_
    refine j_iconst C (nI 1) dX0_push_59 (by decide) ?_
    first | with_reducible refine j_iaddN C dX0_push_60 ?_ | refine j_iadd C dX0_push_60 ?_
    refine j_putI C fl_X0_18 (by assumption) dX0_push_61 (by decide) rfl (rfl) (rfl) ?_
    exact j_return C E dX0_push_64 (by decide) (by decide) (⟨rfl, rfl, by rw [rPuM, if_neg (by omega)], by rw [rPuR, if_neg (by omega)]⟩)
  · skip
    have h4 : n = 4 := by have := nI_of_nlt h9 (by omega) (by decide); omega
    subst h4
    have hrot := SH_rot hs
    refine j_aload_n C dX0_push_12 rfl ?_
    refine j_cVv C (c_X0_forgetOldest _ ω γ M R g hs hk) yc_X0_forgetOldest mn_X0_22 im_X0_forgetOldest se_X0_forgetOldest rfl rfl dX0_push_13 rfl rfl (by assumption) (by decide) (Nat.le_of_ble_eq_true rfl) (by decide) ?_
    refine j_aload_n C dX0_push_16 rfl ?_
    refine j_getI C fl_X0_18 (by assumption) dX0_push_17 (by decide) rfl ?_
    refine j_top (nI 3) (jup_eq _ _ _ _) ?_
    refine j_if_lt C 64 dX0_push_20 (by decide) (fun h => absurd h (nI_pos (by decide))) (fun _ => ?_)
    refine j_aload_n C dX0_push_23 rfl ?_
    refine j_getI C fl_X0_18 (by assumption) dX0_push_24 (by decide) rfl ?_
    refine j_top (nI 3) (jup_eq _ _ _ _) ?_
    refine j_aload_n C dX0_push_27 rfl ?_
    refine j_getR C fl_X0_11 (by assumption) dX0_push_28 (by decide) rfl (by assumption) ?_
    refine j_alen C (by assumption) rfl (by decide) dX0_push_31 ?_
    refine j_icmp_ge C 64 dX0_push_32 (by decide) (fun h => absurd h (nI_ge (by decide) (by decide))) (fun _ => ?_)
    refine j_aload_n C dX0_push_35 rfl ?_
    refine j_getR C fl_X0_11 (by assumption) dX0_push_36 (by decide) rfl (by assumption) ?_
    refine j_aload_n C dX0_push_39 rfl ?_
    refine j_getI C fl_X0_18 (by assumption) dX0_push_40 (by decide) rfl ?_
    refine j_top (nI 3) (jup_eq _ _ _ _) ?_
    refine j_aaldN C (by assumption) (by decide) rfl (by decide) (by decide) (hrot.1.at (by decide)) dX0_push_43 ?_
    refine j_astore_n C dX0_push_44 (by rw [hxn]; decide) ?_
    refine j_aload_n C dX0_push_45 rfl ?_
    refine j_ifnull C dX0_push_46 ?_
    refine j_aload_n C dX0_push_49 rfl ?_
    refine j_aload_n C dX0_push_50 rfl ?_
    obtain ⟨j, hj, ej⟩ := hrot.1.rg (show 3 < 4 by decide)
    have hSA : SA (jup M h 1 (nI 3)) (jrot R h) (sa (jrot R h) h 3) := by rw [hrot.2.1] at ej ⊢; exact SA_cong (hH 0 (by decide)) (fun x hx => jup_row _ _ (by omega)) (fun x hx => jrot_o R (by omega))
    have hSa : SA (jup M h 1 (nI 3)) (jrot R h) a := SA_cong hA (fun x hx => jup_row _ _ (by omega)) (fun x hx => jrot_o R (by omega))
    refine j_cVv C (c_X4_takeFrom _ ω γ _ _ (hrot.1.st g (by decide)) ga (by omega) hSA.1 hSa.1 hSA.2.1 hSa.2.1 hSa.2.2.1 hSa.2.2.2.1 hSa.2.2.2.2) yc_X4_takeFrom mn_X0_25 im_X4_takeFrom se_X4_takeFrom rfl rfl dX0_push_51 rfl rfl ((hrot.1.st g (by decide)).1) (by decide) (Nat.le_of_ble_eq_true rfl) (by decide) ?_
    refine j_aload_n C dX0_push_54 rfl ?_
    refine j_dup C dX0_push_55 rfl ?_
    refine j_getI C fl_X0_18 (by assumption) dX0_push_56 (by decide) rfl ?_
    refine j_top (nI 3) (by rw [kState_o _ hSA.2.1 (by omega), jup_eq]) ?_
    refine j_iconst C (nI 1) dX0_push_59 (by decide) ?_
    first | with_reducible refine j_iaddN C dX0_push_60 ?_ | refine j_iadd C dX0_push_60 ?_
    refine j_putI C fl_X0_18 (by assumption) dX0_push_61 (by decide) rfl (rfl) (rfl) ?_
    exact j_return C E dX0_push_64 (by decide) (by decide) (⟨rfl, rfl, by rw [rPuM, if_pos rfl], by rw [rPuR, if_pos rfl]⟩)
