set_option maxHeartbeats 4000000 in
set_option maxRecDepth 100000 in
theorem c_X10_goes (l : Launch) (ω : jW) (γ : jG) (M : jM) (R : jR) {m : Nat} (g : gM ω γ m) {r : Nat} (hr : M (m + 1) 0 = nI r) (hr30 : r ≤ 30) {n : Nat} (hn : M (m + 1) 4 = nI n) (hn8 : n ≤ 8) {t nc : Nat} (hs : zSt (M (m + 1)) t nc) (hpl : ∀ q, q < n → M (m + 1) (367 + 9 * q + 1) = nI t → ∃ w, (w = 9 ∨ w < nc) ∧ M (m + 1) (367 + 9 * q + 3) = nI w) {cap : Nat} (hcap : M (m + 1) 15 = nI cap) (hcap8 : cap ≤ 8)  : Ct l ω yX10_goes cX10_goes 9 none 7 0 0 [.ref m, .int (nI t)] γ M R (jx γ none (zGoes M m t r n nc) R) := by
  refine Ct_of (by decide) (Nat.le_of_ble_eq_true rfl) rfl (jcat_of rfl) ?_
  intro X C E hnm hxl hxn
  subst hxl
  have g9 := g
  obtain ⟨g0, g1, g2, g3, g4, g5, g6, g7, g8⟩ := g
  have hs9 := hs
  obtain ⟨ht6, -, hn1, hn4, -⟩ := hs
  obtain ⟨k4, kn, kl, ko⟩ := zCl_inv (M (m + 1) 15) m n M (-4) hn
  have N4 : gN M m n (m + 1) 4 = nI (gK M m n).2.2 := by rw [gN, jup_nk _ _ (by decide)]; exact k4
  have Nl : ∀ j, j < 367 → j ≠ 4 → j ≠ 8 → j ≠ 28 → gN M m n (m + 1) j = M (m + 1) j := fun j a b c d => by rw [gN, jup_nk _ _ d]; exact kl j a b c
  have kn8 : (gK M m n).2.2 ≤ 8 := Nat.le_trans kn hn8
  have hsN : zSt (gN M m n (m + 1)) t nc := zSt_cong hs9 (fun j h1 h2 => Nl j (by omega) (by omega) (by omega) (by omega))
  have hw0 : gWy M m t nc = 9 ∨ gWy M m t nc < nc := zBest_rg _ _ _ _ _ (Nat.le_refl _)
  have hlt8 : nI (gK M m n).2.2 < gN M m n (m + 1) 15 → (gK M m n).2.2 < 8 := fun q => by (rw [Nl _ (by decide) (by decide) (by decide) (by decide), hcap] at q; have := (nI_ltI (by omega) (by omega)).mp q; omega)
  refine j_aload_n C dX10_goes_0 rfl ?_
  refine j_iload_n C dX10_goes_1 rfl ?_
  refine j_cVi C (c_X10_ownClass _ ω γ M R g9 hs9) yc_X10_ownClass mn_X10_111 im_X10_ownClass se_X10_ownClass rfl rfl dX10_goes_2 rfl rfl (by assumption) (by decide) (Nat.le_of_ble_eq_true rfl) (by decide) ?_
  change J _ ω γ _ _ _ _ _ _ (.int (gO M m t nc) :: _)
  refine j_istore_n C dX10_goes_5 (by rw [hxn]; decide) ?_
  refine j_aload_n C dX10_goes_6 rfl ?_
  refine j_iload_n C dX10_goes_7 rfl ?_
  refine j_iload_n C dX10_goes_8 rfl ?_
  refine j_cVi C (c_X10_placeFor _ ω γ M R g9 hn hn8 (nI t) (gO M m t nc)) yc_X10_placeFor mn_X10_114 im_X10_placeFor se_X10_placeFor rfl rfl dX10_goes_9 rfl rfl (by assumption) (by decide) (Nat.le_of_ble_eq_true rfl) (by decide) ?_
  change J _ ω γ _ _ _ _ _ _ (.int (gP M m t n nc) :: _)
  refine j_istore_n C dX10_goes_12 (by rw [hxn]; decide) ?_
  refine j_iload_n C dX10_goes_13 rfl ?_
  refine j_if_lt C 21 dX10_goes_14 (by decide) (fun h14 => ?_) (fun h14 => ?_)
  · skip
    refine j_iconst C (nI 0) dX10_goes_21 (by decide) ?_
    refine j_istore C dX10_goes_22 (by rw [hxn]; decide) ?_
    refine j_iload C dX10_goes_24 rfl ?_
    refine j_if_eq C 38 dX10_goes_26 (by decide) (fun _ => ?_) (fun h => absurd (by decide) h)
    refine j_aload_n C dX10_goes_38 rfl ?_
    refine j_iload_n C dX10_goes_39 rfl ?_
    refine j_iconst C (nI 0) dX10_goes_40 (by decide) ?_
    refine j_cVi C (c_X10_bestWay0 _ ω γ M R g9 hs9) yc_X10_bestWay mn_X10_117 im_X10_bestWay se_X10_bestWay rfl rfl dX10_goes_41 rfl rfl (by assumption) (by decide) (Nat.le_of_ble_eq_true rfl) (by decide) ?_
    change J _ ω γ _ _ _ _ _ _ (.int (nI (gWy M m t nc)) :: _)
    refine j_istore C dX10_goes_44 (by rw [hxn]; decide) ?_
    refine j_iload C dX10_goes_46 rfl ?_
    refine j_if_eq C 60 dX10_goes_48 (by decide) (fun _ => ?_) (fun h => absurd (by decide) h)
    refine j_aload_n C dX10_goes_60 rfl ?_
    refine j_iload_n C dX10_goes_61 rfl ?_
    refine j_iload C dX10_goes_62 rfl ?_
    refine j_iconst C (nI 0) dX10_goes_64 (by decide) ?_
    refine j_cVi C (c_X10_cost0 _ ω γ M R g9 hs9 hw0) yc_X10_cost mn_X10_101 im_X10_cost se_X10_cost rfl rfl dX10_goes_65 rfl rfl (by assumption) (by decide) (Nat.le_of_ble_eq_true rfl) (by decide) ?_
    change J _ ω γ _ _ _ _ _ _ (.int (gE M m t nc) :: _)
    refine j_istore C dX10_goes_68 (by rw [hxn]; decide) ?_
    refine j_aload_n C dX10_goes_70 rfl ?_
    refine j_getR C fl_X10_7 (by assumption) dX10_goes_71 (by decide) rfl (by assumption) ?_
    refine j_bipush C (nI 28) dX10_goes_74 (by decide) ?_
    refine j_iload C dX10_goes_76 rfl ?_
    refine j_if_eq C 86 dX10_goes_78 (by decide) (fun _ => ?_) (fun h => absurd (by decide) h)
    refine j_aload_n C dX10_goes_86 rfl ?_
    refine j_cVi C (c_X10_clears _ ω γ M R g9 hn hn8) yc_X10_clears mn_X10_120 im_X10_clears se_X10_clears rfl rfl dX10_goes_87 rfl rfl (by assumption) (by decide) (Nat.le_of_ble_eq_true rfl) (by decide) ?_
    change J _ ω γ (gK M m n).1 _ _ _ _ _ (.int (gK M m n).2.1 :: _)
    refine j_iastN C (by assumption) dX10_goes_90 (by omega) (by decide) ?_
    refine j_iload C dX10_goes_91 rfl ?_
    refine j_if_eq C 100 dX10_goes_93 (by decide) (fun _ => ?_) (fun h => absurd (by decide) h)
    refine j_aload_n C dX10_goes_100 rfl ?_
    refine j_iload_n C dX10_goes_101 rfl ?_
    refine j_iload_n C dX10_goes_102 rfl ?_
    refine j_iload C dX10_goes_103 rfl ?_
    refine j_iload C dX10_goes_105 rfl ?_
    refine j_mem (gN M m n) rfl ?_
    refine j_cVi C (c_X10_keeps _ ω γ (gN M m n) R g9 N4 kn8 (if h : nI (gK M m n).2.2 < gN M m n (m + 1) 15 then .inr (hlt8 h) else .inl h) _ _ _ _) yc_X10_keeps mn_X10_123 im_X10_keeps se_X10_keeps rfl rfl dX10_goes_107 rfl rfl (by assumption) (by decide) (Nat.le_of_ble_eq_true rfl) (by decide) ?_
    by_cases h9 : nI (gK M m n).2.2 < gN M m n (m + 1) 15
    · skip
      refine j_mem (mKp (gN M m n) m (gK M m n).2.2 (nI t) (gO M m t nc) (nI (gWy M m t nc)) (gE M m t nc)) (if_pos h9) ?_
      refine j_top (nI (gK M m n).2.2) (if_pos h9) ?_
      have k7 : (gK M m n).2.2 < 8 := hlt8 h9
      refine j_istore_n C dX10_goes_110 (by rw [hxn]; decide) ?_
      refine j_locs [0, 1, 2, 3, 4, 5, 6] rfl ?_
      refine goes_A0 C E hxn g9 (zSt_cong hsN (fun j h1 h2 => mKp_l _ (by omega) (by omega) (by omega))) (r := r) (by rw [mKp_l _ (by decide) (by decide) (by decide), Nl _ (by decide) (by decide) (by decide) (by decide)]; exact hr) hr30 (mKp_4 _) (show (gK M m n).2.2 + 1 ≤ 8 by omega) hw0 (Nat.lt_succ_self _) ?_
      exact ⟨rfl, rfl, by rw [zGoes, if_pos h14, if_pos h9], rfl⟩
    · skip
      refine j_mem (gN M m n) (if_neg h9) ?_
      refine j_top (-4) (if_neg h9) ?_
      refine j_istore_n C dX10_goes_110 (by rw [hxn]; decide) ?_
      refine j_locs [0, 1, 2, 3, 4, 5, 6] rfl ?_
      refine goes_B C E hxn g9 hsN (r := r) (by rw [Nl _ (by decide) (by decide) (by decide) (by decide)]; exact hr) hr30 N4 kn8 hw0 ?_
      exact ⟨rfl, rfl, by rw [zGoes, if_pos h14, if_neg h9], rfl⟩
  · skip
    obtain ⟨q, hq, hq2, eq⟩ : ∃ k, k < n ∧ zFor (M (m + 1)) (nI t) (gO M m t nc) k = true ∧ gP M m t n nc = nI k := zLast_N h14
    obtain ⟨w, hw, hw3⟩ := hpl q hq (zFor_of hq2)
    refine j_iconst C (nI 1) dX10_goes_17 (by decide) ?_
    refine j_goto C 22 dX10_goes_18 (by decide) ?_
    refine j_istore C dX10_goes_22 (by rw [hxn]; decide) ?_
    refine j_iload C dX10_goes_24 rfl ?_
    refine j_if_eq C 38 dX10_goes_26 (by decide) (fun h => absurd h (by decide)) (fun _ => ?_)
    refine j_aload_n C dX10_goes_29 rfl ?_
    refine j_iload_n C dX10_goes_30 rfl ?_
    refine j_top (nI q) eq ?_
    refine j_iconst C (nI 3) dX10_goes_31 (by decide) ?_
    refine j_cVi C (c_X10_ofPlan _ _ _ _ _ (by assumption) (by omega)) yc_X10_ofPlan mn_X10_47 im_X10_ofPlan se_X10_ofPlan rfl rfl dX10_goes_32 rfl rfl (by assumption) (by decide) (Nat.le_of_ble_eq_true rfl) (by decide) ?_
    refine j_top (nI w) hw3 ?_
    refine j_goto C 44 dX10_goes_35 (by decide) ?_
    refine j_istore C dX10_goes_44 (by rw [hxn]; decide) ?_
    refine j_iload C dX10_goes_46 rfl ?_
    refine j_if_eq C 60 dX10_goes_48 (by decide) (fun h => absurd h (by decide)) (fun _ => ?_)
    refine j_aload_n C dX10_goes_51 rfl ?_
    refine j_iload_n C dX10_goes_52 rfl ?_
    refine j_top (nI q) eq ?_
    refine j_iconst C (nI 4) dX10_goes_53 (by decide) ?_
    refine j_cVi C (c_X10_ofPlan _ _ _ _ _ (by assumption) (by omega)) yc_X10_ofPlan mn_X10_47 im_X10_ofPlan se_X10_ofPlan rfl rfl dX10_goes_54 rfl rfl (by assumption) (by decide) (Nat.le_of_ble_eq_true rfl) (by decide) ?_
    refine j_goto C 68 dX10_goes_57 (by decide) ?_
    refine j_istore C dX10_goes_68 (by rw [hxn]; decide) ?_
    refine j_aload_n C dX10_goes_70 rfl ?_
    refine j_getR C fl_X10_7 (by assumption) dX10_goes_71 (by decide) rfl (by assumption) ?_
    refine j_bipush C (nI 28) dX10_goes_74 (by decide) ?_
    refine j_iload C dX10_goes_76 rfl ?_
    refine j_if_eq C 86 dX10_goes_78 (by decide) (fun h => absurd h (by decide)) (fun _ => ?_)
    refine j_bipush C (-4) dX10_goes_81 (by decide) ?_
    refine j_goto C 90 dX10_goes_83 (by decide) ?_
    refine j_iastN C (by assumption) dX10_goes_90 (by omega) (by decide) ?_
    refine j_iload C dX10_goes_91 rfl ?_
    refine j_if_eq C 100 dX10_goes_93 (by decide) (fun h => absurd h (by decide)) (fun _ => ?_)
    refine j_iload_n C dX10_goes_96 rfl ?_
    refine j_top (nI q) eq ?_
    refine j_goto C 110 dX10_goes_97 (by decide) ?_
    refine j_istore_n C dX10_goes_110 (by rw [hxn]; decide) ?_
    refine j_locs [0, 1, 2, 3, 4, 5, 6] rfl ?_
    refine goes_A1 C E hxn g9 (zSt_cong hs9 (fun j h1 h2 => jup_nk _ _ (by omega))) (r := r) (by rw [jup_nk _ _ (by decide)]; exact hr) hr30 (by rw [jup_nk _ _ (by decide)]; exact hn) hn8 hw hq ?_
    exact ⟨rfl, rfl, (zGoes_there h14 eq (by omega) hw3 (by omega)).symm, rfl⟩
