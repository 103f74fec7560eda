theorem zRd_k2 {S S2 : Nat → Int32} {r c : Nat} (Z : zRd S r c) (e : ∀ j, (j = 0 ∨ 29 ≤ j ∧ j < 307) → S2 j = S j) (e2 : ∀ t, t < c → ∀ j, 307 + 10 * t ≤ j → j < 307 + 10 * t + 9 → S2 j = S j) : zRd S2 r c := by
  obtain ⟨h1, h2, h3, h4, h5, h6, h7⟩ := Z
  have zv : ∀ i, i < r → ∀ j, j < 5 → zV S2 i j = zV S i j := fun i hi j hj => by unfold zV; rw [e _ (by omega)]
  have zn : ∀ t, t < c → zN S2 t = zN S t := fun t ht => by unfold zN; rw [e2 t ht _ (by omega) (by omega)]
  refine ⟨by rw [e 0 (by decide)]; exact h1, h2, fun i hi j hj => by rw [e _ (by omega), zv i hi j (by omega)]; exact h3 i hi j hj, fun i hi => by rw [e _ (by omega), zv i hi 4 (by decide)]; exact h4 i hi, h5, fun t ht => ?_, fun i hi => by rw [e _ (by omega)]; exact h7 i hi⟩
  rw [zn t ht]
  obtain ⟨g1, g2⟩ := h6 t ht
  have h4' := g1.2.2.2.1
  refine ⟨zSt_cong g1 (fun j a b => e2 t ht j (by omega) (by omega)), fun k hk => ?_⟩
  have eo : zOp S2 t k = zOp S t k := by unfold zOp; rw [e2 t ht _ (by omega) (by omega)]
  rw [e2 t ht _ (by omega) (by omega), eo]
  exact g2 k hk

set_option maxHeartbeats 4000000 in
set_option maxRecDepth 100000 in
theorem c_runs_sum {X : jX} {ω : jW} {γ : jG} {R : jR} {Post : jPost} (C : jC X ω cL_runs yL_runs.cls 5 0 0) (E : jE X ω (some .int) 0 0 Post) (hxn : xn X = 19) {Mf : jM} {d r c t w : Nat} {S V : Nat → Int32} (g : gD ω γ d) (H : lRd Mf d S r c) (Z : zRd S r c) (ht : t < c) (hw : jArr ω γ w 12 4) (hV : ∀ k, k < 4 → Mf w k = V k) (hP : Post (some (.int (sI (zAllF S V t (zN S t)) r))) γ Mf R) : J X ω γ Mf R 0 0 619 [(0, .ref d), (1, .ref (d + 1)), (2, .ref (d + 2)), (3, .ref (d + 3)), (4, .ref (d + 4)), (5, .ref (d + 5)), (6, .int (nI t)), (7, .ref w)] [] := by
  obtain ⟨g0, g1, g2, g3, g4, g5⟩ := g
  have hr0 : Mf d 0 = nI r := (H.1 0 (by decide)).trans Z.1
  have hr30 := Z.2.1
  have hc6 := Z.2.2.2.2.1
  have hn4 := (lN4 Z ht).2.1
  refine j_iconst C (nI 0) dL_runs_619 (by decide) ?_
  refine j_istore C dL_runs_620 (by rw [hxn]; decide) ?_
  refine j_iconst C (nI 0) dL_runs_622 (by decide) ?_
  refine j_istore C dL_runs_623 (by rw [hxn]; decide) ?_
  refine j_loop r (fun q => [(0, .ref d), (1, .ref (d + 1)), (2, .ref (d + 2)), (3, .ref (d + 3)), (4, .ref (d + 4)), (5, .ref (d + 5)), (6, .int (nI t)), (7, .ref w), (14, .int (sI (zAllF S V t (zN S t)) q)), (15, .int (nI q))]) (fun _ => Mf) (fun _ => R) (fun _ => True) trivial (fun q hq _ ih => ?_) (fun _ => ?_)
  · skip
    refine j_iload C dL_runs_625 rfl ?_
    refine j_aload_n C dL_runs_627 rfl ?_
    refine j_iconst C (nI 0) dL_runs_628 (by decide) ?_
    refine j_ialdN C (by assumption) dL_runs_629 (by omega) (by decide) ?_
    refine j_top (nI r) (hr0) ?_
    refine j_icmp_ge C 727 dL_runs_630 (by decide) (fun h => absurd h (nI_ge hq (by omega))) (fun _ => ?_)
    refine j_iconst C (nI 1) dL_runs_633 (by decide) ?_
    refine j_istore C dL_runs_634 (by rw [hxn]; decide) ?_
    refine j_iconst C (nI 0) dL_runs_636 (by decide) ?_
    refine j_istore C dL_runs_637 (by rw [hxn]; decide) ?_
    refine j_loop (zN S t) (fun p => [(0, .ref d), (1, .ref (d + 1)), (2, .ref (d + 2)), (3, .ref (d + 3)), (4, .ref (d + 4)), (5, .ref (d + 5)), (6, .int (nI t)), (7, .ref w), (14, .int (sI (zAllF S V t (zN S t)) q)), (15, .int (nI q)), (16, .int (zAl S V t q p)), (17, .int (nI p))]) (fun _ => Mf) (fun _ => R) (fun _ => True) trivial (fun p hp _ ih2 => ?_) (fun _ => ?_)
    · skip
      have hop := (Z.2.2.2.2.2.1 t ht).2 p hp
      have hcl := ((Z.2.2.2.2.2.1 t ht).1.2.2.2.2 p hp).2
      have hl12 := lCd_lt Z ht hp
      refine j_iload C dL_runs_639 rfl ?_
      refine j_aload_n C dL_runs_641 rfl ?_
      refine j_iload C dL_runs_642 rfl ?_
      refine j_cSi C (c_L_many _ ω γ Mf R ⟨g0, g1, g2, g3, g4, g5⟩ H Z ht) yc_L_many mn_L_40 st_L_many dL_runs_644 rfl rfl (Nat.le_of_ble_eq_true rfl) (by decide) ?_
      refine j_icmp_ge C 701 dL_runs_647 (by decide) (fun h => absurd h (nI_ge hp (by omega))) (fun _ => ?_)
      refine j_aload_n C dL_runs_650 rfl ?_
      refine j_iload C dL_runs_651 rfl ?_
      refine j_iload C dL_runs_653 rfl ?_
      refine j_cSi C (c_L_condition _ ω γ Mf R ⟨g0, g1, g2, g3, g4, g5⟩ H Z ht (show p ≤ 4 by omega)) yc_L_condition mn_L_33 st_L_condition dL_runs_655 rfl rfl (Nat.le_of_ble_eq_true rfl) (by decide) ?_
      refine j_top (nI (lCd S t p)) (by rw [lCd_of Z ht hp]) ?_
      refine j_istore C dL_runs_658 (by rw [hxn]; decide) ?_
      refine j_iload C dL_runs_660 rfl ?_
      refine j_if_eq C 692 dL_runs_662 (by decide) (fun h662 => ?_) (fun h662 => ?_)
      · skip
        refine j_iconst C (nI 0) dL_runs_692 (by decide) ?_
        refine j_top (zAl S V t q (p + 1)) (by simp only [zAl]; first | rw [if_pos h662] | rw [if_neg h662, if_pos h685] | rw [if_neg h662, if_neg h685]) ?_
        refine j_istore C dL_runs_693 (by rw [hxn]; decide) ?_
        first | refine j_iinc1 C dL_runs_695 rfl (by rw [hxn]; decide) ?_ | refine j_iinc C _ dL_runs_695 rfl rfl (by rw [hxn]; decide) ?_
        refine j_goto C 639 dL_runs_698 (by decide) ?_
        refine j_locs [0, 1, 2, 3, 4, 5, 6, 7, 8, 9, 10, 11] rfl ?_
        exact ih2 trivial
      · skip
        refine j_iload C dL_runs_665 rfl ?_
        refine j_aload_n C dL_runs_667 rfl ?_
        refine j_iload C dL_runs_668 rfl ?_
        refine j_iload C dL_runs_670 rfl ?_
        refine j_iconst C (nI 3) dL_runs_672 (by decide) ?_
        refine j_idivN C dL_runs_673 (by omega) (by decide) (by decide) ?_
        refine j_top (nI (zCol S t p)) (by congr 1; unfold lCd; omega) ?_
        refine j_cSi C (c_L_of _ ω γ Mf R ⟨g0, g1, g2, g3, g4, g5⟩ H Z hq hcl) yc_L_of mn_L_25 st_L_of dL_runs_674 rfl rfl (Nat.le_of_ble_eq_true rfl) (by decide) ?_
        refine j_aload C dL_runs_677 rfl ?_
        refine j_iload C dL_runs_679 rfl ?_
        refine j_ialdN C (by assumption) dL_runs_681 (by omega) (by decide) ?_
        refine j_top (V p) (hV p (by omega)) ?_
        refine j_cSi C (c_L_holds _ ω γ Mf R (j := zCol S t p) (o := zOp S t p) (x := S (29 + 5 * q + zCol S t p)) (v := V p) hcl hop.2) yc_L_holds mn_L_17 st_L_holds dL_runs_682 rfl rfl (Nat.le_of_ble_eq_true rfl) (by decide) ?_
        refine j_top (zHold S V t p (S (29 + 5 * q + zCol S t p))) (zHold_l Z ht hp V _) ?_
        refine j_if_eq C 692 dL_runs_685 (by decide) (fun h685 => ?_) (fun h685 => ?_)
        · skip
          refine j_iconst C (nI 0) dL_runs_692 (by decide) ?_
          refine j_top (zAl S V t q (p + 1)) (by simp only [zAl]; first | rw [if_pos h662] | rw [if_neg h662, if_pos h685] | rw [if_neg h662, if_neg h685]) ?_
          refine j_istore C dL_runs_693 (by rw [hxn]; decide) ?_
          first | refine j_iinc1 C dL_runs_695 rfl (by rw [hxn]; decide) ?_ | refine j_iinc C _ dL_runs_695 rfl rfl (by rw [hxn]; decide) ?_
          refine j_goto C 639 dL_runs_698 (by decide) ?_
          refine j_locs [0, 1, 2, 3, 4, 5, 6, 7, 8, 9, 10, 11] rfl ?_
          exact ih2 trivial
        · skip
          refine j_iconst C (nI 1) dL_runs_688 (by decide) ?_
          refine j_goto C 693 dL_runs_689 (by decide) ?_
          refine j_top (zAl S V t q (p + 1)) (by simp only [zAl]; first | rw [if_pos h662] | rw [if_neg h662, if_pos h685] | rw [if_neg h662, if_neg h685]) ?_
          refine j_istore C dL_runs_693 (by rw [hxn]; decide) ?_
          first | refine j_iinc1 C dL_runs_695 rfl (by rw [hxn]; decide) ?_ | refine j_iinc C _ dL_runs_695 rfl rfl (by rw [hxn]; decide) ?_
          refine j_goto C 639 dL_runs_698 (by decide) ?_
          refine j_locs [0, 1, 2, 3, 4, 5, 6, 7, 8, 9, 10, 11] rfl ?_
          exact ih2 trivial
    · skip
      refine j_iload C dL_runs_639 rfl ?_
      refine j_aload_n C dL_runs_641 rfl ?_
      refine j_iload C dL_runs_642 rfl ?_
      refine j_cSi C (c_L_many _ ω γ Mf R ⟨g0, g1, g2, g3, g4, g5⟩ H Z ht) yc_L_many mn_L_40 st_L_many dL_runs_644 rfl rfl (Nat.le_of_ble_eq_true rfl) (by decide) ?_
      refine j_icmp_ge C 701 dL_runs_647 (by decide) (fun _ => ?_) (fun h => absurd (Int32.le_refl _) h)
      refine j_iload C dL_runs_701 rfl ?_
      refine j_iload C dL_runs_703 rfl ?_
      refine j_if_eq C 717 dL_runs_705 (by decide) (fun h705 => ?_) (fun h705 => ?_)
      · skip
        refine j_iconst C (nI 0) dL_runs_717 (by decide) ?_
        refine j_iadd C dL_runs_718 ?_
        refine j_top (sI (zAllF S V t (zN S t)) (q + 1)) (by simp only [sI, zAllF]; first | rw [if_pos h705] | rw [if_neg h705]) ?_
        refine j_istore C dL_runs_719 (by rw [hxn]; decide) ?_
        first | refine j_iinc1 C dL_runs_721 rfl (by rw [hxn]; decide) ?_ | refine j_iinc C _ dL_runs_721 rfl rfl (by rw [hxn]; decide) ?_
        refine j_goto C 625 dL_runs_724 (by decide) ?_
        refine j_locs [0, 1, 2, 3, 4, 5, 6, 7, 8, 9] rfl ?_
        exact ih trivial
      · skip
        refine j_aload_n C dL_runs_708 rfl ?_
        refine j_iload C dL_runs_709 rfl ?_
        refine j_cSi C (c_L_weight _ ω γ Mf R ⟨g0, g1, g2, g3, g4, g5⟩ H Z hq) yc_L_weight mn_L_11 st_L_weight dL_runs_711 rfl rfl (Nat.le_of_ble_eq_true rfl) (by decide) ?_
        refine j_goto C 718 dL_runs_714 (by decide) ?_
        refine j_iadd C dL_runs_718 ?_
        refine j_top (sI (zAllF S V t (zN S t)) (q + 1)) (by simp only [sI, zAllF]; first | rw [if_pos h705] | rw [if_neg h705]) ?_
        refine j_istore C dL_runs_719 (by rw [hxn]; decide) ?_
        first | refine j_iinc1 C dL_runs_721 rfl (by rw [hxn]; decide) ?_ | refine j_iinc C _ dL_runs_721 rfl rfl (by rw [hxn]; decide) ?_
        refine j_goto C 625 dL_runs_724 (by decide) ?_
        refine j_locs [0, 1, 2, 3, 4, 5, 6, 7, 8, 9] rfl ?_
        exact ih trivial
  · skip
    refine j_iload C dL_runs_625 rfl ?_
    refine j_aload_n C dL_runs_627 rfl ?_
    refine j_iconst C (nI 0) dL_runs_628 (by decide) ?_
    refine j_ialdN C (by assumption) dL_runs_629 (by omega) (by decide) ?_
    refine j_top (nI r) (hr0) ?_
    refine j_icmp_ge C 727 dL_runs_630 (by decide) (fun _ => ?_) (fun h => absurd (Int32.le_refl _) h)
    refine j_iload C dL_runs_727 rfl ?_
    exact j_ireturn C E dL_runs_729 (rfl) (by decide) (by decide) (hP)

set_option maxHeartbeats 16000000 in
set_option maxRecDepth 100000 in
theorem c_runs_kept {X : jX} {ω : jW} {γ : jG} {R : jR} {Post : jPost} (C : jC X ω cL_runs yL_runs.cls 5 0 0) (E : jE X ω (some .int) 0 0 Post) (hxn : xn X = 19) {Mc N1 : jM} {d r c n1 b m t w y q : Nat} {own how bb est num : Int32} (g : gD ω γ d) (P : lP5 Mc d r c n1 b N1 m t own how bb) (hq : q < n1) (hnum : num = N1 (m + 1) (367 + 9 * q + 0)) (hB : ∀ p, p < n1 → isB (N1 (m + 1) (367 + 9 * p + 7))) (hb : b ≤ 90000) (hy : y = 9 ∨ y < zN (N1 (m + 1)) t) (hw : jArr ω γ w 12 4) (hwd : d + 6 ≤ w) (hV : ∀ k, k < 4 → Mc w k = N1 (m + 4) k) (K : ∀ (Mf : jM) (n' : Nat), (∀ x, (x < d ∨ d + 6 ≤ x) → Mf x = Mc x) → lA Mf d (gTA N1 m t r y n1 q own est bb num how (m + 1)) r n' c (b + 1) → n' ≤ 8 → gTA N1 m t r y n1 q own est bb num how (m + 1) 4 = nI n' → Post (some (.int (sI (zAllF (gTA N1 m t r y n1 q own est bb num how (m + 1)) (N1 (m + 4)) t (zN (N1 (m + 1)) t)) r))) γ Mf R) : J X ω γ Mc R 0 0 389 [(0, .ref d), (1, .ref (d + 1)), (2, .ref (d + 2)), (3, .ref (d + 3)), (4, .ref (d + 4)), (5, .ref (d + 5)), (6, .int (nI t)), (7, .ref w), (8, .int own), (9, .int (nI q)), (10, .int (nI y)), (11, .int est)] [] := by
  obtain ⟨g0, g1, g2, g3, g4, g5⟩ := id g
  obtain ⟨p1, p7, pr, pk, ps, pp, pl, xk, xr, xs, Z, e4, hn1, ht⟩ := id P
  have hc6 := Z.2.2.2.2.1
  have hr30 := Z.2.1
  have hn4 := lN4 Z ht
  have ht6 : t < 6 := by omega
  have hb0 : b ≤ 100000 := by omega
  have eo : ∀ j, j < 367 → ¬ (j = 4 ∨ j = 6 ∨ j = 7 ∨ j = 9 ∨ j = 10 ∨ (21 ≤ j ∧ j ≤ 28) ∨ j = 307 + 10 * t + 9) → gTA N1 m t r y n1 q own est bb num how (m + 1) j = N1 (m + 1) j := fun j h1 h2 => gTA_s N1 h1 h2
  have ZA : zRd (gTA N1 m t r y n1 q own est bb num how (m + 1)) r c := zRd_k2 Z (fun j hj => eo j (by omega) (by omega)) (fun t2 ht2 j h1 h2 => eo j (by omega) (by omega))
  have eN : zN (gTA N1 m t r y n1 q own est bb num how (m + 1)) t = zN (N1 (m + 1)) t := by unfold zN; rw [eo _ (by omega) (by omega)]
  have fin : ∀ (Mf : jM) (n' : Nat), (∀ x, (x < d ∨ d + 6 ≤ x) → Mf x = Mc x) → lA Mf d (gTA N1 m t r y n1 q own est bb num how (m + 1)) r n' c (b + 1) → n' ≤ 8 → gTA N1 m t r y n1 q own est bb num how (m + 1) 4 = nI n' → J X ω γ Mf R 0 0 619 [(0, .ref d), (1, .ref (d + 1)), (2, .ref (d + 2)), (3, .ref (d + 3)), (4, .ref (d + 4)), (5, .ref (d + 5)), (6, .int (nI t)), (7, .ref w)] [] := fun Mf n' h1 h2 h3 h4 => c_runs_sum C E hxn (V := N1 (m + 4)) g (lRd_of h2) ZA ht hw (fun k hk => by rw [h1 w (Or.inr hwd)]; exact hV k hk) (by rw [eN]; exact K Mf n' h1 h2 h3 h4)
  refine j_aload_n C dL_runs_389 rfl ?_
  refine j_bipush C (nI 6) dL_runs_390 (by decide) ?_
  refine j_dup2 C dL_runs_392 rfl rfl ?_
  refine j_ialdN C (by assumption) dL_runs_393 (by omega) (by decide) ?_
  refine j_top (N1 (m + 1) 6) (p1 6 (by decide) (by decide)) ?_
  refine j_iconst C (nI 1) dL_runs_394 (by decide) ?_
  first | with_reducible refine j_iaddN C dL_runs_395 ?_ | refine j_iadd C dL_runs_395 ?_
  refine j_iastN C (by assumption) dL_runs_396 (by omega) (by decide) ?_
  refine j_aload_n C dL_runs_397 rfl ?_
  refine j_iconst C (nI 2) dL_runs_398 (by decide) ?_
  refine j_iload C dL_runs_399 rfl ?_
  first | with_reducible refine j_imulN C dL_runs_401 ?_ | refine j_imul C dL_runs_401 ?_
  refine j_iconst C (nI 1) dL_runs_402 (by decide) ?_
  first | with_reducible refine j_iaddN C dL_runs_403 ?_ | refine j_iadd C dL_runs_403 ?_
  refine j_dup2 C dL_runs_404 rfl rfl ?_
  refine j_ialdN C (by assumption) dL_runs_405 (by omega) (by decide) ?_
  refine j_top (N1 (m + 1) (307 + 10 * t + 9)) (by rw [jup_row _ _ (by omega)]; exact (ps t ht).2) ?_
  refine j_iconst C (nI 1) dL_runs_406 (by decide) ?_
  first | with_reducible refine j_iaddN C dL_runs_407 ?_ | refine j_iadd C dL_runs_407 ?_
  refine j_iastN C (by assumption) dL_runs_408 (by omega) (by decide) ?_
  obtain ⟨M5, h5⟩ : ∃ M5, M5 = jup (jup Mc d 6 (N1 (m + 1) 6 + nI 1)) (d + 3) (2 * t + 1) (N1 (m + 1) (307 + 10 * t + 9) + nI 1) := ⟨_, rfl⟩
  refine j_mem M5 h5.symm ?_
  have m5g : ∀ i, i ≠ 6 → M5 d i = Mc d i := fun i hi => by rw [h5, jup_row _ _ (by omega), jup_nk _ _ hi]
  have m5r : ∀ x, x ≠ d → x ≠ d + 3 → M5 x = Mc x := fun x h1 h2 => by rw [h5, jup_row _ _ h2, jup_row _ _ h1]
  have e5 : ∀ j, ¬ (j = 6 ∨ j = 7 ∨ j = 307 + 10 * t + 9) → (gT1 N1 m t bb (m + 1)) j = N1 (m + 1) j := fun j hj => gT1_s N1 (by omega) (by omega) (by omega)
  have Z5 : zRd (gT1 N1 m t bb (m + 1)) r c := zRd_k2 Z (fun j hj => e5 j (by omega)) (fun t2 ht2 j h1 h2 => e5 j (by omega))
  have H5 : lRd M5 d (gT1 N1 m t bb (m + 1)) r c := ⟨fun k hk => by rw [m5g k (by omega), e5 k (by omega)]; exact p1 k (by omega) (by omega), fun k hk => by rw [m5r _ (by omega) (by omega), lPk_c (S := N1 (m + 1)) (fun j hj => e5 _ (by omega))]; exact pr k hk, fun i hi => by rw [m5r _ (by omega) (by omega), e5 _ (by omega)]; exact pk i hi, fun t2 ht2 => by rw [h5, jup_nk _ _ (by omega), jup_row _ _ (by omega), lCode_c (S := N1 (m + 1)) (zN4_of Z t2 ht2) (fun j h1 h2 => e5 j (by omega))]; exact (ps t2 ht2).1⟩
  have hV5 : ∀ k, k < 4 → M5 w k = gT1 N1 m t bb (m + 4) k := fun k hk => by rw [m5r _ (by omega) (by omega), hV k hk]; unfold gT1; rw [jup_row _ _ (by omega), jup_row _ _ (by omega), jup_row _ _ (by omega)]
  have hy5 : y = 9 ∨ y < zN (gT1 N1 m t bb (m + 1)) t := by rw [show zN (gT1 N1 m t bb (m + 1)) t = zN (N1 (m + 1)) t by unfold zN; rw [e5 _ (by omega)]]; exact hy
  refine j_aload_n C dL_runs_409 rfl ?_
  refine j_aload_n C dL_runs_410 rfl ?_
  refine j_aload_n C dL_runs_411 rfl ?_
  refine j_aload_n C dL_runs_412 rfl ?_
  refine j_iload C dL_runs_413 rfl ?_
  refine j_aload C dL_runs_415 rfl ?_
  refine j_iload C dL_runs_417 rfl ?_
  refine j_iconst C (nI 1) dL_runs_419 (by decide) ?_
  refine j_cSi C (c_L_cost1 _ ω γ M5 R ⟨g0, g1, g2, g3, g4, g5⟩ H5 Z5 hw hV5 ht hy5) yc_L_cost mn_L_43 st_L_cost dL_runs_420 rfl rfl (Nat.le_of_ble_eq_true rfl) (by decide) ?_
  refine j_top (gCo N1 m t r y bb) rfl ?_
  refine j_istore C dL_runs_423 (by rw [hxn]; decide) ?_
  refine j_iload C dL_runs_425 rfl ?_
  refine j_aload_n C dL_runs_427 rfl ?_
  refine j_bipush C (nI 13) dL_runs_428 (by decide) ?_
  refine j_ialdN C (by assumption) dL_runs_430 (by omega) (by decide) ?_
  refine j_top (N1 (m + 1) 13) ((m5g 13 (by decide)).trans (p1 13 (by decide) (by decide))) ?_
  refine j_iload C dL_runs_431 rfl ?_
  refine j_imul C dL_runs_433 ?_
  refine j_icmp_le C 441 dL_runs_434 (by decide) (fun h434 => ?_) (fun h434 => ?_)
  · skip
    have es : gS (gT2 N1 m t r y own est bb num how) m (gCo N1 m t r y bb) est = nI 0 := by unfold gS; rw [gT2_s N1 (by omega) (by omega) (by omega) (by omega)]; exact if_pos h434
    refine j_iconst C (nI 0) dL_runs_441 (by decide) ?_
    refine j_istore C dL_runs_442 (by rw [hxn]; decide) ?_
    refine j_aload C dL_runs_444 rfl ?_
    refine j_bipush C (nI 6) dL_runs_446 (by decide) ?_
    refine j_iload C dL_runs_448 rfl ?_
    refine j_if_ge C 458 dL_runs_450 (by decide) (fun _ => ?_) (fun h => absurd (nI_pos' (by omega)) h)
    refine j_aload C dL_runs_458 rfl ?_
    refine j_bipush C (nI 8) dL_runs_460 (by decide) ?_
    refine j_iload C dL_runs_462 rfl ?_
    first | with_reducible refine j_imulN C dL_runs_464 ?_ | refine j_imul C dL_runs_464 ?_
    refine j_ialdN C (by assumption) dL_runs_465 (by omega) (by decide) ?_
    refine j_top num (by rw [m5r _ (by omega) (by omega), hnum]; exact (pp q hq).1 0 (by decide)) ?_
    refine j_iastN C (by assumption) dL_runs_466 (by omega) (by decide) ?_
    refine j_aload C dL_runs_467 rfl ?_
    refine j_bipush C (nI 7) dL_runs_469 (by decide) ?_
    refine j_iload C dL_runs_471 rfl ?_
    refine j_iastN C (by assumption) dL_runs_473 (by omega) (by decide) ?_
    refine j_aload C dL_runs_474 rfl ?_
    refine j_bipush C (nI 8) dL_runs_476 (by decide) ?_
    refine j_iload C dL_runs_478 rfl ?_
    refine j_iastN C (by assumption) dL_runs_480 (by omega) (by decide) ?_
    refine j_aload C dL_runs_481 rfl ?_
    refine j_bipush C (nI 9) dL_runs_483 (by decide) ?_
    refine j_iload C dL_runs_485 rfl ?_
    refine j_iastN C (by assumption) dL_runs_487 (by omega) (by decide) ?_
    refine j_aload C dL_runs_488 rfl ?_
    refine j_bipush C (nI 11) dL_runs_490 (by decide) ?_
    refine j_iload C dL_runs_492 rfl ?_
    refine j_if_eq C 501 dL_runs_494 (by decide) (fun _ => ?_) (fun h => absurd (rfl) h)
    refine j_iconst C (nI 0) dL_runs_501 (by decide) ?_
    refine j_iastN C (by assumption) dL_runs_502 (by omega) (by decide) ?_
    obtain ⟨M6, h6⟩ : ∃ M6, M6 = jup (jup (jup (jup (jup M5 (d + 5) 6 num) (d + 5) 7 (nI y)) (d + 5) 8 est) (d + 5) 9 (gCo N1 m t r y bb)) (d + 5) 11 (nI 0) := ⟨_, rfl⟩
    refine j_mem M6 h6.symm ?_
    refine j_aload_n C dL_runs_503 rfl ?_
    refine j_bipush C (nI 9) dL_runs_504 (by decide) ?_
    refine j_dup2 C dL_runs_506 rfl rfl ?_
    refine j_ialdN C (by assumption) dL_runs_507 (by omega) (by decide) ?_
    refine j_top (N1 (m + 1) 9) (by rw [h6, jup_row _ _ (by omega), jup_row _ _ (by omega), jup_row _ _ (by omega), jup_row _ _ (by omega), jup_row _ _ (by omega), m5g 9 (by decide)]; exact p1 9 (by decide) (by decide)) ?_
    refine j_iload C dL_runs_508 rfl ?_
    refine j_if_eq C 517 dL_runs_510 (by decide) (fun _ => ?_) (fun h => absurd (rfl) h)
    refine j_iconst C (nI 0) dL_runs_517 (by decide) ?_
    first | with_reducible refine j_iaddN C dL_runs_518 ?_ | refine j_iadd C dL_runs_518 ?_
    refine j_iastN C (by assumption) dL_runs_519 (by omega) (by decide) ?_
    obtain ⟨M7, h7⟩ : ∃ M7, M7 = jup M6 d 9 (N1 (m + 1) 9 + nI 0) := ⟨_, rfl⟩
    refine j_mem M7 h7.symm ?_
    have A7 := t5_7 P h5 h6 h7 hb0
    have f7 : ∀ x, (x < d ∨ d + 6 ≤ x) → M7 x = Mc x := fun x hx => by rw [h7, jup_row _ _ (by omega), h6, jup_row _ _ (by omega), jup_row _ _ (by omega), jup_row _ _ (by omega), jup_row _ _ (by omega), jup_row _ _ (by omega), h5, jup_row _ _ (by omega), jup_row _ _ (by omega)]
    refine j_iload C dL_runs_520 rfl ?_
    refine j_if_lt C 619 dL_runs_522 (by decide) (fun h => absurd h (nI_pos (by omega))) (fun _ => ?_)
    refine j_aload C dL_runs_525 rfl ?_
    refine j_bipush C (nI 8) dL_runs_527 (by decide) ?_
    refine j_iload C dL_runs_529 rfl ?_
    first | with_reducible refine j_imulN C dL_runs_531 ?_ | refine j_imul C dL_runs_531 ?_
    refine j_iconst C (nI 5) dL_runs_532 (by decide) ?_
    first | with_reducible refine j_iaddN C dL_runs_533 ?_ | refine j_iadd C dL_runs_533 ?_
    refine j_dup2 C dL_runs_534 rfl rfl ?_
    refine j_ialdN C (by assumption) dL_runs_535 (by omega) (by decide) ?_
    refine j_top ((gT3v (N1 (m + 1)) t y own est bb num how (gCo N1 m t r y bb) (nI 0)) (367 + 9 * q + 5)) ((A7.2.2.2.2.1 q hq).1 5 (by decide)) ?_
    refine j_iconst C (nI 1) dL_runs_536 (by decide) ?_
    first | with_reducible refine j_iaddN C dL_runs_537 ?_ | refine j_iadd C dL_runs_537 ?_
    refine j_iastN C (by assumption) dL_runs_538 (by omega) (by decide) ?_
    refine j_aload C dL_runs_539 rfl ?_
    refine j_bipush C (nI 8) dL_runs_541 (by decide) ?_
    refine j_iload C dL_runs_543 rfl ?_
    first | with_reducible refine j_imulN C dL_runs_545 ?_ | refine j_imul C dL_runs_545 ?_
    refine j_bipush C (nI 6) dL_runs_546 (by decide) ?_
    first | with_reducible refine j_iaddN C dL_runs_548 ?_ | refine j_iadd C dL_runs_548 ?_
    refine j_dup2 C dL_runs_549 rfl rfl ?_
    refine j_ialdN C (by assumption) dL_runs_550 (by omega) (by decide) ?_
    refine j_top (M7 (d + 4) (8 * q + 6)) (jup_nk _ _ (by omega)) ?_
    refine j_iload C dL_runs_551 rfl ?_
    refine j_if_eq C 560 dL_runs_553 (by decide) (fun _ => ?_) (fun h => absurd (rfl) h)
    refine j_iconst C (nI 0) dL_runs_560 (by decide) ?_
    refine j_iadd C dL_runs_561 ?_
    refine j_iastN C (by assumption) dL_runs_562 (by omega) (by decide) ?_
    refine j_aload C dL_runs_563 rfl ?_
    refine j_bipush C (nI 8) dL_runs_565 (by decide) ?_
    refine j_iload C dL_runs_567 rfl ?_
    first | with_reducible refine j_imulN C dL_runs_569 ?_ | refine j_imul C dL_runs_569 ?_
    refine j_bipush C (nI 7) dL_runs_570 (by decide) ?_
    first | with_reducible refine j_iaddN C dL_runs_572 ?_ | refine j_iadd C dL_runs_572 ?_
    refine j_aload_n C dL_runs_573 rfl ?_
    refine j_bipush C (nI 6) dL_runs_574 (by decide) ?_
    refine j_ialdN C (by assumption) dL_runs_576 (by omega) (by decide) ?_
    refine j_top ((gT3v (N1 (m + 1)) t y own est bb num how (gCo N1 m t r y bb) (nI 0)) 6) (by rw [jup_row _ _ (by omega), jup_row _ _ (by omega)]; exact A7.1 6 (by decide)) ?_
    refine j_iastN C (by assumption) dL_runs_577 (by omega) (by decide) ?_
    obtain ⟨M8, h8⟩ : ∃ M8, M8 = jup (jup (jup M7 (d + 4) (8 * q + 5) ((gT3v (N1 (m + 1)) t y own est bb num how (gCo N1 m t r y bb) (nI 0)) (367 + 9 * q + 5) + nI 1)) (d + 4) (8 * q + 6) (M7 (d + 4) (8 * q + 6) + nI 0)) (d + 4) (8 * q + 7) ((gT3v (N1 (m + 1)) t y own est bb num how (gCo N1 m t r y bb) (nI 0)) 6) := ⟨_, rfl⟩
    refine j_mem M8 h8.symm ?_
    have z7 : ∀ t2, t2 < c → zN (gT3v (N1 (m + 1)) t y own est bb num how (gCo N1 m t r y bb) (nI 0)) t2 = zN (N1 (m + 1)) t2 := fun t2 ht2 => by unfold zN; rw [gT3v_o (by omega)]
    have A8 : lA M8 d ((gT4 (gT3 (gT2 N1 m t r y own est bb num how) m (nI 0)) m q (nI 0)) (m + 1)) r n1 c (b + 1) := t5_8 A7 (xSp_c xs (Nat.le_refl b) (fun j h1 h2 => gT3v_o (by omega))) hr30 hc6 (fun t2 ht2 => by rw [z7 t2 ht2]; exact (lN4 Z ht2).2.1) hq hn1 (Or.inl rfl) (by decide) h8 (fun j => gT3_val N1 m ht6 j)
    have f8 : ∀ x, (x < d ∨ d + 6 ≤ x) → M8 x = Mc x := fun x hx => by rw [h8, jup_row _ _ (by omega), jup_row _ _ (by omega), jup_row _ _ (by omega)]; exact f7 x hx
    have e48 : (gT4 (gT3 (gT2 N1 m t r y own est bb num how) m (nI 0)) m q (nI 0)) (m + 1) 4 = nI n1 := by rw [gT4_val, if_neg (by omega), if_neg (by omega), if_neg (by omega), gT3_val N1 m ht6, gT3v_o (by omega)]; exact e4
    refine j_iload C dL_runs_578 rfl ?_
    refine j_if_eq C 619 dL_runs_580 (by decide) (fun _ => ?_) (fun h => absurd (rfl) h)
    refine j_locs [0, 1, 2, 3, 4, 5, 6, 7] rfl ?_
    have eG : gTA N1 m t r y n1 q own est bb num how = (gT4 (gT3 (gT2 N1 m t r y own est bb num how) m (nI 0)) m q (nI 0)) := by unfold gTA gEnd; rw [es, if_pos rfl]
    exact fin M8 n1 f8 (by rw [eG]; exact A8) (by omega) (by rw [eG]; exact e48)
  · skip
    have es : gS (gT2 N1 m t r y own est bb num how) m (gCo N1 m t r y bb) est = nI 1 := by unfold gS; rw [gT2_s N1 (by omega) (by omega) (by omega) (by omega)]; exact if_neg h434
    refine j_iconst C (nI 1) dL_runs_437 (by decide) ?_
    refine j_goto C 442 dL_runs_438 (by decide) ?_
    refine j_istore C dL_runs_442 (by rw [hxn]; decide) ?_
    refine j_aload C dL_runs_444 rfl ?_
    refine j_bipush C (nI 6) dL_runs_446 (by decide) ?_
    refine j_iload C dL_runs_448 rfl ?_
    refine j_if_ge C 458 dL_runs_450 (by decide) (fun _ => ?_) (fun h => absurd (nI_pos' (by omega)) h)
    refine j_aload C dL_runs_458 rfl ?_
    refine j_bipush C (nI 8) dL_runs_460 (by decide) ?_
    refine j_iload C dL_runs_462 rfl ?_
    first | with_reducible refine j_imulN C dL_runs_464 ?_ | refine j_imul C dL_runs_464 ?_
    refine j_ialdN C (by assumption) dL_runs_465 (by omega) (by decide) ?_
    refine j_top num (by rw [m5r _ (by omega) (by omega), hnum]; exact (pp q hq).1 0 (by decide)) ?_
    refine j_iastN C (by assumption) dL_runs_466 (by omega) (by decide) ?_
    refine j_aload C dL_runs_467 rfl ?_
    refine j_bipush C (nI 7) dL_runs_469 (by decide) ?_
    refine j_iload C dL_runs_471 rfl ?_
    refine j_iastN C (by assumption) dL_runs_473 (by omega) (by decide) ?_
    refine j_aload C dL_runs_474 rfl ?_
    refine j_bipush C (nI 8) dL_runs_476 (by decide) ?_
    refine j_iload C dL_runs_478 rfl ?_
    refine j_iastN C (by assumption) dL_runs_480 (by omega) (by decide) ?_
    refine j_aload C dL_runs_481 rfl ?_
    refine j_bipush C (nI 9) dL_runs_483 (by decide) ?_
    refine j_iload C dL_runs_485 rfl ?_
    refine j_iastN C (by assumption) dL_runs_487 (by omega) (by decide) ?_
    refine j_aload C dL_runs_488 rfl ?_
    refine j_bipush C (nI 11) dL_runs_490 (by decide) ?_
    refine j_iload C dL_runs_492 rfl ?_
    refine j_if_eq C 501 dL_runs_494 (by decide) (fun h => absurd h (by decide)) (fun _ => ?_)
    refine j_iconst C (nI 1) dL_runs_497 (by decide) ?_
    refine j_goto C 502 dL_runs_498 (by decide) ?_
    refine j_iastN C (by assumption) dL_runs_502 (by omega) (by decide) ?_
    obtain ⟨M6, h6⟩ : ∃ M6, M6 = jup (jup (jup (jup (jup M5 (d + 5) 6 num) (d + 5) 7 (nI y)) (d + 5) 8 est) (d + 5) 9 (gCo N1 m t r y bb)) (d + 5) 11 (nI 1) := ⟨_, rfl⟩
    refine j_mem M6 h6.symm ?_
    refine j_aload_n C dL_runs_503 rfl ?_
    refine j_bipush C (nI 9) dL_runs_504 (by decide) ?_
    refine j_dup2 C dL_runs_506 rfl rfl ?_
    refine j_ialdN C (by assumption) dL_runs_507 (by omega) (by decide) ?_
    refine j_top (N1 (m + 1) 9) (by rw [h6, jup_row _ _ (by omega), jup_row _ _ (by omega), jup_row _ _ (by omega), jup_row _ _ (by omega), jup_row _ _ (by omega), m5g 9 (by decide)]; exact p1 9 (by decide) (by decide)) ?_
    refine j_iload C dL_runs_508 rfl ?_
    refine j_if_eq C 517 dL_runs_510 (by decide) (fun h => absurd h (by decide)) (fun _ => ?_)
    refine j_iconst C (nI 1) dL_runs_513 (by decide) ?_
    refine j_goto C 518 dL_runs_514 (by decide) ?_
    first | with_reducible refine j_iaddN C dL_runs_518 ?_ | refine j_iadd C dL_runs_518 ?_
    refine j_iastN C (by assumption) dL_runs_519 (by omega) (by decide) ?_
    obtain ⟨M7, h7⟩ : ∃ M7, M7 = jup M6 d 9 (N1 (m + 1) 9 + nI 1) := ⟨_, rfl⟩
    refine j_mem M7 h7.symm ?_
    have A7 := t5_7 P h5 h6 h7 hb0
    have f7 : ∀ x, (x < d ∨ d + 6 ≤ x) → M7 x = Mc x := fun x hx => by rw [h7, jup_row _ _ (by omega), h6, jup_row _ _ (by omega), jup_row _ _ (by omega), jup_row _ _ (by omega), jup_row _ _ (by omega), jup_row _ _ (by omega), h5, jup_row _ _ (by omega), jup_row _ _ (by omega)]
    refine j_iload C dL_runs_520 rfl ?_
    refine j_if_lt C 619 dL_runs_522 (by decide) (fun h => absurd h (nI_pos (by omega))) (fun _ => ?_)
    refine j_aload C dL_runs_525 rfl ?_
    refine j_bipush C (nI 8) dL_runs_527 (by decide) ?_
    refine j_iload C dL_runs_529 rfl ?_
    first | with_reducible refine j_imulN C dL_runs_531 ?_ | refine j_imul C dL_runs_531 ?_
    refine j_iconst C (nI 5) dL_runs_532 (by decide) ?_
    first | with_reducible refine j_iaddN C dL_runs_533 ?_ | refine j_iadd C dL_runs_533 ?_
    refine j_dup2 C dL_runs_534 rfl rfl ?_
    refine j_ialdN C (by assumption) dL_runs_535 (by omega) (by decide) ?_
    refine j_top ((gT3v (N1 (m + 1)) t y own est bb num how (gCo N1 m t r y bb) (nI 1)) (367 + 9 * q + 5)) ((A7.2.2.2.2.1 q hq).1 5 (by decide)) ?_
    refine j_iconst C (nI 1) dL_runs_536 (by decide) ?_
    first | with_reducible refine j_iaddN C dL_runs_537 ?_ | refine j_iadd C dL_runs_537 ?_
    refine j_iastN C (by assumption) dL_runs_538 (by omega) (by decide) ?_
    refine j_aload C dL_runs_539 rfl ?_
    refine j_bipush C (nI 8) dL_runs_541 (by decide) ?_
    refine j_iload C dL_runs_543 rfl ?_
    first | with_reducible refine j_imulN C dL_runs_545 ?_ | refine j_imul C dL_runs_545 ?_
    refine j_bipush C (nI 6) dL_runs_546 (by decide) ?_
    first | with_reducible refine j_iaddN C dL_runs_548 ?_ | refine j_iadd C dL_runs_548 ?_
    refine j_dup2 C dL_runs_549 rfl rfl ?_
    refine j_ialdN C (by assumption) dL_runs_550 (by omega) (by decide) ?_
    refine j_top (M7 (d + 4) (8 * q + 6)) (jup_nk _ _ (by omega)) ?_
    refine j_iload C dL_runs_551 rfl ?_
    refine j_if_eq C 560 dL_runs_553 (by decide) (fun h => absurd h (by decide)) (fun _ => ?_)
    refine j_iconst C (nI 2) dL_runs_556 (by decide) ?_
    refine j_goto C 561 dL_runs_557 (by decide) ?_
    refine j_iadd C dL_runs_561 ?_
    refine j_iastN C (by assumption) dL_runs_562 (by omega) (by decide) ?_
    refine j_aload C dL_runs_563 rfl ?_
    refine j_bipush C (nI 8) dL_runs_565 (by decide) ?_
    refine j_iload C dL_runs_567 rfl ?_
    first | with_reducible refine j_imulN C dL_runs_569 ?_ | refine j_imul C dL_runs_569 ?_
    refine j_bipush C (nI 7) dL_runs_570 (by decide) ?_
    first | with_reducible refine j_iaddN C dL_runs_572 ?_ | refine j_iadd C dL_runs_572 ?_
    refine j_aload_n C dL_runs_573 rfl ?_
    refine j_bipush C (nI 6) dL_runs_574 (by decide) ?_
    refine j_ialdN C (by assumption) dL_runs_576 (by omega) (by decide) ?_
    refine j_top ((gT3v (N1 (m + 1)) t y own est bb num how (gCo N1 m t r y bb) (nI 1)) 6) (by rw [jup_row _ _ (by omega), jup_row _ _ (by omega)]; exact A7.1 6 (by decide)) ?_
    refine j_iastN C (by assumption) dL_runs_577 (by omega) (by decide) ?_
    obtain ⟨M8, h8⟩ : ∃ M8, M8 = jup (jup (jup M7 (d + 4) (8 * q + 5) ((gT3v (N1 (m + 1)) t y own est bb num how (gCo N1 m t r y bb) (nI 1)) (367 + 9 * q + 5) + nI 1)) (d + 4) (8 * q + 6) (M7 (d + 4) (8 * q + 6) + nI 2)) (d + 4) (8 * q + 7) ((gT3v (N1 (m + 1)) t y own est bb num how (gCo N1 m t r y bb) (nI 1)) 6) := ⟨_, rfl⟩
    refine j_mem M8 h8.symm ?_
    have z7 : ∀ t2, t2 < c → zN (gT3v (N1 (m + 1)) t y own est bb num how (gCo N1 m t r y bb) (nI 1)) t2 = zN (N1 (m + 1)) t2 := fun t2 ht2 => by unfold zN; rw [gT3v_o (by omega)]
    have A8 : lA M8 d ((gT4 (gT3 (gT2 N1 m t r y own est bb num how) m (nI 1)) m q (nI 1)) (m + 1)) r n1 c (b + 1) := t5_8 A7 (xSp_c xs (Nat.le_refl b) (fun j h1 h2 => gT3v_o (by omega))) hr30 hc6 (fun t2 ht2 => by rw [z7 t2 ht2]; exact (lN4 Z ht2).2.1) hq hn1 (Or.inr rfl) (by decide) h8 (fun j => gT3_val N1 m ht6 j)
    have f8 : ∀ x, (x < d ∨ d + 6 ≤ x) → M8 x = Mc x := fun x hx => by rw [h8, jup_row _ _ (by omega), jup_row _ _ (by omega), jup_row _ _ (by omega)]; exact f7 x hx
    have e48 : (gT4 (gT3 (gT2 N1 m t r y own est bb num how) m (nI 1)) m q (nI 1)) (m + 1) 4 = nI n1 := by rw [gT4_val, if_neg (by omega), if_neg (by omega), if_neg (by omega), gT3_val N1 m ht6, gT3v_o (by omega)]; exact e4
    have P8 : zPn ((gT4 (gT3 (gT2 N1 m t r y own est bb num how) m (nI 1)) m q (nI 1)) (m + 1)) n1 := fun p hp => by obtain ⟨⟨s8, s81, s82⟩, -⟩ := A8.2.2.2.2.2.2.2.2 p hp; exact ⟨by rw [gT4_val, if_neg (by omega), if_neg (by omega), if_neg (by omega), gT3_val N1 m ht6, gT3v_o (by omega)]; exact hB p hp, s8, by omega, s82⟩
    obtain ⟨u8, s8, hu8, hs8, eu8, es8, e68⟩ := lPl_6 A8.2.2.2.2.1 P8 hq
    refine j_iload C dL_runs_578 rfl ?_
    refine j_if_eq C 619 dL_runs_580 (by decide) (fun h => absurd h (by decide)) (fun _ => ?_)
    refine j_aload C dL_runs_583 rfl ?_
    refine j_bipush C (nI 8) dL_runs_585 (by decide) ?_
    refine j_iload C dL_runs_587 rfl ?_
    first | with_reducible refine j_imulN C dL_runs_589 ?_ | refine j_imul C dL_runs_589 ?_
    refine j_bipush C (nI 6) dL_runs_590 (by decide) ?_
    first | with_reducible refine j_iaddN C dL_runs_592 ?_ | refine j_iadd C dL_runs_592 ?_
    refine j_ialdN C (by assumption) dL_runs_593 (by omega) (by decide) ?_
    refine j_top (nI (u8 + 2 * s8)) e68 ?_
    refine j_iconst C (nI 2) dL_runs_594 (by decide) ?_
    refine j_idivN C dL_runs_595 (by omega) (by decide) (by decide) ?_
    refine j_top (nI s8) (by congr 1; omega) ?_
    refine j_aload_n C dL_runs_596 rfl ?_
    refine j_bipush C (nI 14) dL_runs_597 (by decide) ?_
    refine j_ialdN C (by assumption) dL_runs_599 (by omega) (by decide) ?_
    refine j_top ((gT4 (gT3 (gT2 N1 m t r y own est bb num how) m (nI 1)) m q (nI 1)) (m + 1) 14) (A8.1 14 (by decide)) ?_
    refine j_icmp_lt C 619 dL_runs_600 (by decide) (fun h600 => ?_) (fun h600 => ?_)
    · skip
      have eG0 : gTA N1 m t r y n1 q own est bb num how = gT5 (gT4 (gT3 (gT2 N1 m t r y own est bb num how) m (nI 1)) m q (nI 1)) m n1 q := by unfold gTA gEnd; rw [es, if_neg (by decide)]
      have eG : gTA N1 m t r y n1 q own est bb num how = (gT4 (gT3 (gT2 N1 m t r y own est bb num how) m (nI 1)) m q (nI 1)) := by rw [eG0, gT5, es8, if_pos h600]
      refine j_locs [0, 1, 2, 3, 4, 5, 6, 7] rfl ?_
      skip
      exact fin M8 n1 f8 (by rw [eG]; exact A8) (by omega) (by rw [eG]; exact e48)
    · skip
      have eG0 : gTA N1 m t r y n1 q own est bb num how = gT5 (gT4 (gT3 (gT2 N1 m t r y own est bb num how) m (nI 1)) m q (nI 1)) m n1 q := by unfold gTA gEnd; rw [es, if_neg (by decide)]
      have eG : gTA N1 m t r y n1 q own est bb num how = jup (mOut (gT4 (gT3 (gT2 N1 m t r y own est bb num how) m (nI 1)) m q (nI 1)) m n1 q) (m + 1) 10 (mOut (gT4 (gT3 (gT2 N1 m t r y own est bb num how) m (nI 1)) m q (nI 1)) m n1 q (m + 1) 10 + nI 1) := by rw [eG0, gT5, es8, if_neg (Int32.not_lt.mpr (Int32.not_lt.mp h600))]
      refine j_aload_n C dL_runs_603 rfl ?_
      refine j_aload C dL_runs_604 rfl ?_
      refine j_iload C dL_runs_606 rfl ?_
      refine j_cSv C (c_L_takeOut _ ω γ M8 R (S := N1 (m + 1)) ⟨g0, g1, g2, g3, g4, g5⟩ ((A8.1 4 (by decide)).trans e48) hn1 hq) yc_L_takeOut mn_L_58 st_L_takeOut dL_runs_608 rfl rfl (Nat.le_of_ble_eq_true rfl) (by decide) ?_
      refine j_aload_n C dL_runs_611 rfl ?_
      refine j_bipush C (nI 10) dL_runs_612 (by decide) ?_
      refine j_dup2 C dL_runs_614 rfl rfl ?_
      refine j_ialdN C (by assumption) dL_runs_615 (by omega) (by decide) ?_
      refine j_top ((gT4 (gT3 (gT2 N1 m t r y own est bb num how) m (nI 1)) m q (nI 1)) (m + 1) 10) ((lOut_g _ (by decide)).trans (A8.1 10 (by decide))) ?_
      refine j_iconst C (nI 1) dL_runs_616 (by decide) ?_
      first | with_reducible refine j_iaddN C dL_runs_617 ?_ | refine j_iadd C dL_runs_617 ?_
      refine j_iastN C (by assumption) dL_runs_618 (by omega) (by decide) ?_
      refine j_locs [0, 1, 2, 3, 4, 5, 6, 7] rfl ?_
      skip
      exact fin (jup (lOut M8 d n1 q) d 10 ((gT4 (gT3 (gT2 N1 m t r y own est bb num how) m (nI 1)) m q (nI 1)) (m + 1) 10 + nI 1)) (n1 - 1) (fun x hx => by rw [jup_row _ _ (by omega), lOut_o _ (by omega) (by omega)]; exact f8 x hx) (by rw [eG]; exact t5_9 A8 hr30 hc6 (fun t2 ht2 => by rw [show zN ((gT4 (gT3 (gT2 N1 m t r y own est bb num how) m (nI 1)) m q (nI 1)) (m + 1)) t2 = zN (N1 (m + 1)) t2 by unfold zN; rw [gT4_val, if_neg (by omega), if_neg (by omega), if_neg (by omega), gT3_val N1 m ht6, gT3v_o (by omega)]]; exact (lN4 Z ht2).2.1) hq hn1) (by omega) (by rw [eG]; exact (jup_nk _ _ (by decide)).trans (mOut_n _ _ _ _))

set_option maxHeartbeats 16000000 in
set_option maxRecDepth 100000 in
theorem c_runs_not {X : jX} {ω : jW} {γ : jG} {R : jR} {Post : jPost} (C : jC X ω cL_runs yL_runs.cls 5 0 0) (E : jE X ω (some .int) 0 0 Post) (hxn : xn X = 19) {Mc N1 : jM} {d r c n1 b m t w y : Nat} {own how bb est : Int32} (g : gD ω γ d) (P : lP5 Mc d r c n1 b N1 m t own how bb) (hB : ∀ p, p < n1 → isB (N1 (m + 1) (367 + 9 * p + 7))) (hb : b ≤ 90000) (hy : y = 9 ∨ y < zN (N1 (m + 1)) t) (hw : jArr ω γ w 12 4) (hwd : d + 6 ≤ w) (hV : ∀ k, k < 4 → Mc w k = N1 (m + 4) k) (K : ∀ (Mf : jM) (n' : Nat), (∀ x, (x < d ∨ d + 6 ≤ x) → Mf x = Mc x) → lA Mf d (gTB N1 m t r y own est bb (-4) how (m + 1)) r n' c (b + 1) → n' ≤ 8 → gTB N1 m t r y own est bb (-4) how (m + 1) 4 = nI n' → Post (some (.int (sI (zAllF (gTB N1 m t r y own est bb (-4) how (m + 1)) (N1 (m + 4)) t (zN (N1 (m + 1)) t)) r))) γ Mf R) : J X ω γ Mc R 0 0 389 [(0, .ref d), (1, .ref (d + 1)), (2, .ref (d + 2)), (3, .ref (d + 3)), (4, .ref (d + 4)), (5, .ref (d + 5)), (6, .int (nI t)), (7, .ref w), (8, .int own), (9, .int (-1)), (10, .int (nI y)), (11, .int est)] [] := by
  obtain ⟨g0, g1, g2, g3, g4, g5⟩ := id g
  obtain ⟨p1, p7, pr, pk, ps, pp, pl, xk, xr, xs, Z, e4, hn1, ht⟩ := id P
  have hc6 := Z.2.2.2.2.1
  have hr30 := Z.2.1
  have hn4 := lN4 Z ht
  have ht6 : t < 6 := by omega
  have hb0 : b ≤ 100000 := by omega
  have eo : ∀ j, j < 367 → ¬ (j = 4 ∨ j = 6 ∨ j = 7 ∨ j = 9 ∨ j = 10 ∨ (21 ≤ j ∧ j ≤ 28) ∨ j = 307 + 10 * t + 9) → gTB N1 m t r y own est bb (-4) how (m + 1) j = N1 (m + 1) j := fun j h1 h2 => gTB_s N1 (by omega)
  have ZA : zRd (gTB N1 m t r y own est bb (-4) how (m + 1)) r c := zRd_k2 Z (fun j hj => eo j (by omega) (by omega)) (fun t2 ht2 j h1 h2 => eo j (by omega) (by omega))
  have eN : zN (gTB N1 m t r y own est bb (-4) how (m + 1)) t = zN (N1 (m + 1)) t := by unfold zN; rw [eo _ (by omega) (by omega)]
  have fin : ∀ (Mf : jM) (n' : Nat), (∀ x, (x < d ∨ d + 6 ≤ x) → Mf x = Mc x) → lA Mf d (gTB N1 m t r y own est bb (-4) how (m + 1)) r n' c (b + 1) → n' ≤ 8 → gTB N1 m t r y own est bb (-4) how (m + 1) 4 = nI n' → J X ω γ Mf R 0 0 619 [(0, .ref d), (1, .ref (d + 1)), (2, .ref (d + 2)), (3, .ref (d + 3)), (4, .ref (d + 4)), (5, .ref (d + 5)), (6, .int (nI t)), (7, .ref w)] [] := fun Mf n' h1 h2 h3 h4 => c_runs_sum C E hxn (V := N1 (m + 4)) g (lRd_of h2) ZA ht hw (fun k hk => by rw [h1 w (Or.inr hwd)]; exact hV k hk) (by rw [eN]; exact K Mf n' h1 h2 h3 h4)
  refine j_aload_n C dL_runs_389 rfl ?_
  refine j_bipush C (nI 6) dL_runs_390 (by decide) ?_
  refine j_dup2 C dL_runs_392 rfl rfl ?_
  refine j_ialdN C (by assumption) dL_runs_393 (by omega) (by decide) ?_
  refine j_top (N1 (m + 1) 6) (p1 6 (by decide) (by decide)) ?_
  refine j_iconst C (nI 1) dL_runs_394 (by decide) ?_
  first | with_reducible refine j_iaddN C dL_runs_395 ?_ | refine j_iadd C dL_runs_395 ?_
  refine j_iastN C (by assumption) dL_runs_396 (by omega) (by decide) ?_
  refine j_aload_n C dL_runs_397 rfl ?_
  refine j_iconst C (nI 2) dL_runs_398 (by decide) ?_
  refine j_iload C dL_runs_399 rfl ?_
  first | with_reducible refine j_imulN C dL_runs_401 ?_ | refine j_imul C dL_runs_401 ?_
  refine j_iconst C (nI 1) dL_runs_402 (by decide) ?_
  first | with_reducible refine j_iaddN C dL_runs_403 ?_ | refine j_iadd C dL_runs_403 ?_
  refine j_dup2 C dL_runs_404 rfl rfl ?_
  refine j_ialdN C (by assumption) dL_runs_405 (by omega) (by decide) ?_
  refine j_top (N1 (m + 1) (307 + 10 * t + 9)) (by rw [jup_row _ _ (by omega)]; exact (ps t ht).2) ?_
  refine j_iconst C (nI 1) dL_runs_406 (by decide) ?_
  first | with_reducible refine j_iaddN C dL_runs_407 ?_ | refine j_iadd C dL_runs_407 ?_
  refine j_iastN C (by assumption) dL_runs_408 (by omega) (by decide) ?_
  obtain ⟨M5, h5⟩ : ∃ M5, M5 = jup (jup Mc d 6 (N1 (m + 1) 6 + nI 1)) (d + 3) (2 * t + 1) (N1 (m + 1) (307 + 10 * t + 9) + nI 1) := ⟨_, rfl⟩
  refine j_mem M5 h5.symm ?_
  have m5g : ∀ i, i ≠ 6 → M5 d i = Mc d i := fun i hi => by rw [h5, jup_row _ _ (by omega), jup_nk _ _ hi]
  have m5r : ∀ x, x ≠ d → x ≠ d + 3 → M5 x = Mc x := fun x h1 h2 => by rw [h5, jup_row _ _ h2, jup_row _ _ h1]
  have e5 : ∀ j, ¬ (j = 6 ∨ j = 7 ∨ j = 307 + 10 * t + 9) → (gT1 N1 m t bb (m + 1)) j = N1 (m + 1) j := fun j hj => gT1_s N1 (by omega) (by omega) (by omega)
  have Z5 : zRd (gT1 N1 m t bb (m + 1)) r c := zRd_k2 Z (fun j hj => e5 j (by omega)) (fun t2 ht2 j h1 h2 => e5 j (by omega))
  have H5 : lRd M5 d (gT1 N1 m t bb (m + 1)) r c := ⟨fun k hk => by rw [m5g k (by omega), e5 k (by omega)]; exact p1 k (by omega) (by omega), fun k hk => by rw [m5r _ (by omega) (by omega), lPk_c (S := N1 (m + 1)) (fun j hj => e5 _ (by omega))]; exact pr k hk, fun i hi => by rw [m5r _ (by omega) (by omega), e5 _ (by omega)]; exact pk i hi, fun t2 ht2 => by rw [h5, jup_nk _ _ (by omega), jup_row _ _ (by omega), lCode_c (S := N1 (m + 1)) (zN4_of Z t2 ht2) (fun j h1 h2 => e5 j (by omega))]; exact (ps t2 ht2).1⟩
  have hV5 : ∀ k, k < 4 → M5 w k = gT1 N1 m t bb (m + 4) k := fun k hk => by rw [m5r _ (by omega) (by omega), hV k hk]; unfold gT1; rw [jup_row _ _ (by omega), jup_row _ _ (by omega), jup_row _ _ (by omega)]
  have hy5 : y = 9 ∨ y < zN (gT1 N1 m t bb (m + 1)) t := by rw [show zN (gT1 N1 m t bb (m + 1)) t = zN (N1 (m + 1)) t by unfold zN; rw [e5 _ (by omega)]]; exact hy
  refine j_aload_n C dL_runs_409 rfl ?_
  refine j_aload_n C dL_runs_410 rfl ?_
  refine j_aload_n C dL_runs_411 rfl ?_
  refine j_aload_n C dL_runs_412 rfl ?_
  refine j_iload C dL_runs_413 rfl ?_
  refine j_aload C dL_runs_415 rfl ?_
  refine j_iload C dL_runs_417 rfl ?_
  refine j_iconst C (nI 1) dL_runs_419 (by decide) ?_
  refine j_cSi C (c_L_cost1 _ ω γ M5 R ⟨g0, g1, g2, g3, g4, g5⟩ H5 Z5 hw hV5 ht hy5) yc_L_cost mn_L_43 st_L_cost dL_runs_420 rfl rfl (Nat.le_of_ble_eq_true rfl) (by decide) ?_
  refine j_top (gCo N1 m t r y bb) rfl ?_
  refine j_istore C dL_runs_423 (by rw [hxn]; decide) ?_
  refine j_iload C dL_runs_425 rfl ?_
  refine j_aload_n C dL_runs_427 rfl ?_
  refine j_bipush C (nI 13) dL_runs_428 (by decide) ?_
  refine j_ialdN C (by assumption) dL_runs_430 (by omega) (by decide) ?_
  refine j_top (N1 (m + 1) 13) ((m5g 13 (by decide)).trans (p1 13 (by decide) (by decide))) ?_
  refine j_iload C dL_runs_431 rfl ?_
  refine j_imul C dL_runs_433 ?_
  refine j_icmp_le C 441 dL_runs_434 (by decide) (fun h434 => ?_) (fun h434 => ?_)
  · skip
    have es : gS (gT2 N1 m t r y own est bb (-4) how) m (gCo N1 m t r y bb) est = nI 0 := by unfold gS; rw [gT2_s N1 (by omega) (by omega) (by omega) (by omega)]; exact if_pos h434
    refine j_iconst C (nI 0) dL_runs_441 (by decide) ?_
    refine j_istore C dL_runs_442 (by rw [hxn]; decide) ?_
    refine j_aload C dL_runs_444 rfl ?_
    refine j_bipush C (nI 6) dL_runs_446 (by decide) ?_
    refine j_iload C dL_runs_448 rfl ?_
    refine j_if_ge C 458 dL_runs_450 (by decide) (fun h => absurd h (by decide)) (fun _ => ?_)
    refine j_bipush C (-4) dL_runs_453 (by decide) ?_
    refine j_goto C 466 dL_runs_455 (by decide) ?_
    refine j_iastN C (by assumption) dL_runs_466 (by omega) (by decide) ?_
    refine j_aload C dL_runs_467 rfl ?_
    refine j_bipush C (nI 7) dL_runs_469 (by decide) ?_
    refine j_iload C dL_runs_471 rfl ?_
    refine j_iastN C (by assumption) dL_runs_473 (by omega) (by decide) ?_
    refine j_aload C dL_runs_474 rfl ?_
    refine j_bipush C (nI 8) dL_runs_476 (by decide) ?_
    refine j_iload C dL_runs_478 rfl ?_
    refine j_iastN C (by assumption) dL_runs_480 (by omega) (by decide) ?_
    refine j_aload C dL_runs_481 rfl ?_
    refine j_bipush C (nI 9) dL_runs_483 (by decide) ?_
    refine j_iload C dL_runs_485 rfl ?_
    refine j_iastN C (by assumption) dL_runs_487 (by omega) (by decide) ?_
    refine j_aload C dL_runs_488 rfl ?_
    refine j_bipush C (nI 11) dL_runs_490 (by decide) ?_
    refine j_iload C dL_runs_492 rfl ?_
    refine j_if_eq C 501 dL_runs_494 (by decide) (fun _ => ?_) (fun h => absurd (rfl) h)
    refine j_iconst C (nI 0) dL_runs_501 (by decide) ?_
    refine j_iastN C (by assumption) dL_runs_502 (by omega) (by decide) ?_
    obtain ⟨M6, h6⟩ : ∃ M6, M6 = jup (jup (jup (jup (jup M5 (d + 5) 6 (-4)) (d + 5) 7 (nI y)) (d + 5) 8 est) (d + 5) 9 (gCo N1 m t r y bb)) (d + 5) 11 (nI 0) := ⟨_, rfl⟩
    refine j_mem M6 h6.symm ?_
    refine j_aload_n C dL_runs_503 rfl ?_
    refine j_bipush C (nI 9) dL_runs_504 (by decide) ?_
    refine j_dup2 C dL_runs_506 rfl rfl ?_
    refine j_ialdN C (by assumption) dL_runs_507 (by omega) (by decide) ?_
    refine j_top (N1 (m + 1) 9) (by rw [h6, jup_row _ _ (by omega), jup_row _ _ (by omega), jup_row _ _ (by omega), jup_row _ _ (by omega), jup_row _ _ (by omega), m5g 9 (by decide)]; exact p1 9 (by decide) (by decide)) ?_
    refine j_iload C dL_runs_508 rfl ?_
    refine j_if_eq C 517 dL_runs_510 (by decide) (fun _ => ?_) (fun h => absurd (rfl) h)
    refine j_iconst C (nI 0) dL_runs_517 (by decide) ?_
    first | with_reducible refine j_iaddN C dL_runs_518 ?_ | refine j_iadd C dL_runs_518 ?_
    refine j_iastN C (by assumption) dL_runs_519 (by omega) (by decide) ?_
    obtain ⟨M7, h7⟩ : ∃ M7, M7 = jup M6 d 9 (N1 (m + 1) 9 + nI 0) := ⟨_, rfl⟩
    refine j_mem M7 h7.symm ?_
    have A7 := t5_7 P h5 h6 h7 hb0
    have f7 : ∀ x, (x < d ∨ d + 6 ≤ x) → M7 x = Mc x := fun x hx => by rw [h7, jup_row _ _ (by omega), h6, jup_row _ _ (by omega), jup_row _ _ (by omega), jup_row _ _ (by omega), jup_row _ _ (by omega), jup_row _ _ (by omega), h5, jup_row _ _ (by omega), jup_row _ _ (by omega)]
    refine j_iload C dL_runs_520 rfl ?_
    refine j_if_lt C 619 dL_runs_522 (by decide) (fun _ => ?_) (fun h => absurd (by decide) h)
    refine j_locs [0, 1, 2, 3, 4, 5, 6, 7] rfl ?_
    have eG : gTB N1 m t r y own est bb (-4) how (m + 1) = (gT3v (N1 (m + 1)) t y own est bb (-4) how (gCo N1 m t r y bb) (nI 0)) := by unfold gTB; rw [es]; exact funext fun j => gT3_val N1 m ht6 j
    exact fin M7 n1 f7 (by rw [eG]; exact A7) hn1 (by rw [eG, gT3v_o (by omega)]; exact e4)
  · skip
    have es : gS (gT2 N1 m t r y own est bb (-4) how) m (gCo N1 m t r y bb) est = nI 1 := by unfold gS; rw [gT2_s N1 (by omega) (by omega) (by omega) (by omega)]; exact if_neg h434
    refine j_iconst C (nI 1) dL_runs_437 (by decide) ?_
    refine j_goto C 442 dL_runs_438 (by decide) ?_
    refine j_istore C dL_runs_442 (by rw [hxn]; decide) ?_
    refine j_aload C dL_runs_444 rfl ?_
    refine j_bipush C (nI 6) dL_runs_446 (by decide) ?_
    refine j_iload C dL_runs_448 rfl ?_
    refine j_if_ge C 458 dL_runs_450 (by decide) (fun h => absurd h (by decide)) (fun _ => ?_)
    refine j_bipush C (-4) dL_runs_453 (by decide) ?_
    refine j_goto C 466 dL_runs_455 (by decide) ?_
    refine j_iastN C (by assumption) dL_runs_466 (by omega) (by decide) ?_
    refine j_aload C dL_runs_467 rfl ?_
    refine j_bipush C (nI 7) dL_runs_469 (by decide) ?_
    refine j_iload C dL_runs_471 rfl ?_
    refine j_iastN C (by assumption) dL_runs_473 (by omega) (by decide) ?_
    refine j_aload C dL_runs_474 rfl ?_
    refine j_bipush C (nI 8) dL_runs_476 (by decide) ?_
    refine j_iload C dL_runs_478 rfl ?_
    refine j_iastN C (by assumption) dL_runs_480 (by omega) (by decide) ?_
    refine j_aload C dL_runs_481 rfl ?_
    refine j_bipush C (nI 9) dL_runs_483 (by decide) ?_
    refine j_iload C dL_runs_485 rfl ?_
    refine j_iastN C (by assumption) dL_runs_487 (by omega) (by decide) ?_
    refine j_aload C dL_runs_488 rfl ?_
    refine j_bipush C (nI 11) dL_runs_490 (by decide) ?_
    refine j_iload C dL_runs_492 rfl ?_
    refine j_if_eq C 501 dL_runs_494 (by decide) (fun h => absurd h (by decide)) (fun _ => ?_)
    refine j_iconst C (nI 1) dL_runs_497 (by decide) ?_
    refine j_goto C 502 dL_runs_498 (by decide) ?_
    refine j_iastN C (by assumption) dL_runs_502 (by omega) (by decide) ?_
    obtain ⟨M6, h6⟩ : ∃ M6, M6 = jup (jup (jup (jup (jup M5 (d + 5) 6 (-4)) (d + 5) 7 (nI y)) (d + 5) 8 est) (d + 5) 9 (gCo N1 m t r y bb)) (d + 5) 11 (nI 1) := ⟨_, rfl⟩
    refine j_mem M6 h6.symm ?_
    refine j_aload_n C dL_runs_503 rfl ?_
    refine j_bipush C (nI 9) dL_runs_504 (by decide) ?_
    refine j_dup2 C dL_runs_506 rfl rfl ?_
    refine j_ialdN C (by assumption) dL_runs_507 (by omega) (by decide) ?_
    refine j_top (N1 (m + 1) 9) (by rw [h6, jup_row _ _ (by omega), jup_row _ _ (by omega), jup_row _ _ (by omega), jup_row _ _ (by omega), jup_row _ _ (by omega), m5g 9 (by decide)]; exact p1 9 (by decide) (by decide)) ?_
    refine j_iload C dL_runs_508 rfl ?_
    refine j_if_eq C 517 dL_runs_510 (by decide) (fun h => absurd h (by decide)) (fun _ => ?_)
    refine j_iconst C (nI 1) dL_runs_513 (by decide) ?_
    refine j_goto C 518 dL_runs_514 (by decide) ?_
    first | with_reducible refine j_iaddN C dL_runs_518 ?_ | refine j_iadd C dL_runs_518 ?_
    refine j_iastN C (by assumption) dL_runs_519 (by omega) (by decide) ?_
    obtain ⟨M7, h7⟩ : ∃ M7, M7 = jup M6 d 9 (N1 (m + 1) 9 + nI 1) := ⟨_, rfl⟩
    refine j_mem M7 h7.symm ?_
    have A7 := t5_7 P h5 h6 h7 hb0
    have f7 : ∀ x, (x < d ∨ d + 6 ≤ x) → M7 x = Mc x := fun x hx => by rw [h7, jup_row _ _ (by omega), h6, jup_row _ _ (by omega), jup_row _ _ (by omega), jup_row _ _ (by omega), jup_row _ _ (by omega), jup_row _ _ (by omega), h5, jup_row _ _ (by omega), jup_row _ _ (by omega)]
    refine j_iload C dL_runs_520 rfl ?_
    refine j_if_lt C 619 dL_runs_522 (by decide) (fun _ => ?_) (fun h => absurd (by decide) h)
    refine j_locs [0, 1, 2, 3, 4, 5, 6, 7] rfl ?_
    have eG : gTB N1 m t r y own est bb (-4) how (m + 1) = (gT3v (N1 (m + 1)) t y own est bb (-4) how (gCo N1 m t r y bb) (nI 1)) := by unfold gTB; rw [es]; exact funext fun j => gT3_val N1 m ht6 j
    exact fin M7 n1 f7 (by rw [eG]; exact A7) hn1 (by rw [eG, gT3v_o (by omega)]; exact e4)
