set_option maxHeartbeats 4000000 in
set_option maxRecDepth 100000 in
theorem c_X9_within (l : Launch) (ω : jW) (γ : jG) (M : jM) (R : jR) (x a b : Int32) : Ct l ω yX9_within cX9_within 3 (some .boolean) 1 0 0 [.int x, .int a, .int b] γ M R (jx γ (some (.int (rIn x a b))) M R) := by
  refine Ct_of (by decide) (Nat.le_of_ble_eq_true rfl) rfl (jcat_of rfl) ?_
  intro X C E hnm hxl hxn
  subst hxl
  refine j_iload_n C dX9_within_0 rfl ?_
  refine j_iload_n C dX9_within_1 rfl ?_
  refine j_icmp_lt C 14 dX9_within_2 (by decide) (fun h2 => ?_) (fun h2 => ?_)
  · skip
    refine j_iconst C (nI 0) dX9_within_14 (by decide) ?_
    exact j_ireturn C E dX9_within_15 (by decide) (by decide) (by decide) (⟨by simp only [rIn, if_pos h2], rfl, rfl, rfl⟩)
  · skip
    refine j_iload_n C dX9_within_5 rfl ?_
    refine j_iload_n C dX9_within_6 rfl ?_
    refine j_icmp_gt C 14 dX9_within_7 (by decide) (fun h7 => ?_) (fun h7 => ?_)
    · skip
      refine j_iconst C (nI 0) dX9_within_14 (by decide) ?_
      exact j_ireturn C E dX9_within_15 (by decide) (by decide) (by decide) (⟨by simp only [rIn, if_neg h2, if_pos h7], rfl, rfl, rfl⟩)
    · skip
      refine j_iconst C (nI 1) dX9_within_10 (by decide) ?_
      refine j_goto C 15 dX9_within_11 (by decide) ?_
      exact j_ireturn C E dX9_within_15 (by decide) (by decide) (by decide) (⟨by simp only [rIn, if_neg h2, if_neg h7], rfl, rfl, rfl⟩)

set_option maxHeartbeats 4000000 in
set_option maxRecDepth 100000 in
theorem c_X9_isValue (l : Launch) (ω : jW) (γ : jG) (M : jM) (R : jR) (x : Int32) : Ct l ω yX9_isValue cX9_isValue 1 (some .boolean) 2 0 0 [.int x] γ M R (jx γ (some (.int (rIn x (nI 0) (nI 31)))) M R) := by
  refine Ct_of (by decide) (Nat.le_of_ble_eq_true rfl) rfl (jcat_of rfl) ?_
  intro X C E hnm hxl hxn
  subst hxl
  refine j_iload_n C dX9_isValue_0 rfl ?_
  refine j_iconst C (nI 0) dX9_isValue_1 (by decide) ?_
  refine j_bipush C (nI 31) dX9_isValue_2 (by decide) ?_
  refine j_cSi C (c_X9_within _ _ _ _ _ _ _ _) yc_X9_within mn_X9_38 st_X9_within dX9_isValue_4 rfl rfl (Nat.le_of_ble_eq_true rfl) (by decide) ?_
  exact j_ireturn C E dX9_isValue_7 ((rIn_B _ _ _).nar) (by decide) (by decide) (⟨rfl, rfl, rfl, rfl⟩)

set_option maxHeartbeats 4000000 in
set_option maxRecDepth 100000 in
theorem c_X9_isColumn (l : Launch) (ω : jW) (γ : jG) (M : jM) (R : jR) (x : Int32) : Ct l ω yX9_isColumn cX9_isColumn 1 (some .boolean) 2 0 0 [.int x] γ M R (jx γ (some (.int (rIn x (nI 0) (nI 3)))) M R) := by
  refine Ct_of (by decide) (Nat.le_of_ble_eq_true rfl) rfl (jcat_of rfl) ?_
  intro X C E hnm hxl hxn
  subst hxl
  refine j_iload_n C dX9_isColumn_0 rfl ?_
  refine j_iconst C (nI 0) dX9_isColumn_1 (by decide) ?_
  refine j_iconst C (nI 3) dX9_isColumn_2 (by decide) ?_
  refine j_cSi C (c_X9_within _ _ _ _ _ _ _ _) yc_X9_within mn_X9_38 st_X9_within dX9_isColumn_3 rfl rfl (Nat.le_of_ble_eq_true rfl) (by decide) ?_
  exact j_ireturn C E dX9_isColumn_6 ((rIn_B _ _ _).nar) (by decide) (by decide) (⟨rfl, rfl, rfl, rfl⟩)

set_option maxHeartbeats 4000000 in
set_option maxRecDepth 100000 in
theorem c_X9_at (l : Launch) (ω : jW) (γ : jG) (M : jM) (R : jR) {a n : Nat} (hA : jArr ω γ a 12 n) (hn : n < 2 ^ 31) (p : Int32) : Ct l ω yX9_at cX9_at 2 (some .int) 1 0 0 [.ref a, .int p] γ M R (jx γ (some (.int (rAt (M a) n p))) M R) := by
  refine Ct_of (by decide) (Nat.le_of_ble_eq_true rfl) rfl (jcat_of rfl) ?_
  intro X C E hnm hxl hxn
  subst hxl
  refine j_iload_n C dX9_at_0 rfl ?_
  refine j_if_lt C 16 dX9_at_1 (by decide) (fun h1 => ?_) (fun h1 => ?_)
  · skip
    refine j_iconst C (nI 0) dX9_at_16 (by decide) ?_
    exact j_ireturn C E dX9_at_17 (rfl) (by decide) (by decide) (⟨by simp only [rAt, if_pos h1], rfl, rfl, rfl⟩)
  · skip
    refine j_iload_n C dX9_at_4 rfl ?_
    refine j_aload_n C dX9_at_5 rfl ?_
    refine j_alen C (by assumption) rfl (by decide) dX9_at_6 ?_
    refine j_icmp_ge C 16 dX9_at_7 (by decide) (fun h7 => ?_) (fun h7 => ?_)
    · skip
      refine j_iconst C (nI 0) dX9_at_16 (by decide) ?_
      exact j_ireturn C E dX9_at_17 (rfl) (by decide) (by decide) (⟨by simp only [rAt, if_neg h1, if_pos h7], rfl, rfl, rfl⟩)
    · skip
      refine j_aload_n C dX9_at_10 rfl ?_
      refine j_iload_n C dX9_at_11 rfl ?_
      refine j_iald C (by assumption) (in_of h1 h7 hn) dX9_at_12 ?_
      refine j_goto C 17 dX9_at_13 (by decide) ?_
      exact j_ireturn C E dX9_at_17 (rfl) (by decide) (by decide) (⟨by simp only [rAt, if_neg h1, if_neg h7], rfl, rfl, rfl⟩)

set_option maxHeartbeats 4000000 in
set_option maxRecDepth 100000 in
theorem c_X9_atT (l : Launch) (ω : jW) (γ : jG) (M : jM) (R : jR) {t n : Nat} {f : Nat → Int32} (hn : n < 2 ^ 31) (hT : ∀ s : State, jXi ω s s.heap → va_T .int t n (fun j => .int (f j)) (jA ω) s s.heap) (p : Int32) : Ct l ω yX9_at cX9_at 2 (some .int) 1 0 0 [.ref t, .int p] γ M R (jx γ (some (.int (rAt f n p))) M R) := by
  refine Ct_of (by decide) (Nat.le_of_ble_eq_true rfl) rfl (jcat_of rfl) ?_
  intro X C E hnm hxl hxn
  subst hxl
  refine j_iload_n C dX9_at_0 rfl ?_
  refine j_if_lt C 16 dX9_at_1 (by decide) (fun h1 => ?_) (fun h1 => ?_)
  · skip
    refine j_iconst C (nI 0) dX9_at_16 (by decide) ?_
    exact j_ireturn C E dX9_at_17 (rfl) (by decide) (by decide) (⟨by simp only [rAt, if_pos h1], rfl, rfl, rfl⟩)
  · skip
    refine j_iload_n C dX9_at_4 rfl ?_
    refine j_aload_n C dX9_at_5 rfl ?_
    refine j_tlen C (hT _ C.xi) dX9_at_6 ?_
    refine j_icmp_ge C 16 dX9_at_7 (by decide) (fun h7 => ?_) (fun h7 => ?_)
    · skip
      refine j_iconst C (nI 0) dX9_at_16 (by decide) ?_
      exact j_ireturn C E dX9_at_17 (rfl) (by decide) (by decide) (⟨by simp only [rAt, if_neg h1, if_pos h7], rfl, rfl, rfl⟩)
    · skip
      refine j_aload_n C dX9_at_10 rfl ?_
      refine j_iload_n C dX9_at_11 rfl ?_
      refine j_tald C (hT _ C.xi) (in_of h1 h7 hn) dX9_at_12 ?_
      refine j_goto C 17 dX9_at_13 (by decide) ?_
      exact j_ireturn C E dX9_at_17 (rfl) (by decide) (by decide) (⟨by simp only [rAt, if_neg h1, if_neg h7], rfl, rfl, rfl⟩)

set_option maxHeartbeats 4000000 in
set_option maxRecDepth 100000 in
theorem c_X9_put (l : Launch) (ω : jW) (γ : jG) (M : jM) (R : jR) {a n : Nat} (hA : jArr ω γ a 12 n) (hn : n < 2 ^ 31) (p x : Int32) : Ct l ω yX9_put cX9_put 3 none 1 0 0 [.ref a, .int p, .int x] γ M R (jx γ none (rPutA M a n p x) R) := by
  refine Ct_of (by decide) (Nat.le_of_ble_eq_true rfl) rfl (jcat_of rfl) ?_
  intro X C E hnm hxl hxn
  subst hxl
  refine j_iload_n C dX9_put_0 rfl ?_
  refine j_if_lt C 14 dX9_put_1 (by decide) (fun h1 => ?_) (fun h1 => ?_)
  · skip
    exact j_return C E dX9_put_14 (by decide) (by decide) (⟨rfl, rfl, by simp only [rPutA, if_pos h1], rfl⟩)
  · skip
    refine j_iload_n C dX9_put_4 rfl ?_
    refine j_aload_n C dX9_put_5 rfl ?_
    refine j_alen C (by assumption) rfl (by decide) dX9_put_6 ?_
    refine j_icmp_ge C 14 dX9_put_7 (by decide) (fun h7 => ?_) (fun h7 => ?_)
    · skip
      exact j_return C E dX9_put_14 (by decide) (by decide) (⟨rfl, rfl, by simp only [rPutA, if_neg h1, if_pos h7], rfl⟩)
    · skip
      refine j_aload_n C dX9_put_10 rfl ?_
      refine j_iload_n C dX9_put_11 rfl ?_
      refine j_iload_n C dX9_put_12 rfl ?_
      refine j_iast C (by assumption) (in_of h1 h7 hn) dX9_put_13 ?_
      exact j_return C E dX9_put_14 (by decide) (by decide) (⟨rfl, rfl, by simp only [rPutA, if_neg h1, if_neg h7], rfl⟩)

theorem c_X9_putN (l : Launch) (ω : jW) (γ : jG) (M : jM) (R : jR) {a n k : Nat} (hA : jArr ω γ a 12 n) (hn : n < 2 ^ 31) (hk : k < n) (x : Int32) : Ct l ω yX9_put cX9_put 3 none 1 0 0 [.ref a, .int (nI k), .int x] γ M R (jx γ none (jup M a k x) R) := by
  have h := c_X9_put l ω γ M R hA hn (nI k) x
  rw [rPutA_N M a hk hn x] at h
  exact h

set_option maxHeartbeats 4000000 in
set_option maxRecDepth 100000 in
theorem c_X9_holds (l : Launch) (ω : jW) (γ : jG) (M : jM) (R : jR) (x op v : Int32) : Ct l ω yX9_holds cX9_holds 3 (some .boolean) 1 0 0 [.int x, .int op, .int v] γ M R (jx γ (some (.int (rHolds x op v))) M R) := by
  refine Ct_of (by decide) (Nat.le_of_ble_eq_true rfl) rfl (jcat_of rfl) ?_
  intro X C E hnm hxl hxn
  subst hxl
  refine j_iload_n C dX9_holds_0 rfl ?_
  by_cases s1 : op = nI 1
  · skip
    refine j_lookup C 28 dX9_holds_1 (by decide) (off := 27) (by rw [s1]; decide) (by decide) ?_
    refine j_iload_n C dX9_holds_28 rfl ?_
    refine j_iload_n C dX9_holds_29 rfl ?_
    refine j_icmp_ge C 37 dX9_holds_30 (by decide) (fun h30 => ?_) (fun h30 => ?_)
    · skip
      refine j_iconst C (nI 0) dX9_holds_37 (by decide) ?_
      exact j_ireturn C E dX9_holds_38 (by decide) (by decide) (by decide) (⟨by simp only [rHolds, if_pos s1, if_pos h30], rfl, rfl, rfl⟩)
    · skip
      refine j_iconst C (nI 1) dX9_holds_33 (by decide) ?_
      refine j_goto C 38 dX9_holds_34 (by decide) ?_
      exact j_ireturn C E dX9_holds_38 (by decide) (by decide) (by decide) (⟨by simp only [rHolds, if_pos s1, if_neg h30], rfl, rfl, rfl⟩)
  by_cases s2 : op = nI 2
  · skip
    refine j_lookup C 39 dX9_holds_1 (by decide) (off := 38) (by rw [s2]; decide) (by decide) ?_
    refine j_iload_n C dX9_holds_39 rfl ?_
    refine j_iload_n C dX9_holds_40 rfl ?_
    refine j_icmp_le C 48 dX9_holds_41 (by decide) (fun h41 => ?_) (fun h41 => ?_)
    · skip
      refine j_iconst C (nI 0) dX9_holds_48 (by decide) ?_
      exact j_ireturn C E dX9_holds_49 (by decide) (by decide) (by decide) (⟨by simp only [rHolds, if_neg s1, if_pos s2, if_pos h41], rfl, rfl, rfl⟩)
    · skip
      refine j_iconst C (nI 1) dX9_holds_44 (by decide) ?_
      refine j_goto C 49 dX9_holds_45 (by decide) ?_
      exact j_ireturn C E dX9_holds_49 (by decide) (by decide) (by decide) (⟨by simp only [rHolds, if_neg s1, if_pos s2, if_neg h41], rfl, rfl, rfl⟩)
  refine j_lookup C 50 dX9_holds_1 (by decide) (off := 49) (by show Op.lookupswitch.offset [(1, 27), (2, 38)] 49 op.toInt = 49; rw [lv_osw (k := nI 1) (a := 1) s1 (by decide), lv_osw (k := nI 2) (a := 2) s2 (by decide)]; rfl) (by decide) ?_
  refine j_iload_n C dX9_holds_50 rfl ?_
  refine j_iload_n C dX9_holds_51 rfl ?_
  refine j_icmp_ne C 59 dX9_holds_52 (by decide) (fun h52 => ?_) (fun h52 => ?_)
  · skip
    refine j_iconst C (nI 0) dX9_holds_59 (by decide) ?_
    exact j_ireturn C E dX9_holds_60 (by decide) (by decide) (by decide) (⟨by simp only [rHolds, if_neg s1, if_neg s2, if_neg h52], rfl, rfl, rfl⟩)
  · skip
    refine j_iconst C (nI 1) dX9_holds_55 (by decide) ?_
    refine j_goto C 60 dX9_holds_56 (by decide) ?_
    exact j_ireturn C E dX9_holds_60 (by decide) (by decide) (by decide) (⟨by simp only [rHolds, if_neg s1, if_neg s2, if_pos h52], rfl, rfl, rfl⟩)

set_option maxHeartbeats 4000000 in
set_option maxRecDepth 100000 in
theorem c_X9_copy (l : Launch) (ω : jW) (γ : jG) (M : jM) (R : jR) {a b n : Nat} (hA : jArr ω γ a 12 n) (hB : jArr ω γ b 12 n) (hn : n < 2 ^ 31) (hab : a ≠ b) : Ct l ω yX9_copy cX9_copy 3 none 1 0 0 [.ref a, .ref b] γ M R (jx γ none (jcopy M a b n) R) := by
  refine Ct_of (by decide) (Nat.le_of_ble_eq_true rfl) rfl (jcat_of rfl) ?_
  intro X C E hnm hxl hxn
  subst hxl
  refine j_iconst C (nI 0) dX9_copy_0 (by decide) ?_
  refine j_istore_n C dX9_copy_1 (by rw [hxn]; decide) ?_
  rw [show M = jcopy M a b 0 from (jcopy_0 M a b).symm]
  refine j_loop n (fun k => [(0, .ref a), (1, .ref b), (2, .int (nI k))]) (fun k => jcopy M a b k) (fun _ => R) (fun _ => True) trivial (fun k hk _ ih => ?_) (fun _ => ?_)
  · skip
    refine j_iload_n C dX9_copy_2 rfl ?_
    refine j_aload_n C dX9_copy_3 rfl ?_
    refine j_alen C (by assumption) rfl (by decide) dX9_copy_4 ?_
    refine j_icmp_ge C 26 dX9_copy_5 (by decide) (fun h => absurd h (nI_ge hk hn)) (fun _ => ?_)
    refine j_iload_n C dX9_copy_8 rfl ?_
    refine j_aload_n C dX9_copy_9 rfl ?_
    refine j_alen C (by assumption) rfl (by decide) dX9_copy_10 ?_
    refine j_icmp_ge C 26 dX9_copy_11 (by decide) (fun h => absurd h (nI_ge hk hn)) (fun _ => ?_)
    refine j_aload_n C dX9_copy_14 rfl ?_
    refine j_iload_n C dX9_copy_15 rfl ?_
    refine j_aload_n C dX9_copy_16 rfl ?_
    refine j_iload_n C dX9_copy_17 rfl ?_
    refine j_iald C (i := nI k) hA (vp_in_nI hk hn) dX9_copy_18 ?_
    rw [nI_clamp (by omega)]
    refine j_iast C (i := nI k) hB (vp_in_nI hk hn) dX9_copy_19 ?_
    rw [nI_clamp (by omega), jcopy_s M hab]
    first | refine j_iinc1 C dX9_copy_20 rfl (by rw [hxn]; decide) ?_ | refine j_iinc C _ dX9_copy_20 rfl rfl (by rw [hxn]; decide) ?_
    refine j_goto C 2 dX9_copy_23 (by decide) ?_
    exact ih trivial
  · skip
    refine j_iload_n C dX9_copy_2 rfl ?_
    refine j_aload_n C dX9_copy_3 rfl ?_
    refine j_alen C (by assumption) rfl (by decide) dX9_copy_4 ?_
    refine j_icmp_ge C 26 dX9_copy_5 (by decide) (fun _ => ?_) (fun h => absurd (Int32.le_refl _) h)
    exact j_return C E dX9_copy_26 (by decide) (by decide) (⟨rfl, rfl, rfl, rfl⟩)

set_option maxHeartbeats 4000000 in
set_option maxRecDepth 100000 in
theorem c_X6_weightOf (l : Launch) (ω : jW) (γ : jG) (M : jM) (R : jR) {b : Nat} (g : gSums ω γ b) (c v : Int32) : Ct l ω yX6_weightOf cX6_weightOf 4 (some .int) 1 0 0 [.ref b, .int c, .int v] γ M R (jx γ (some (.int (rAt (M (b + 1)) 128 (c * nI 32 + v)))) M R) := by
  refine Ct_of (by decide) (Nat.le_of_ble_eq_true rfl) rfl (jcat_of rfl) ?_
  intro X C E hnm hxl hxn
  subst hxl
  obtain ⟨g0, g1, g2⟩ := g
  refine j_iload_n C dX6_weightOf_0 rfl ?_
  refine j_bipush C (nI 32) dX6_weightOf_1 (by decide) ?_
  first | with_reducible refine j_imulN C dX6_weightOf_3 ?_ | refine j_imul C dX6_weightOf_3 ?_
  refine j_iload_n C dX6_weightOf_4 rfl ?_
  first | with_reducible refine j_iaddN C dX6_weightOf_5 ?_ | refine j_iadd C dX6_weightOf_5 ?_
  refine j_istore_n C dX6_weightOf_6 (by rw [hxn]; decide) ?_
  refine j_iload_n C dX6_weightOf_7 rfl ?_
  refine j_if_lt C 29 dX6_weightOf_8 (by decide) (fun h8 => ?_) (fun h8 => ?_)
  · skip
    refine j_iconst C (nI 0) dX6_weightOf_29 (by decide) ?_
    exact j_ireturn C E dX6_weightOf_30 (rfl) (by decide) (by decide) (⟨by simp only [rAt, if_pos h8], rfl, rfl, rfl⟩)
  · skip
    refine j_iload_n C dX6_weightOf_11 rfl ?_
    refine j_aload_n C dX6_weightOf_12 rfl ?_
    refine j_getR C fl_X6_9 (by assumption) dX6_weightOf_13 (by decide) rfl (by assumption) ?_
    refine j_alen C (by assumption) rfl (by decide) dX6_weightOf_16 ?_
    refine j_icmp_ge C 29 dX6_weightOf_17 (by decide) (fun h17 => ?_) (fun h17 => ?_)
    · skip
      refine j_iconst C (nI 0) dX6_weightOf_29 (by decide) ?_
      exact j_ireturn C E dX6_weightOf_30 (rfl) (by decide) (by decide) (⟨by simp only [rAt, if_neg h8, if_pos h17], rfl, rfl, rfl⟩)
    · skip
      refine j_aload_n C dX6_weightOf_20 rfl ?_
      refine j_getR C fl_X6_9 (by assumption) dX6_weightOf_21 (by decide) rfl (by assumption) ?_
      refine j_iload_n C dX6_weightOf_24 rfl ?_
      refine j_iald C (by assumption) (in_of h8 h17 (by decide)) dX6_weightOf_25 ?_
      refine j_goto C 30 dX6_weightOf_26 (by decide) ?_
      exact j_ireturn C E dX6_weightOf_30 (rfl) (by decide) (by decide) (⟨by simp only [rAt, if_neg h8, if_neg h17], rfl, rfl, rfl⟩)

set_option maxHeartbeats 4000000 in
set_option maxRecDepth 100000 in
theorem c_X6_add (l : Launch) (ω : jW) (γ : jG) (M : jM) (R : jR) {b : Nat} (g : gSums ω γ b) (c v w : Int32) : Ct l ω yX6_add cX6_add 4 none 2 0 0 [.ref b, .int c, .int v, .int w] γ M R (jx γ none (rAddM M b c v w) R) := by
  refine Ct_of (by decide) (Nat.le_of_ble_eq_true rfl) rfl (jcat_of rfl) ?_
  intro X C E hnm hxl hxn
  subst hxl
  have g0 := g.1
  have g1 := g.2.1
  have g2 := g.2.2
  refine j_aload_n C dX6_add_0 rfl ?_
  refine j_getR C fl_X6_9 (by assumption) dX6_add_1 (by decide) rfl (by assumption) ?_
  refine j_iload_n C dX6_add_4 rfl ?_
  refine j_bipush C (nI 32) dX6_add_5 (by decide) ?_
  first | with_reducible refine j_imulN C dX6_add_7 ?_ | refine j_imul C dX6_add_7 ?_
  refine j_iload_n C dX6_add_8 rfl ?_
  first | with_reducible refine j_iaddN C dX6_add_9 ?_ | refine j_iadd C dX6_add_9 ?_
  refine j_aload_n C dX6_add_10 rfl ?_
  refine j_iload_n C dX6_add_11 rfl ?_
  refine j_iload_n C dX6_add_12 rfl ?_
  refine j_cVi C (c_X6_weightOf _ ω γ M R g c v) yc_X6_weightOf mn_X6_15 im_X6_weightOf se_X6_weightOf rfl rfl dX6_add_13 rfl rfl (by assumption) (by decide) (Nat.le_of_ble_eq_true rfl) (by decide) ?_
  refine j_iload_n C dX6_add_16 rfl ?_
  first | with_reducible refine j_iaddN C dX6_add_17 ?_ | refine j_iadd C dX6_add_17 ?_
  refine j_cSv C (c_X9_put _ ω γ M R g2 (by decide) _ _) yc_X9_put mn_X6_19 st_X9_put dX6_add_18 rfl rfl (Nat.le_of_ble_eq_true rfl) (by decide) ?_
  refine j_mem (rAddM M b c v w) (rAddM_put _ _ _ _ _) ?_
  exact j_return C E dX6_add_21 (by decide) (by decide) (⟨rfl, rfl, rfl, rfl⟩)

set_option maxHeartbeats 4000000 in
set_option maxRecDepth 100000 in
theorem c_X6_weightWhere (l : Launch) (ω : jW) (γ : jG) (M : jM) (R : jR) {b : Nat} (g : gSums ω γ b) (c op v : Int32) : Ct l ω yX6_weightWhere cX6_weightWhere 6 (some .int) 2 0 0 [.ref b, .int c, .int op, .int v] γ M R (jx γ (some (.int (rWhere M b c op v))) M R) := by
  refine Ct_of (by decide) (Nat.le_of_ble_eq_true rfl) rfl (jcat_of rfl) ?_
  intro X C E hnm hxl hxn
  subst hxl
  have g0 := g.1
  refine j_iconst C (nI 0) dX6_weightWhere_0 (by decide) ?_
  refine j_istore C dX6_weightWhere_1 (by rw [hxn]; decide) ?_
  refine j_iconst C (nI 0) dX6_weightWhere_3 (by decide) ?_
  refine j_istore C dX6_weightWhere_4 (by rw [hxn]; decide) ?_
  refine j_loop 32 (fun k => [(0, .ref b), (1, .int c), (2, .int op), (3, .int v), (4, .int (sI (rWhF M b c op v) k)), (5, .int (nI k))]) (fun _ => M) (fun _ => R) (fun _ => True) trivial (fun k hk _ ih => ?_) (fun _ => ?_)
  · skip
    refine j_iload C dX6_weightWhere_6 rfl ?_
    refine j_bipush C (nI 32) dX6_weightWhere_8 (by decide) ?_
    refine j_icmp_ge C 41 dX6_weightWhere_10 (by decide) (fun h => absurd h (nI_ge hk (by decide))) (fun _ => ?_)
    refine j_iload C dX6_weightWhere_13 rfl ?_
    refine j_iload_n C dX6_weightWhere_15 rfl ?_
    refine j_iload_n C dX6_weightWhere_16 rfl ?_
    refine j_cSi C (c_X9_holds _ ω γ M R (nI k) op v) yc_X9_holds mn_X6_23 st_X9_holds dX6_weightWhere_17 rfl rfl (Nat.le_of_ble_eq_true rfl) (by decide) ?_
    refine j_if_eq C 35 dX6_weightWhere_20 (by decide) (fun h20 => ?_) (fun h20 => ?_)
    · skip
      rw [show sI (rWhF M b c op v) k = sI (rWhF M b c op v) (k + 1) from by simp [sI, rWhF, h20]]
      first | refine j_iinc1 C dX6_weightWhere_35 rfl (by rw [hxn]; decide) ?_ | refine j_iinc C _ dX6_weightWhere_35 rfl rfl (by rw [hxn]; decide) ?_
      refine j_goto C 6 dX6_weightWhere_38 (by decide) ?_
      exact ih trivial
    · skip
      refine j_iload C dX6_weightWhere_23 rfl ?_
      refine j_aload_n C dX6_weightWhere_25 rfl ?_
      refine j_iload_n C dX6_weightWhere_26 rfl ?_
      refine j_iload C dX6_weightWhere_27 rfl ?_
      refine j_cVi C (c_X6_weightOf _ ω γ M R g c (nI k)) yc_X6_weightOf mn_X6_15 im_X6_weightOf se_X6_weightOf rfl rfl dX6_weightWhere_29 rfl rfl (by assumption) (by decide) (Nat.le_of_ble_eq_true rfl) (by decide) ?_
      first | with_reducible refine j_iaddN C dX6_weightWhere_32 ?_ | refine j_iadd C dX6_weightWhere_32 ?_
      refine j_top (sI (rWhF M b c op v) (k + 1)) (by simp [sI, rWhF, h20]) ?_
      refine j_istore C dX6_weightWhere_33 (by rw [hxn]; decide) ?_
      first | refine j_iinc1 C dX6_weightWhere_35 rfl (by rw [hxn]; decide) ?_ | refine j_iinc C _ dX6_weightWhere_35 rfl rfl (by rw [hxn]; decide) ?_
      refine j_goto C 6 dX6_weightWhere_38 (by decide) ?_
      exact ih trivial
  · skip
    refine j_iload C dX6_weightWhere_6 rfl ?_
    refine j_bipush C (nI 32) dX6_weightWhere_8 (by decide) ?_
    refine j_icmp_ge C 41 dX6_weightWhere_10 (by decide) (fun _ => ?_) (fun h => absurd (Int32.le_refl _) h)
    refine j_iload C dX6_weightWhere_41 rfl ?_
    exact j_ireturn C E dX6_weightWhere_43 (rfl) (by decide) (by decide) (⟨rfl, rfl, rfl, rfl⟩)
