section LOOP
variable {X : jX} {ω : jW} {γ : jG} {cells slots : Nat} {x a h T v m bb L : Nat} {ns : Nat → Int32}
theorem law_cmp {i L : Nat} (hL : L ≤ 3072) (hi : i ≤ 10000) (h : ¬ nI L - nI 6 < nI i) : i + 6 ≤ L := by
  by_cases c : L < 6
  · have h1 := pk_sneg (a := L) (b := 6) (by decide) c
    exact absurd (Int32.lt_of_lt_of_le h1 (nI_pos' (by omega))) h
  · rw [pk_sub (by omega)] at h
    have := mt (nI_ltI (a := L - 6) (b := i) (by omega) (by omega)).mpr h
    omega
theorem law_loop (C : jC X ω cL_law RL 13 600000 7302250) (hxn : xn X = 4) (hX : va_X bb L ns (xs X) (xs X).heap) (hbl : bb < (xs X).heap.size) (hlo : jlo ω = (xs X).heap.size) (hL : L ≤ 3072) (hcs : cells ≤ 600000 ∧ slots ≤ 7302250) (g : gX ω γ x a h T v) (gm : gM ω γ m)
    (Kend : ∀ (M2 : jM) (R2 : jR) (l : List (Nat × Value)), J X ω γ M2 R2 cells slots 892 l []) : ∀ (n i b : Nat) (M : jM) (R : jR) (nh : Nat), i = 6 * b → i ≤ L + 5 → L + 1 ≤ i + n → eInv M R a h T v m b nh → J X ω γ M R cells slots 18 [(0, .ref bb), (1, .ref x), (2, .ref m), (3, .int (nI i))] [] := by
  intro n
  induction n using Nat.strongRecOn with
  | ind n ih =>
    intro i b M R nh hib hiL hn I
    refine j_iload_n C dL_law_18 rfl ?_
    refine j_aload_n C dL_law_19 rfl ?_
    refine j_slen C hX hbl hlo dL_law_20 ?_
    refine j_bipush C (nI 6) dL_law_21 (by decide) ?_
    refine j_isub C dL_law_23 ?_
    refine j_icmp_gt C 892 dL_law_24 (by decide) (fun _ => Kend M R _) (fun hc => ?_)
    have hi6 := law_cmp hL (by omega) hc
    have K : ∀ (M2 : jM) (R2 : jR) (nh2 : Nat), eInv M2 R2 a h T v m (b + 1) nh2 → J X ω γ M2 R2 cells slots 886 [(0, .ref bb), (1, .ref x), (2, .ref m), (3, .int (nI i))] [] := fun M2 R2 nh2 I2 => by
      refine j_iinc C (nI (i + 6)) dL_law_886 rfl (nI_add i 6) (by rw [hxn]; decide) ?_
      refine j_goto C 18 dL_law_889 (by decide) ?_
      exact ih (n - 6) (by omega) (i + 6) (b + 1) M2 R2 nh2 (by omega) (by omega) (by omega) I2
    have hb : b ≤ 1000 := by omega
    obtain ⟨r, n', c, f, e⟩ := I.2.2.2.1
    obtain ⟨len, hx⟩ := I.2.2.2.2.2.1
    refine j_aload_n C dL_law_27 rfl ?_
    refine j_iload_n C dL_law_28 rfl ?_
    refine j_sld C hX hbl hlo (show i < L by omega) (by omega) dL_law_29 ?_
    refine j_bipush C (nI 31) dL_law_30 (by decide) ?_
    refine j_iand C dL_law_32 ?_
    obtain ⟨j, hj, ej⟩ := pk_andE (ns i) (m := nI 31) 5 (by decide)
    rw [ej]
    by_cases h23 : j ≤ 23
    · match j, h23 with
      | 0, _ => exact j_tableIn C 0 144 dL_law_33 (by decide) (by decide) rfl (by decide) (law_0 C hxn hX hbl hlo (by omega) hL hcs g gm I e hx hb K)
      | 1, _ => exact j_tableIn C 1 207 dL_law_33 (by decide) (by decide) rfl (by decide) (law_1 C hxn hX hbl hlo (by omega) hL hcs g gm I e hx hb K)
      | 2, _ => exact j_tableIn C 2 230 dL_law_33 (by decide) (by decide) rfl (by decide) (law_2 C hxn hX hbl hlo (by omega) hL hcs g gm I e hx hb K)
      | 3, _ => exact j_tableIn C 3 263 dL_law_33 (by decide) (by decide) rfl (by decide) (law_3 C hxn hX hbl hlo (by omega) hL hcs g gm I e hx hb K)
      | 4, _ => exact j_tableIn C 4 276 dL_law_33 (by decide) (by decide) rfl (by decide) (law_4 C hxn hX hbl hlo (by omega) hL hcs g gm I e hx hb K)
      | 5, _ => exact j_tableIn C 5 309 dL_law_33 (by decide) (by decide) rfl (by decide) (law_5 C hxn hX hbl hlo (by omega) hL hcs g gm I e hx hb K)
      | 6, _ => exact j_tableIn C 6 342 dL_law_33 (by decide) (by decide) rfl (by decide) (law_6 C hxn hX hbl hlo (by omega) hL hcs g gm I e hx hb K)
      | 7, _ => exact j_tableIn C 7 355 dL_law_33 (by decide) (by decide) rfl (by decide) (law_7 C hxn hX hbl hlo (by omega) hL hcs g gm I e hx hb K)
      | 8, _ => exact j_tableIn C 8 388 dL_law_33 (by decide) (by decide) rfl (by decide) (law_8 C hxn hX hbl hlo (by omega) hL hcs g gm I e hx hb K)
      | 9, _ => exact j_tableIn C 9 451 dL_law_33 (by decide) (by decide) rfl (by decide) (law_9 C hxn hX hbl hlo (by omega) hL hcs g gm I e hx hb K)
      | 10, _ => exact j_tableIn C 10 474 dL_law_33 (by decide) (by decide) rfl (by decide) (law_10 C hxn hX hbl hlo (by omega) hL hcs g gm I e hx hb K)
      | 11, _ => exact j_tableIn C 11 507 dL_law_33 (by decide) (by decide) rfl (by decide) (law_11 C hxn hX hbl hlo (by omega) hL hcs g gm I e hx hb K)
      | 12, _ => exact j_tableIn C 12 530 dL_law_33 (by decide) (by decide) rfl (by decide) (law_12 C hxn hX hbl hlo (by omega) hL hcs g gm I e hx hb K)
      | 13, _ => exact j_tableIn C 13 563 dL_law_33 (by decide) (by decide) rfl (by decide) (law_13 C hxn hX hbl hlo (by omega) hL hcs g gm I e hx hb K)
      | 14, _ => exact j_tableIn C 14 596 dL_law_33 (by decide) (by decide) rfl (by decide) (law_14 C hxn hX hbl hlo (by omega) hL hcs g gm I e hx hb K)
      | 15, _ => exact j_tableIn C 15 629 dL_law_33 (by decide) (by decide) rfl (by decide) (law_15 C hxn hX hbl hlo (by omega) hL hcs g gm I e hx hb K)
      | 16, _ => exact j_tableIn C 16 652 dL_law_33 (by decide) (by decide) rfl (by decide) (law_16 C hxn hX hbl hlo (by omega) hL hcs g gm I e hx hb K)
      | 17, _ => exact j_tableIn C 17 675 dL_law_33 (by decide) (by decide) rfl (by decide) (law_17 C hxn hX hbl hlo (by omega) hL hcs g gm I e hx hb K)
      | 18, _ => exact j_tableIn C 18 738 dL_law_33 (by decide) (by decide) rfl (by decide) (law_18 C hxn hX hbl hlo (by omega) hL hcs g gm I e hx hb K)
      | 19, _ => exact j_tableIn C 19 801 dL_law_33 (by decide) (by decide) rfl (by decide) (law_19 C hxn hX hbl hlo (by omega) hL hcs g gm I e hx hb K)
      | 20, _ => exact j_tableIn C 20 814 dL_law_33 (by decide) (by decide) rfl (by decide) (law_20 C hxn hX hbl hlo (by omega) hL hcs g gm I e hx hb K)
      | 21, _ => exact j_tableIn C 21 827 dL_law_33 (by decide) (by decide) rfl (by decide) (law_21 C hxn hX hbl hlo (by omega) hL hcs g gm I e hx hb K)
      | 22, _ => exact j_tableIn C 22 850 dL_law_33 (by decide) (by decide) rfl (by decide) (law_22 C hxn hX hbl hlo (by omega) hL hcs g gm I e hx hb K)
      | 23, _ => exact j_tableIn C 23 863 dL_law_33 (by decide) (by decide) rfl (by decide) (law_23 C hxn hX hbl hlo (by omega) hL hcs g gm I e hx hb K)
      | j + 24, h => exact absurd h (by omega)
    · exact j_tableOut C 886 dL_law_33 (Or.inr (by rw [nI_toInt (by omega)]; omega)) (by decide) (K M R nh (e_same0 I))
/-- the law from its first instruction on -/
theorem law_first (C : jC X ω cL_law RL 13 600000 7302250) (hxn : xn X = 4) (hX : va_X bb L ns (xs X) (xs X).heap) (hbl : bb < (xs X).heap.size) (hlo : jlo ω = (xs X).heap.size) (hL : L ≤ 3072) {M : jM} {R : jR} (hg : jn γ = 0)
    (Kend : ∀ (γ2 : jG) (M2 : jM) (R2 : jR) (l : List (Nat × Value)) (cells slots : Nat), cells ≤ 600000 ∧ slots ≤ 7302250 → J X ω γ2 M2 R2 cells slots 892 l []) : J X ω γ M R 0 0 0 [(0, .ref bb)] [] := by
  refine j_new C cl9 (by decide) cw_L_7 inst9 in9 dL_law_0 (by decide) ?_
  refine j_dup C dL_law_3 rfl ?_
  refine j_callI C (c_X9_init _ ω _ _ _ (a := jlo ω + jn γ) (Nat.le_add_right _ _) rfl row_self) yc_X9_init mn_L_9 im_X9_init rfl dL_law_4 rfl rfl (Nat.le_of_ble_eq_true rfl) (by decide) (by decide) ?_
  rintro v1 γ1 M1 R1 ⟨rfl, n1, r1⟩
  refine j_astore_n C dL_law_7 (by rw [hxn]; decide) ?_
  refine j_new C cl10 (by decide) cw_L_10 inst10 in10 dL_law_8 (by decide) ?_
  refine j_dup C dL_law_11 rfl ?_
  refine j_callI C (c_X10_init _ ω _ _ _ (a := jlo ω + jn γ1) (Nat.le_add_right _ _) rfl row_self) yc_X10_init mn_L_12 im_X10_init rfl dL_law_12 rfl rfl (Nat.le_of_ble_eq_true rfl) (by decide) (by decide) ?_
  rintro v2 γ2 M2 R2 ⟨rfl, n2, r2⟩
  refine j_astore_n C dL_law_15 (by rw [hxn]; decide) ?_
  refine j_iconst C (nI 0) dL_law_16 (by decide) ?_
  refine j_istore_n C dL_law_17 (by rw [hxn]; decide) ?_
  rw [hg, Nat.add_zero] at n1 r1 ⊢
  rw [n1] at n2 r2 ⊢
  have hf : ∀ i, i < 221 → row γ2 M2 R2 (jlo ω + i) = dFace (jlo ω) i := fun i hi => by
    rw [r2, if_neg (by omega), ← n1, row_new, if_neg (by omega), r1, if_pos (by omega), show jlo ω + i - jlo ω = i by omega]
  have hm : ∀ i, i < 5 → row γ2 M2 R2 (jlo ω + 221 + i) = dMod (jlo ω + 221) i := fun i hi => by
    rw [r2, if_pos (by omega), show jlo ω + 221 + i - (jlo ω + 221) = i by omega]
  have g := gX_of (ω := ω) (γ := γ2) (M := M2) (R := R2) (b := jlo ω) (Nat.le_refl _) (by omega) hf
  have gm := gM_of (ω := ω) (γ := γ2) (M := M2) (R := R2) (b := jlo ω + 221) (by omega) (by omega) hm
  have cb := CB_of (γ := γ2) hf
  obtain ⟨e1, ⟨np, p1, p2, p3, -⟩, len, x1, x2, x3, x4⟩ := eAll_of (γ := γ2) hf hm
  have hnp : np = 0 := (nI_eq (by omega) (by decide)).mp (p2.symm.trans cb.1.2.1)
  subst hnp
  have I : eInv M2 R2 (jlo ω + 1) (jlo ω + 44) (jlo ω + 218) (jlo ω + 220) (jlo ω + 221) 0 0 := ⟨cb.1, p3, fun i hi => absurd hi (Nat.not_lt_zero i), e1, cb.2.2.2.2.2.2.2.1, ⟨len, x1, x2, x3, x4⟩, by omega, by omega, by omega, by omega⟩
  exact law_loop C hxn hX hbl hlo hL (by decide) g gm (fun M3 R3 l => Kend _ M3 R3 l _ _ (by decide)) (L + 1) 0 0 M2 R2 0 rfl (by omega) (by omega) I
end LOOP
