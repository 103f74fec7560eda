/-- the end of a run, from either way, with the words of what it became -/
theorem jRk {X : jX} {ω : jW} {γ : jG} {R : jR} {M Mc N N1 : jM} {d r c n n1 b m t w y q : Nat} {own how bb est num : Int32} (C : jC X ω cL_runs yL_runs.cls 5 0 0) (E : jE X ω (some .int) 0 0 (lRp γ M R d r c n b m t N)) (hxn : xn X = 19) (g : gD ω γ d) (P : lP5 Mc d r c n1 b N1 m t own how bb) (hq : q < n1) (hnum : num = N1 (m + 1) (367 + 9 * q + 0)) (hB : ∀ p, p < n1 → isB (N1 (m + 1) (367 + 9 * p + 7))) (hb : b ≤ 90000) (hy : y = 9 ∨ y < zN (N (m + 1)) t) (hw : jArr ω γ w 12 4) (hwd : d + 6 ≤ w) (hV : ∀ k, k < 4 → M w k = N (m + 4) k) (hz : zN (N1 (m + 1)) t = zN (N (m + 1)) t) (hv : N1 (m + 4) = N (m + 4)) (eG : zGoes N m t r n (zN (N (m + 1)) t) = gTA N1 m t r y n1 q own est bb num how) (mo : ∀ x, (x < d ∨ d + 6 ≤ x) → Mc x = M x) : J X ω γ Mc R 0 0 389 [(0, .ref d), (1, .ref (d + 1)), (2, .ref (d + 2)), (3, .ref (d + 3)), (4, .ref (d + 4)), (5, .ref (d + 5)), (6, .int (nI t)), (7, .ref w), (8, .int own), (9, .int (nI q)), (10, .int (nI y)), (11, .int est)] [] := by
  refine c_runs_kept C E hxn g P hq hnum hB hb (by rw [hz]; exact hy) hw hwd (fun k hk => by rw [mo w (Or.inr hwd), hV k hk, hv]) ?_
  intro Mf n' h1 h2 h3 h4
  unfold lRp
  rw [eG, ← hz, ← hv]
  exact ⟨rfl, rfl, rfl, fun x hx => by rw [h1 x hx, mo x hx], n', h3, h4, h2⟩
theorem jRn {X : jX} {ω : jW} {γ : jG} {R : jR} {M Mc N N1 : jM} {d r c n n1 b m t w y : Nat} {own how bb est : Int32} (C : jC X ω cL_runs yL_runs.cls 5 0 0) (E : jE X ω (some .int) 0 0 (lRp γ M R d r c n b m t N)) (hxn : xn X = 19) (g : gD ω γ d) (P : lP5 Mc d r c n1 b N1 m t own how bb) (hB : ∀ p, p < n1 → isB (N1 (m + 1) (367 + 9 * p + 7))) (hb : b ≤ 90000) (hy : y = 9 ∨ y < zN (N (m + 1)) t) (hw : jArr ω γ w 12 4) (hwd : d + 6 ≤ w) (hV : ∀ k, k < 4 → M w k = N (m + 4) k) (hz : zN (N1 (m + 1)) t = zN (N (m + 1)) t) (hv : N1 (m + 4) = N (m + 4)) (eG : zGoes N m t r n (zN (N (m + 1)) t) = gTB N1 m t r y own est bb (-4) how) (mo : ∀ x, (x < d ∨ d + 6 ≤ x) → Mc x = M x) : J X ω γ Mc R 0 0 389 [(0, .ref d), (1, .ref (d + 1)), (2, .ref (d + 2)), (3, .ref (d + 3)), (4, .ref (d + 4)), (5, .ref (d + 5)), (6, .int (nI t)), (7, .ref w), (8, .int own), (9, .int (-1)), (10, .int (nI y)), (11, .int est)] [] := by
  refine c_runs_not C E hxn g P hB hb (by rw [hz]; exact hy) hw hwd (fun k hk => by rw [mo w (Or.inr hwd), hV k hk, hv]) ?_
  intro Mf n' h1 h2 h3 h4
  unfold lRp
  rw [eG, ← hz, ← hv]
  exact ⟨rfl, rfl, rfl, fun x hx => by rw [h1 x hx, mo x hx], n', h3, h4, h2⟩
set_option maxHeartbeats 16000000 in
set_option maxRecDepth 100000 in
theorem c_L_runs (l : Launch) (ω : jW) (γ : jG) (M : jM) (R : jR) {d r c n b cap t w m : Nat} {N : jM} (g : gD ω γ d) (P : lP0 M d r c n b cap N m t) (hb : b ≤ 90000) (hw : jArr ω γ w 12 4) (hwd : d + 6 ≤ w) (hV : ∀ k, k < 4 → M w k = N (m + 4) k) : Ct l ω yL_runs cL_runs 19 (some .int) 5 0 0 [.ref d, .ref (d + 1), .ref (d + 2), .ref (d + 3), .ref (d + 4), .ref (d + 5), .int (nI t), .ref w] γ M R (lRp γ M R d r c n b m t N) := by
  refine Ct_of (by decide) (Nat.le_of_ble_eq_true rfl) rfl (jcat_of rfl) ?_
  intro X C E hnm hxl hxn
  subst hxl
  obtain ⟨g0, g1, g2, g3, g4, g5⟩ := id g
  obtain ⟨p1, p2, p3, p4, p5, p6, p7, p8, p9, p10, p11, p12, p13, p14, p15, p16, p17, p18, p19⟩ := id P
  have H := lP0_H (Mb := M) P (fun _ _ => rfl)
  have hr30 := p9.2.1
  have hc6 := p9.2.2.2.2.1
  have hn4 := lN4 p9 p19
  have d4 : M d 4 = nI n := (p1 4 (by decide)).trans p10
  have ht6 : t < 6 := by omega
  obtain ⟨own, hown⟩ : ∃ own, own = gO N m t (zN (N (m + 1)) t) := ⟨_, rfl⟩
  have z80 : ∃ z, z ≤ 80 ∧ own = nI z := by rw [hown]; exact zCls_z80 _ _ _ _ hn4.2.1
  have Q0 : zPn (N (m + 1)) n := fun q hq => ⟨(p16 q hq).1, by obtain ⟨⟨s, s1, s2⟩, -⟩ := p8 q hq; exact ⟨s, by omega, s2⟩⟩
  refine j_aload_n C dL_runs_0 rfl ?_
  refine j_aload_n C dL_runs_1 rfl ?_
  refine j_aload_n C dL_runs_2 rfl ?_
  refine j_aload_n C dL_runs_3 rfl ?_
  refine j_iload C dL_runs_4 rfl ?_
  refine j_aload C dL_runs_6 rfl ?_
  refine j_cSi C (c_L_sort _ ω γ M R ⟨g0, g1, g2, g3, g4, g5⟩ H p9 hw hV p19) yc_L_sort mn_L_47 st_L_sort dL_runs_8 rfl rfl (Nat.le_of_ble_eq_true rfl) (by decide) ?_
  refine j_top own hown.symm ?_
  refine j_istore C dL_runs_11 (by rw [hxn]; decide) ?_
  refine j_iconst C (-1) dL_runs_13 (by decide) ?_
  refine j_istore C dL_runs_14 (by rw [hxn]; decide) ?_
  refine j_iconst C (nI 0) dL_runs_16 (by decide) ?_
  refine j_istore C dL_runs_17 (by rw [hxn]; decide) ?_
  refine j_locs [0, 1, 2, 3, 4, 5, 6, 7, 8, 9, 10] (l' := [(0, .ref d), (1, .ref (d + 1)), (2, .ref (d + 2)), (3, .ref (d + 3)), (4, .ref (d + 4)), (5, .ref (d + 5)), (6, .int (nI t)), (7, .ref w), (8, .int own), (9, .int (lLast (zFor (N (m + 1)) (nI t) own) 0)), (10, .int (nI 0))]) rfl ?_
  refine j_loop n (fun k => [(0, .ref d), (1, .ref (d + 1)), (2, .ref (d + 2)), (3, .ref (d + 3)), (4, .ref (d + 4)), (5, .ref (d + 5)), (6, .int (nI t)), (7, .ref w), (8, .int own), (9, .int (lLast (zFor (N (m + 1)) (nI t) own) k)), (10, .int (nI k))]) (fun _ => M) (fun _ => R) (fun _ => True) trivial (fun k hk _ ih => ?_) (fun _ => ?_)
  · skip
    refine j_iload C dL_runs_19 rfl ?_
    refine j_aload_n C dL_runs_21 rfl ?_
    refine j_iconst C (nI 4) dL_runs_22 (by decide) ?_
    refine j_ialdN C (by assumption) dL_runs_23 (by omega) (by decide) ?_
    refine j_top (nI n) (d4) ?_
    refine j_icmp_ge C 72 dL_runs_24 (by decide) (fun h => absurd h (nI_ge hk (by omega))) (fun _ => ?_)
    refine j_aload C dL_runs_27 rfl ?_
    refine j_bipush C (nI 8) dL_runs_29 (by decide) ?_
    refine j_iload C dL_runs_31 rfl ?_
    first | with_reducible refine j_imulN C dL_runs_33 ?_ | refine j_imul C dL_runs_33 ?_
    refine j_iconst C (nI 1) dL_runs_34 (by decide) ?_
    first | with_reducible refine j_iaddN C dL_runs_35 ?_ | refine j_iadd C dL_runs_35 ?_
    refine j_ialdN C (by assumption) dL_runs_36 (by omega) (by decide) ?_
    refine j_top (N (m + 1) (367 + 9 * k + 1)) ((p5 k hk).1 1 (by decide)) ?_
    refine j_iload C dL_runs_37 rfl ?_
    refine j_icmp_ne C 62 dL_runs_39 (by decide) (fun h39 => ?_) (fun h39 => ?_)
    · skip
      refine j_iload C dL_runs_62 rfl ?_
      refine j_top (lLast (zFor (N (m + 1)) (nI t) own) (k + 1)) (by simp only [lLast]; rw [if_neg (by simp [zFor, h39])]) ?_
      refine j_istore C dL_runs_64 (by rw [hxn]; decide) ?_
      first | refine j_iinc1 C dL_runs_66 rfl (by rw [hxn]; decide) ?_ | refine j_iinc C _ dL_runs_66 rfl rfl (by rw [hxn]; decide) ?_
      refine j_goto C 19 dL_runs_69 (by decide) ?_
      exact ih trivial
    · skip
      refine j_aload C dL_runs_42 rfl ?_
      refine j_bipush C (nI 8) dL_runs_44 (by decide) ?_
      refine j_iload C dL_runs_46 rfl ?_
      first | with_reducible refine j_imulN C dL_runs_48 ?_ | refine j_imul C dL_runs_48 ?_
      refine j_iconst C (nI 2) dL_runs_49 (by decide) ?_
      first | with_reducible refine j_iaddN C dL_runs_50 ?_ | refine j_iadd C dL_runs_50 ?_
      refine j_ialdN C (by assumption) dL_runs_51 (by omega) (by decide) ?_
      refine j_top (N (m + 1) (367 + 9 * k + 2)) ((p5 k hk).1 2 (by decide)) ?_
      refine j_iload C dL_runs_52 rfl ?_
      refine j_icmp_ne C 62 dL_runs_54 (by decide) (fun h54 => ?_) (fun h54 => ?_)
      · skip
        refine j_iload C dL_runs_62 rfl ?_
        refine j_top (lLast (zFor (N (m + 1)) (nI t) own) (k + 1)) (by simp only [lLast]; rw [if_neg (by simp [zFor, h39, h54])]) ?_
        refine j_istore C dL_runs_64 (by rw [hxn]; decide) ?_
        first | refine j_iinc1 C dL_runs_66 rfl (by rw [hxn]; decide) ?_ | refine j_iinc C _ dL_runs_66 rfl rfl (by rw [hxn]; decide) ?_
        refine j_goto C 19 dL_runs_69 (by decide) ?_
        exact ih trivial
      · skip
        refine j_iload C dL_runs_57 rfl ?_
        refine j_goto C 64 dL_runs_59 (by decide) ?_
        refine j_top (lLast (zFor (N (m + 1)) (nI t) own) (k + 1)) (by simp only [lLast]; rw [if_pos (by simp [zFor, h39, h54])]) ?_
        refine j_istore C dL_runs_64 (by rw [hxn]; decide) ?_
        first | refine j_iinc1 C dL_runs_66 rfl (by rw [hxn]; decide) ?_ | refine j_iinc C _ dL_runs_66 rfl rfl (by rw [hxn]; decide) ?_
        refine j_goto C 19 dL_runs_69 (by decide) ?_
        exact ih trivial
  · skip
    refine j_iload C dL_runs_19 rfl ?_
    refine j_aload_n C dL_runs_21 rfl ?_
    refine j_iconst C (nI 4) dL_runs_22 (by decide) ?_
    refine j_ialdN C (by assumption) dL_runs_23 (by omega) (by decide) ?_
    refine j_top (nI n) (d4) ?_
    refine j_icmp_ge C 72 dL_runs_24 (by decide) (fun _ => ?_) (fun h => absurd (Int32.le_refl _) h)
    rcases lLast_z (zFor (N (m + 1)) (nI t) own) n with ⟨q, hq, hqz, el, ez⟩ | ⟨hno, el, ez⟩
    · skip
      refine j_locs [0, 1, 2, 3, 4, 5, 6, 7, 8, 9, 10] (l' := [(0, .ref d), (1, .ref (d + 1)), (2, .ref (d + 2)), (3, .ref (d + 3)), (4, .ref (d + 4)), (5, .ref (d + 5)), (6, .int (nI t)), (7, .ref w), (8, .int own), (9, .int (nI q)), (10, .int (nI n))]) (by rw [el]; rfl) ?_
      have hgP : gP N m t n (zN (N (m + 1)) t) = nI q := by unfold gP; rw [← hown]; exact ez
      obtain ⟨t2, ht2, et2, y, hy, ey⟩ := p17 q hq
      have et : t2 = t := nI_inj (et2.symm.trans (zFor_of hqz)) (by omega) (by omega)
      rw [et] at hy
      refine j_aload C dL_runs_72 rfl ?_
      refine j_iconst C (nI 0) dL_runs_74 (by decide) ?_
      refine j_iload C dL_runs_75 rfl ?_
      refine j_iastN C (by assumption) dL_runs_77 (by omega) (by decide) ?_
      refine j_aload C dL_runs_78 rfl ?_
      refine j_iconst C (nI 5) dL_runs_80 (by decide) ?_
      refine j_iload C dL_runs_81 rfl ?_
      refine j_iastN C (by assumption) dL_runs_83 (by omega) (by decide) ?_
      refine j_aload C dL_runs_84 rfl ?_
      refine j_bipush C (nI 10) dL_runs_86 (by decide) ?_
      refine j_iload C dL_runs_88 rfl ?_
      refine j_if_ge C 97 dL_runs_90 (by decide) (fun _ => ?_) (fun h => absurd (nI_pos' (by omega)) h)
      refine j_iconst C (nI 0) dL_runs_97 (by decide) ?_
      refine j_iastN C (by assumption) dL_runs_98 (by omega) (by decide) ?_
      refine j_aload C dL_runs_99 rfl ?_
      refine j_bipush C (nI 12) dL_runs_101 (by decide) ?_
      refine j_bipush C (-4) dL_runs_103 (by decide) ?_
      refine j_iastN C (by assumption) dL_runs_105 (by omega) (by decide) ?_
      obtain ⟨Mb, hMb⟩ : ∃ Mb, Mb = jup (jup (jup (jup M (d + 5) 0 (nI t)) (d + 5) 5 own) (d + 5) 10 (nI 0)) (d + 5) 12 (-4) := ⟨_, rfl⟩
      refine j_mem Mb hMb.symm ?_
      have hb0 : ∀ x, x ≠ d + 5 → Mb x = M x := fun x hx => by rw [hMb, jup_row _ _ hx, jup_row _ _ hx, jup_row _ _ hx, jup_row _ _ hx]
      have l0 : Mb (d + 5) 0 = nI t := by rw [hMb, jup_nk _ _ (by decide), jup_nk _ _ (by decide), jup_nk _ _ (by decide), jup_eq]
      have l5 : Mb (d + 5) 5 = own := by rw [hMb, jup_nk _ _ (by decide), jup_nk _ _ (by decide), jup_eq]
      have l10 : Mb (d + 5) 10 = nI 0 := by rw [hMb, jup_nk _ _ (by decide), jup_eq]
      have l12 : Mb (d + 5) 12 = -4 := by rw [hMb, jup_eq]
      have hVb : ∀ k, k < 4 → Mb w k = N (m + 4) k := fun k hk => by rw [hb0 w (by omega)]; exact hV k hk
      refine j_iload C dL_runs_106 rfl ?_
      refine j_if_ge C 126 dL_runs_108 (by decide) (fun _ => ?_) (fun h => absurd (nI_pos' (by omega)) h)
      refine j_aload C dL_runs_126 rfl ?_
      refine j_bipush C (nI 8) dL_runs_128 (by decide) ?_
      refine j_iload C dL_runs_130 rfl ?_
      first | with_reducible refine j_imulN C dL_runs_132 ?_ | refine j_imul C dL_runs_132 ?_
      refine j_iconst C (nI 3) dL_runs_133 (by decide) ?_
      first | with_reducible refine j_iaddN C dL_runs_134 ?_ | refine j_iadd C dL_runs_134 ?_
      refine j_ialdN C (by assumption) dL_runs_135 (by omega) (by decide) ?_
      refine j_top (nI y) (by rw [hb0 _ (by omega)]; exact ((p5 q hq).1 3 (by decide)).trans ey) ?_
      refine j_istore C dL_runs_136 (by rw [hxn]; decide) ?_
      refine j_iload C dL_runs_138 rfl ?_
      refine j_if_ge C 160 dL_runs_140 (by decide) (fun _ => ?_) (fun h => absurd (nI_pos' (by omega)) h)
      refine j_aload C dL_runs_160 rfl ?_
      refine j_bipush C (nI 8) dL_runs_162 (by decide) ?_
      refine j_iload C dL_runs_164 rfl ?_
      first | with_reducible refine j_imulN C dL_runs_166 ?_ | refine j_imul C dL_runs_166 ?_
      refine j_iconst C (nI 4) dL_runs_167 (by decide) ?_
      first | with_reducible refine j_iaddN C dL_runs_168 ?_ | refine j_iadd C dL_runs_168 ?_
      refine j_ialdN C (by assumption) dL_runs_169 (by omega) (by decide) ?_
      refine j_top (N (m + 1) (367 + 9 * q + 4)) (by rw [hb0 _ (by omega)]; exact (p5 q hq).1 4 (by decide)) ?_
      refine j_istore C dL_runs_170 (by rw [hxn]; decide) ?_
      refine j_iload C dL_runs_172 rfl ?_
      refine j_if_ge C 381 dL_runs_174 (by decide) (fun _ => ?_) (fun h => absurd (nI_pos' (by omega)) h)
      refine j_aload_n C dL_runs_381 rfl ?_
      refine j_bipush C (nI 7) dL_runs_382 (by decide) ?_
      refine j_dup2 C dL_runs_384 rfl rfl ?_
      refine j_ialdN C (by assumption) dL_runs_385 (by omega) (by decide) ?_
      refine j_top (N (m + 1) 7) (by rw [hb0 d (by omega)]; exact p1 7 (by decide)) ?_
      refine j_iconst C (nI 1) dL_runs_386 (by decide) ?_
      first | with_reducible refine j_iaddN C dL_runs_387 ?_ | refine j_iadd C dL_runs_387 ?_
      refine j_iastN C (by assumption) dL_runs_388 (by omega) (by decide) ?_
      obtain ⟨Mc, hMc⟩ : ∃ Mc, Mc = jup Mb d 7 (N (m + 1) 7 + nI 1) := ⟨_, rfl⟩
      refine j_mem Mc hMc.symm ?_
      refine j_locs [0, 1, 2, 3, 4, 5, 6, 7, 8, 9, 10, 11] rfl ?_
      have hz28 : zN ((jup N (m + 1) 28 (-4)) (m + 1)) t = zN (N (m + 1)) t := by unfold zN; rw [jup_nk _ _ (by omega)]
      have hv28 : (jup N (m + 1) 28 (-4)) (m + 4) = N (m + 4) := jup_row _ _ (by omega)
      have eG : zGoes N m t r n (zN (N (m + 1)) t) = gTA (jup N (m + 1) 28 (-4)) m t r y n q own (N (m + 1) (367 + 9 * q + 4)) (nI 1) (gT1 (jup N (m + 1) 28 (-4)) m t (nI 1) (m + 1) (367 + 9 * q + 0)) (nI 0) := by rw [hown]; exact zGoes_there (by rw [hgP]; exact nI_pos (by omega)) hgP (by omega) ey (by omega)
      have P5 := lP0_there P hb0 l0 l5 l10 l12 hMc
      have mo : ∀ x, (x < d ∨ d + 6 ≤ x) → Mc x = M x := fun x hx => by rw [hMc, jup_row _ _ (by omega), hb0 x (by omega)]
      have hB : ∀ p, p < n → isB ((jup N (m + 1) 28 (-4)) (m + 1) (367 + 9 * p + 7)) := fun p hp => by rw [jup_nk _ _ (by omega)]; exact (p16 p hp).1
      exact jRk C E hxn (N1 := (jup N (m + 1) 28 (-4))) g P5 hq (gT1_s _ (by omega) (by omega) (by omega)) hB hb hy hw hwd hV hz28 hv28 eG mo
    · skip
      refine j_locs [0, 1, 2, 3, 4, 5, 6, 7, 8, 9, 10] (l' := [(0, .ref d), (1, .ref (d + 1)), (2, .ref (d + 2)), (3, .ref (d + 3)), (4, .ref (d + 4)), (5, .ref (d + 5)), (6, .int (nI t)), (7, .ref w), (8, .int own), (9, .int (-1)), (10, .int (nI n))]) (by rw [el]; rfl) ?_
      have hgP : gP N m t n (zN (N (m + 1)) t) < 0 := by unfold gP; rw [← hown, ez]; decide
      obtain ⟨wy, hwy⟩ : ∃ wy, wy = gWy N m t (zN (N (m + 1)) t) := ⟨_, rfl⟩
      obtain ⟨est, hest⟩ : ∃ est, est = gE N m t (zN (N (m + 1)) t) := ⟨_, rfl⟩
      have hyW : wy = 9 ∨ wy < (zN (N (m + 1)) t) := by rw [hwy]; exact zBest_rg _ _ _ _ _ (Nat.le_refl _)
      refine j_aload C dL_runs_72 rfl ?_
      refine j_iconst C (nI 0) dL_runs_74 (by decide) ?_
      refine j_iload C dL_runs_75 rfl ?_
      refine j_iastN C (by assumption) dL_runs_77 (by omega) (by decide) ?_
      refine j_aload C dL_runs_78 rfl ?_
      refine j_iconst C (nI 5) dL_runs_80 (by decide) ?_
      refine j_iload C dL_runs_81 rfl ?_
      refine j_iastN C (by assumption) dL_runs_83 (by omega) (by decide) ?_
      refine j_aload C dL_runs_84 rfl ?_
      refine j_bipush C (nI 10) dL_runs_86 (by decide) ?_
      refine j_iload C dL_runs_88 rfl ?_
      refine j_if_ge C 97 dL_runs_90 (by decide) (fun h => absurd h (by decide)) (fun _ => ?_)
      refine j_iconst C (nI 2) dL_runs_93 (by decide) ?_
      refine j_goto C 98 dL_runs_94 (by decide) ?_
      refine j_iastN C (by assumption) dL_runs_98 (by omega) (by decide) ?_
      refine j_aload C dL_runs_99 rfl ?_
      refine j_bipush C (nI 12) dL_runs_101 (by decide) ?_
      refine j_bipush C (-4) dL_runs_103 (by decide) ?_
      refine j_iastN C (by assumption) dL_runs_105 (by omega) (by decide) ?_
      obtain ⟨Mb, hMb⟩ : ∃ Mb, Mb = jup (jup (jup (jup M (d + 5) 0 (nI t)) (d + 5) 5 own) (d + 5) 10 (nI 2)) (d + 5) 12 (-4) := ⟨_, rfl⟩
      refine j_mem Mb hMb.symm ?_
      have hb0 : ∀ x, x ≠ d + 5 → Mb x = M x := fun x hx => by rw [hMb, jup_row _ _ hx, jup_row _ _ hx, jup_row _ _ hx, jup_row _ _ hx]
      have l0 : Mb (d + 5) 0 = nI t := by rw [hMb, jup_nk _ _ (by decide), jup_nk _ _ (by decide), jup_nk _ _ (by decide), jup_eq]
      have l5 : Mb (d + 5) 5 = own := by rw [hMb, jup_nk _ _ (by decide), jup_nk _ _ (by decide), jup_eq]
      have l10 : Mb (d + 5) 10 = nI 2 := by rw [hMb, jup_nk _ _ (by decide), jup_eq]
      have l12 : Mb (d + 5) 12 = -4 := by rw [hMb, jup_eq]
      have hVb : ∀ k, k < 4 → Mb w k = N (m + 4) k := fun k hk => by rw [hb0 w (by omega)]; exact hV k hk
      refine j_iload C dL_runs_106 rfl ?_
      refine j_if_ge C 126 dL_runs_108 (by decide) (fun h => absurd h (by decide)) (fun _ => ?_)
      refine j_aload_n C dL_runs_111 rfl ?_
      refine j_aload_n C dL_runs_112 rfl ?_
      refine j_aload_n C dL_runs_113 rfl ?_
      refine j_aload_n C dL_runs_114 rfl ?_
      refine j_iload C dL_runs_115 rfl ?_
      refine j_aload C dL_runs_117 rfl ?_
      refine j_iconst C (nI 0) dL_runs_119 (by decide) ?_
      refine j_cSi C (c_L_way _ ω γ Mb R ⟨g0, g1, g2, g3, g4, g5⟩ (lP0_H P hb0) p9 hw hVb p19) yc_L_way mn_L_51 st_L_way dL_runs_120 rfl rfl (Nat.le_of_ble_eq_true rfl) (by decide) ?_
      refine j_top (nI wy) (by rw [hwy]; rfl) ?_
      refine j_goto C 136 dL_runs_123 (by decide) ?_
      refine j_istore C dL_runs_136 (by rw [hxn]; decide) ?_
      refine j_iload C dL_runs_138 rfl ?_
      refine j_if_ge C 160 dL_runs_140 (by decide) (fun h => absurd h (by decide)) (fun _ => ?_)
      refine j_aload_n C dL_runs_143 rfl ?_
      refine j_aload_n C dL_runs_144 rfl ?_
      refine j_aload_n C dL_runs_145 rfl ?_
      refine j_aload_n C dL_runs_146 rfl ?_
      refine j_iload C dL_runs_147 rfl ?_
      refine j_aload C dL_runs_149 rfl ?_
      refine j_iload C dL_runs_151 rfl ?_
      refine j_iconst C (nI 0) dL_runs_153 (by decide) ?_
      refine j_cSi C (c_L_cost0 _ ω γ Mb R ⟨g0, g1, g2, g3, g4, g5⟩ (lP0_H P hb0) p9 hw hVb p19 hyW) yc_L_cost mn_L_43 st_L_cost dL_runs_154 rfl rfl (Nat.le_of_ble_eq_true rfl) (by decide) ?_
      refine j_top est (by rw [hest]; unfold gE; rw [← hwy]) ?_
      refine j_goto C 170 dL_runs_157 (by decide) ?_
      refine j_istore C dL_runs_170 (by rw [hxn]; decide) ?_
      refine j_iload C dL_runs_172 rfl ?_
      refine j_if_ge C 381 dL_runs_174 (by decide) (fun h => absurd h (by decide)) (fun _ => ?_)
      refine j_aload_n C dL_runs_177 rfl ?_
      refine j_aload C dL_runs_178 rfl ?_
      refine j_cSi C (c_L_drops _ ω γ Mb R ⟨g0, g1, g2, g3, g4, g5⟩ (by rw [hb0 d (by omega)]; exact d4) p11 (lPl_c p5 (hb0 _ (by omega)) (fun _ _ _ => rfl)) Q0) yc_L_drops mn_L_55 st_L_drops dL_runs_180 rfl rfl (Nat.le_of_ble_eq_true rfl) (by decide) ?_
      refine j_istore C dL_runs_183 (by rw [hxn]; decide) ?_
      have I0 := lCl_0 P hb0 l12
      refine j_while (σ := Nat × jM × jM × Int32) (fun s => [(0, .ref d), (1, .ref (d + 1)), (2, .ref (d + 2)), (3, .ref (d + 3)), (4, .ref (d + 4)), (5, .ref (d + 5)), (6, .int (nI t)), (7, .ref w), (8, .int own), (9, .int (-1)), (10, .int (nI wy)), (11, .int est), (12, .int (zMI (zMin (s.2.1 (m + 1)) s.1)))]) (fun s => s.2.2.1) (fun _ => R) (fun s => lClI Mb d n b m N s.1 s.2.1 s.2.2.1 s.2.2.2) (fun s => s.1) (fun s hI ih => ?_) (n, N, Mb, -4) I0
      · skip
        obtain ⟨n1, N1, Ml, F⟩ := s
        dsimp only at hI ih ⊢
        obtain ⟨k1, k2, k3, k4, k5, k6, k7, k8, k9, k10, k11, k12, k13, k14⟩ := id hI
        have hn1 : n1 ≤ 8 := by omega
        have ml4 : Ml d 4 = nI n1 := (k3 4 (by decide)).trans k10
        have ml15 : Ml d 15 = nI cap := ((k3 15 (by decide)).trans (k9 15 (by decide) (by decide) (by decide))).trans p12
        rcases zMin_drp k12 hn1 with ⟨em, ez2⟩ | ⟨f, hf, em, ez2⟩
        · skip
          rw [em]
          dsimp only [zMI]
          have hK : gK N m n = (N1, F, n1) := k1.symm.trans (zCl_stop (Or.inr (by rw [ez2]; decide)))
          refine j_iload C dL_runs_185 rfl ?_
          refine j_if_lt C 256 dL_runs_187 (by decide) (fun _ => ?_) (fun h => absurd (by decide) h)
          refine j_aload_n C dL_runs_256 rfl ?_
          refine j_iconst C (nI 4) dL_runs_257 (by decide) ?_
          refine j_ialdN C (by assumption) dL_runs_258 (by omega) (by decide) ?_
          refine j_top (nI n1) ml4 ?_
          refine j_aload_n C dL_runs_259 rfl ?_
          refine j_bipush C (nI 15) dL_runs_260 (by decide) ?_
          refine j_ialdN C (by assumption) dL_runs_262 (by omega) (by decide) ?_
          refine j_top (nI cap) ml15 ?_
          refine j_icmp_ge C 378 dL_runs_263 (by decide) (fun h263 => ?_) (fun h263 => ?_)
          · skip
            refine j_goto C 389 dL_runs_378 (by decide) ?_
            refine j_locs [0, 1, 2, 3, 4, 5, 6, 7, 8, 9, 10, 11] rfl ?_
            have hz28 : zN ((jup N1 (m + 1) 28 F) (m + 1)) t = zN (N (m + 1)) t := by unfold zN; rw [jup_nk _ _ (by omega), k9 _ (by omega) (by omega) (by omega)]
            have hv28 : (jup N1 (m + 1) 28 F) (m + 4) = N (m + 4) := by rw [jup_row _ _ (by omega), k11 _ (by omega)]
            have eG : zGoes N m t r n (zN (N (m + 1)) t) = gTB (jup N1 (m + 1) 28 F) m t r wy own est (nI 0) (-4) (nI 2) := by rw [hown, hwy, hest]; exact zGoes_not hgP hK (by rw [jup_nk _ _ (by decide), k9 15 (by decide) (by decide) (by decide), p12]; exact Int32.not_lt.mpr h263)
            have P5 := lP0_not P hb0 l0 l5 l10 hI
            have mo : ∀ x, (x < d ∨ d + 6 ≤ x) → Ml x = M x := fun x hx => by rw [k4 x (by omega) (by omega) (by omega), hb0 x (by omega)]
            have hB : ∀ p, p < n1 → isB ((jup N1 (m + 1) 28 F) (m + 1) (367 + 9 * p + 7)) := fun p hp => by rw [jup_nk _ _ (by omega)]; exact (k13 p hp).1
            exact jRn C E hxn (N1 := (jup N1 (m + 1) 28 F)) g P5 hB hb hyW hw hwd hV hz28 hv28 eG mo
          · skip
            have hn7 : n1 < cap := Nat.lt_of_not_le fun z => h263 (nI_le z (by omega))
            refine j_aload_n C dL_runs_266 rfl ?_
            refine j_iconst C (nI 4) dL_runs_267 (by decide) ?_
            refine j_ialdN C (by assumption) dL_runs_268 (by omega) (by decide) ?_
            refine j_top (nI n1) ml4 ?_
            refine j_istore C dL_runs_269 (by rw [hxn]; decide) ?_
            refine j_aload_n C dL_runs_271 rfl ?_
            refine j_iconst C (nI 4) dL_runs_272 (by decide) ?_
            refine j_dup2 C dL_runs_273 rfl rfl ?_
            refine j_ialdN C (by assumption) dL_runs_274 (by omega) (by decide) ?_
            refine j_top (nI n1) ml4 ?_
            refine j_iconst C (nI 1) dL_runs_275 (by decide) ?_
            first | with_reducible refine j_iaddN C dL_runs_276 ?_ | refine j_iadd C dL_runs_276 ?_
            refine j_iastN C (by assumption) dL_runs_277 (by omega) (by decide) ?_
            refine j_aload C dL_runs_278 rfl ?_
            refine j_bipush C (nI 8) dL_runs_280 (by decide) ?_
            refine j_iload C dL_runs_282 rfl ?_
            first | with_reducible refine j_imulN C dL_runs_284 ?_ | refine j_imul C dL_runs_284 ?_
            refine j_aload_n C dL_runs_285 rfl ?_
            refine j_iconst C (nI 5) dL_runs_286 (by decide) ?_
            refine j_ialdN C (by assumption) dL_runs_287 (by omega) (by decide) ?_
            refine j_top (N1 (m + 1) 5) (by rw [jup_nk _ _ (by decide)]; exact k3 5 (by decide)) ?_
            refine j_iastN C (by assumption) dL_runs_288 (by omega) (by decide) ?_
            refine j_aload C dL_runs_289 rfl ?_
            refine j_bipush C (nI 8) dL_runs_291 (by decide) ?_
            refine j_iload C dL_runs_293 rfl ?_
            first | with_reducible refine j_imulN C dL_runs_295 ?_ | refine j_imul C dL_runs_295 ?_
            refine j_iconst C (nI 1) dL_runs_296 (by decide) ?_
            first | with_reducible refine j_iaddN C dL_runs_297 ?_ | refine j_iadd C dL_runs_297 ?_
            refine j_iload C dL_runs_298 rfl ?_
            refine j_iastN C (by assumption) dL_runs_300 (by omega) (by decide) ?_
            refine j_aload C dL_runs_301 rfl ?_
            refine j_bipush C (nI 8) dL_runs_303 (by decide) ?_
            refine j_iload C dL_runs_305 rfl ?_
            first | with_reducible refine j_imulN C dL_runs_307 ?_ | refine j_imul C dL_runs_307 ?_
            refine j_iconst C (nI 2) dL_runs_308 (by decide) ?_
            first | with_reducible refine j_iaddN C dL_runs_309 ?_ | refine j_iadd C dL_runs_309 ?_
            refine j_iload C dL_runs_310 rfl ?_
            refine j_iastN C (by assumption) dL_runs_312 (by omega) (by decide) ?_
            refine j_aload C dL_runs_313 rfl ?_
            refine j_bipush C (nI 8) dL_runs_315 (by decide) ?_
            refine j_iload C dL_runs_317 rfl ?_
            first | with_reducible refine j_imulN C dL_runs_319 ?_ | refine j_imul C dL_runs_319 ?_
            refine j_iconst C (nI 3) dL_runs_320 (by decide) ?_
            first | with_reducible refine j_iaddN C dL_runs_321 ?_ | refine j_iadd C dL_runs_321 ?_
            refine j_iload C dL_runs_322 rfl ?_
            refine j_iastN C (by assumption) dL_runs_324 (by omega) (by decide) ?_
            refine j_aload C dL_runs_325 rfl ?_
            refine j_bipush C (nI 8) dL_runs_327 (by decide) ?_
            refine j_iload C dL_runs_329 rfl ?_
            first | with_reducible refine j_imulN C dL_runs_331 ?_ | refine j_imul C dL_runs_331 ?_
            refine j_iconst C (nI 4) dL_runs_332 (by decide) ?_
            first | with_reducible refine j_iaddN C dL_runs_333 ?_ | refine j_iadd C dL_runs_333 ?_
            refine j_iload C dL_runs_334 rfl ?_
            refine j_iastN C (by assumption) dL_runs_336 (by omega) (by decide) ?_
            refine j_iconst C (nI 5) dL_runs_337 (by decide) ?_
            refine j_istore C dL_runs_338 (by rw [hxn]; decide) ?_
            refine j_locs [0, 1, 2, 3, 4, 5, 6, 7, 8, 9, 10, 11, 13] rfl ?_
            obtain ⟨Xk, hXk⟩ : ∃ Xk, Xk = jup (jup (jup (jup (jup (jup Ml d 4 (nI (n1 + 1))) (d + 4) (8 * n1) (N1 (m + 1) 5)) (d + 4) (8 * n1 + 1) (nI t)) (d + 4) (8 * n1 + 2) own) (d + 4) (8 * n1 + 3) (nI wy)) (d + 4) (8 * n1 + 4) est := ⟨_, rfl⟩
            refine j_mem Xk hXk.symm ?_
            refine j_mem (lZ3 Xk d n1 0) (lZ3_0 _ _ _).symm ?_
            refine j_loop 3 (fun k => [(0, .ref d), (1, .ref (d + 1)), (2, .ref (d + 2)), (3, .ref (d + 3)), (4, .ref (d + 4)), (5, .ref (d + 5)), (6, .int (nI t)), (7, .ref w), (8, .int own), (9, .int (nI n1)), (10, .int (nI wy)), (11, .int est), (13, .int (nI (5 + k)))]) (fun k => lZ3 Xk d n1 k) (fun _ => R) (fun _ => True) trivial (fun k hk _ ih3 => ?_) (fun _ => ?_)
            · skip
              refine j_iload C dL_runs_340 rfl ?_
              refine j_bipush C (nI 8) dL_runs_342 (by decide) ?_
              refine j_icmp_ge C 365 dL_runs_344 (by decide) (fun h => absurd h (nI_ge (by omega) (by decide))) (fun _ => ?_)
              refine j_aload C dL_runs_347 rfl ?_
              refine j_bipush C (nI 8) dL_runs_349 (by decide) ?_
              refine j_iload C dL_runs_351 rfl ?_
              first | with_reducible refine j_imulN C dL_runs_353 ?_ | refine j_imul C dL_runs_353 ?_
              refine j_iload C dL_runs_354 rfl ?_
              first | with_reducible refine j_iaddN C dL_runs_356 ?_ | refine j_iadd C dL_runs_356 ?_
              refine j_iconst C (nI 0) dL_runs_357 (by decide) ?_
              refine j_iastN C (by assumption) dL_runs_358 (by omega) (by decide) ?_
              refine j_mem (lZ3 Xk d n1 (k + 1)) (lZ3_s _ _ _ _) ?_
              first | refine j_iinc1 C dL_runs_359 rfl (by rw [hxn]; decide) ?_ | refine j_iinc C _ dL_runs_359 rfl rfl (by rw [hxn]; decide) ?_
              refine j_goto C 340 dL_runs_362 (by decide) ?_
              exact ih3 trivial
            · skip
              refine j_iload C dL_runs_340 rfl ?_
              refine j_bipush C (nI 8) dL_runs_342 (by decide) ?_
              refine j_icmp_ge C 365 dL_runs_344 (by decide) (fun _ => ?_) (fun h => absurd (Int32.le_refl _) h)
              refine j_aload_n C dL_runs_365 rfl ?_
              refine j_iconst C (nI 5) dL_runs_366 (by decide) ?_
              refine j_dup2 C dL_runs_367 rfl rfl ?_
              refine j_ialdN C (by assumption) dL_runs_368 (by omega) (by decide) ?_
              refine j_top (N1 (m + 1) 5) (by rw [lZ3_o _ (by omega), hXk, jup_row _ _ (by omega), jup_row _ _ (by omega), jup_row _ _ (by omega), jup_row _ _ (by omega), jup_row _ _ (by omega), jup_nk _ _ (by decide)]; exact k3 5 (by decide)) ?_
              refine j_iconst C (nI 1) dL_runs_369 (by decide) ?_
              first | with_reducible refine j_iaddN C dL_runs_370 ?_ | refine j_iadd C dL_runs_370 ?_
              refine j_iastN C (by assumption) dL_runs_371 (by omega) (by decide) ?_
              refine j_aload C dL_runs_372 rfl ?_
              refine j_bipush C (nI 10) dL_runs_374 (by decide) ?_
              refine j_iconst C (nI 1) dL_runs_376 (by decide) ?_
              refine j_iastN C (by assumption) dL_runs_377 (by omega) (by decide) ?_
              obtain ⟨Mc, hMc⟩ : ∃ Mc, Mc = jup (jup (lZ3 Xk d n1 3) d 5 (N1 (m + 1) 5 + nI 1)) (d + 5) 10 (nI 1) := ⟨_, rfl⟩
              refine j_mem Mc hMc.symm ?_
              rw [hXk] at hMc
              refine j_goto C 389 dL_runs_378 (by decide) ?_
              refine j_locs [0, 1, 2, 3, 4, 5, 6, 7, 8, 9, 10, 11] rfl ?_
              have hz28 : zN ((mKp (jup N1 (m + 1) 28 F) m n1 (nI t) own (nI wy) est) (m + 1)) t = zN (N (m + 1)) t := by unfold zN; rw [mKp_l _ (by omega) (by omega) (by omega), jup_nk _ _ (by omega), k9 _ (by omega) (by omega) (by omega)]
              have hv28 : (mKp (jup N1 (m + 1) 28 F) m n1 (nI t) own (nI wy) est) (m + 4) = N (m + 4) := by rw [mKp_o _ (by omega), jup_row _ _ (by omega), k11 _ (by omega)]
              have eG : zGoes N m t r n (zN (N (m + 1)) t) = gTA (mKp (jup N1 (m + 1) 28 F) m n1 (nI t) own (nI wy) est) m t r wy (n1 + 1) n1 own est (nI 0) (gT1 (mKp (jup N1 (m + 1) 28 F) m n1 (nI t) own (nI wy) est) m t (nI 0) (m + 1) (367 + 9 * n1 + 0)) (nI 1) := by rw [hown, hwy, hest]; exact zGoes_kept hgP hK (by rw [jup_nk _ _ (by decide), k9 15 (by decide) (by decide) (by decide), p12]; exact Int32.not_le.mp h263)
              have mo : ∀ x, x ≠ d → x ≠ d + 4 → x ≠ d + 5 → Mc x = M x := fun x a1 a2 a3 => by rw [hMc, jup_row _ _ a3, jup_row _ _ a1, lZ3_o _ a2, jup_row _ _ a2, jup_row _ _ a2, jup_row _ _ a2, jup_row _ _ a2, jup_row _ _ a2, jup_row _ _ a1, k4 x a1 a2 a3, hb0 x a3]
              have P5 := lP0_kept P hb0 l0 l5 hI (by omega) z80 hMc
              have mo2 : ∀ x, (x < d ∨ d + 6 ≤ x) → Mc x = M x := fun x hx => mo x (by omega) (by omega) (by omega)
              have hB : ∀ p, p < n1 + 1 → isB ((mKp (jup N1 (m + 1) 28 F) m n1 (nI t) own (nI wy) est) (m + 1) (367 + 9 * p + 7)) := mKp_B (fun p hp => by rw [jup_nk _ _ (by omega)]; exact (k13 p hp).1)
              exact jRk C E hxn (N1 := (mKp (jup N1 (m + 1) 28 F) m n1 (nI t) own (nI wy) est)) g P5 (Nat.lt_succ_self n1) (gT1_s _ (by omega) (by omega) (by omega)) hB hb hyW hw hwd hV hz28 hv28 eG mo2
        · skip
          rw [em]
          dsimp only [zMI]
          refine j_iload C dL_runs_185 rfl ?_
          refine j_if_lt C 256 dL_runs_187 (by decide) (fun h => absurd h (nI_pos (by omega))) (fun _ => ?_)
          refine j_aload_n C dL_runs_190 rfl ?_
          refine j_iconst C (nI 4) dL_runs_191 (by decide) ?_
          refine j_ialdN C (by assumption) dL_runs_192 (by omega) (by decide) ?_
          refine j_top (nI n1) ml4 ?_
          refine j_aload_n C dL_runs_193 rfl ?_
          refine j_bipush C (nI 15) dL_runs_194 (by decide) ?_
          refine j_ialdN C (by assumption) dL_runs_196 (by omega) (by decide) ?_
          refine j_top (nI cap) ml15 ?_
          refine j_icmp_lt C 256 dL_runs_197 (by decide) (fun h197 => ?_) (fun h197 => ?_)
          · skip
            have hK : gK N m n = (N1, F, n1) := k1.symm.trans (zCl_stop (Or.inl (by rw [p12]; exact h197)))
            refine j_aload_n C dL_runs_256 rfl ?_
            refine j_iconst C (nI 4) dL_runs_257 (by decide) ?_
            refine j_ialdN C (by assumption) dL_runs_258 (by omega) (by decide) ?_
            refine j_top (nI n1) ml4 ?_
            refine j_aload_n C dL_runs_259 rfl ?_
            refine j_bipush C (nI 15) dL_runs_260 (by decide) ?_
            refine j_ialdN C (by assumption) dL_runs_262 (by omega) (by decide) ?_
            refine j_top (nI cap) ml15 ?_
            refine j_icmp_ge C 378 dL_runs_263 (by decide) (fun h263 => ?_) (fun h263 => ?_)
            · skip
              refine j_goto C 389 dL_runs_378 (by decide) ?_
              refine j_locs [0, 1, 2, 3, 4, 5, 6, 7, 8, 9, 10, 11] rfl ?_
              have hz28 : zN ((jup N1 (m + 1) 28 F) (m + 1)) t = zN (N (m + 1)) t := by unfold zN; rw [jup_nk _ _ (by omega), k9 _ (by omega) (by omega) (by omega)]
              have hv28 : (jup N1 (m + 1) 28 F) (m + 4) = N (m + 4) := by rw [jup_row _ _ (by omega), k11 _ (by omega)]
              have eG : zGoes N m t r n (zN (N (m + 1)) t) = gTB (jup N1 (m + 1) 28 F) m t r wy own est (nI 0) (-4) (nI 2) := by rw [hown, hwy, hest]; exact zGoes_not hgP hK (by rw [jup_nk _ _ (by decide), k9 15 (by decide) (by decide) (by decide), p12]; exact Int32.not_lt.mpr h263)
              have P5 := lP0_not P hb0 l0 l5 l10 hI
              have mo : ∀ x, (x < d ∨ d + 6 ≤ x) → Ml x = M x := fun x hx => by rw [k4 x (by omega) (by omega) (by omega), hb0 x (by omega)]
              have hB : ∀ p, p < n1 → isB ((jup N1 (m + 1) 28 F) (m + 1) (367 + 9 * p + 7)) := fun p hp => by rw [jup_nk _ _ (by omega)]; exact (k13 p hp).1
              exact jRn C E hxn (N1 := (jup N1 (m + 1) 28 F)) g P5 hB hb hyW hw hwd hV hz28 hv28 eG mo
            · skip
              have hn7 : n1 < cap := Nat.lt_of_not_le fun z => h263 (nI_le z (by omega))
              refine j_aload_n C dL_runs_266 rfl ?_
              refine j_iconst C (nI 4) dL_runs_267 (by decide) ?_
              refine j_ialdN C (by assumption) dL_runs_268 (by omega) (by decide) ?_
              refine j_top (nI n1) ml4 ?_
              refine j_istore C dL_runs_269 (by rw [hxn]; decide) ?_
              refine j_aload_n C dL_runs_271 rfl ?_
              refine j_iconst C (nI 4) dL_runs_272 (by decide) ?_
              refine j_dup2 C dL_runs_273 rfl rfl ?_
              refine j_ialdN C (by assumption) dL_runs_274 (by omega) (by decide) ?_
              refine j_top (nI n1) ml4 ?_
              refine j_iconst C (nI 1) dL_runs_275 (by decide) ?_
              first | with_reducible refine j_iaddN C dL_runs_276 ?_ | refine j_iadd C dL_runs_276 ?_
              refine j_iastN C (by assumption) dL_runs_277 (by omega) (by decide) ?_
              refine j_aload C dL_runs_278 rfl ?_
              refine j_bipush C (nI 8) dL_runs_280 (by decide) ?_
              refine j_iload C dL_runs_282 rfl ?_
              first | with_reducible refine j_imulN C dL_runs_284 ?_ | refine j_imul C dL_runs_284 ?_
              refine j_aload_n C dL_runs_285 rfl ?_
              refine j_iconst C (nI 5) dL_runs_286 (by decide) ?_
              refine j_ialdN C (by assumption) dL_runs_287 (by omega) (by decide) ?_
              refine j_top (N1 (m + 1) 5) (by rw [jup_nk _ _ (by decide)]; exact k3 5 (by decide)) ?_
              refine j_iastN C (by assumption) dL_runs_288 (by omega) (by decide) ?_
              refine j_aload C dL_runs_289 rfl ?_
              refine j_bipush C (nI 8) dL_runs_291 (by decide) ?_
              refine j_iload C dL_runs_293 rfl ?_
              first | with_reducible refine j_imulN C dL_runs_295 ?_ | refine j_imul C dL_runs_295 ?_
              refine j_iconst C (nI 1) dL_runs_296 (by decide) ?_
              first | with_reducible refine j_iaddN C dL_runs_297 ?_ | refine j_iadd C dL_runs_297 ?_
              refine j_iload C dL_runs_298 rfl ?_
              refine j_iastN C (by assumption) dL_runs_300 (by omega) (by decide) ?_
              refine j_aload C dL_runs_301 rfl ?_
              refine j_bipush C (nI 8) dL_runs_303 (by decide) ?_
              refine j_iload C dL_runs_305 rfl ?_
              first | with_reducible refine j_imulN C dL_runs_307 ?_ | refine j_imul C dL_runs_307 ?_
              refine j_iconst C (nI 2) dL_runs_308 (by decide) ?_
              first | with_reducible refine j_iaddN C dL_runs_309 ?_ | refine j_iadd C dL_runs_309 ?_
              refine j_iload C dL_runs_310 rfl ?_
              refine j_iastN C (by assumption) dL_runs_312 (by omega) (by decide) ?_
              refine j_aload C dL_runs_313 rfl ?_
              refine j_bipush C (nI 8) dL_runs_315 (by decide) ?_
              refine j_iload C dL_runs_317 rfl ?_
              first | with_reducible refine j_imulN C dL_runs_319 ?_ | refine j_imul C dL_runs_319 ?_
              refine j_iconst C (nI 3) dL_runs_320 (by decide) ?_
              first | with_reducible refine j_iaddN C dL_runs_321 ?_ | refine j_iadd C dL_runs_321 ?_
              refine j_iload C dL_runs_322 rfl ?_
              refine j_iastN C (by assumption) dL_runs_324 (by omega) (by decide) ?_
              refine j_aload C dL_runs_325 rfl ?_
              refine j_bipush C (nI 8) dL_runs_327 (by decide) ?_
              refine j_iload C dL_runs_329 rfl ?_
              first | with_reducible refine j_imulN C dL_runs_331 ?_ | refine j_imul C dL_runs_331 ?_
              refine j_iconst C (nI 4) dL_runs_332 (by decide) ?_
              first | with_reducible refine j_iaddN C dL_runs_333 ?_ | refine j_iadd C dL_runs_333 ?_
              refine j_iload C dL_runs_334 rfl ?_
              refine j_iastN C (by assumption) dL_runs_336 (by omega) (by decide) ?_
              refine j_iconst C (nI 5) dL_runs_337 (by decide) ?_
              refine j_istore C dL_runs_338 (by rw [hxn]; decide) ?_
              refine j_locs [0, 1, 2, 3, 4, 5, 6, 7, 8, 9, 10, 11, 13] rfl ?_
              obtain ⟨Xk, hXk⟩ : ∃ Xk, Xk = jup (jup (jup (jup (jup (jup Ml d 4 (nI (n1 + 1))) (d + 4) (8 * n1) (N1 (m + 1) 5)) (d + 4) (8 * n1 + 1) (nI t)) (d + 4) (8 * n1 + 2) own) (d + 4) (8 * n1 + 3) (nI wy)) (d + 4) (8 * n1 + 4) est := ⟨_, rfl⟩
              refine j_mem Xk hXk.symm ?_
              refine j_mem (lZ3 Xk d n1 0) (lZ3_0 _ _ _).symm ?_
              refine j_loop 3 (fun k => [(0, .ref d), (1, .ref (d + 1)), (2, .ref (d + 2)), (3, .ref (d + 3)), (4, .ref (d + 4)), (5, .ref (d + 5)), (6, .int (nI t)), (7, .ref w), (8, .int own), (9, .int (nI n1)), (10, .int (nI wy)), (11, .int est), (13, .int (nI (5 + k)))]) (fun k => lZ3 Xk d n1 k) (fun _ => R) (fun _ => True) trivial (fun k hk _ ih3 => ?_) (fun _ => ?_)
              · skip
                refine j_iload C dL_runs_340 rfl ?_
                refine j_bipush C (nI 8) dL_runs_342 (by decide) ?_
                refine j_icmp_ge C 365 dL_runs_344 (by decide) (fun h => absurd h (nI_ge (by omega) (by decide))) (fun _ => ?_)
                refine j_aload C dL_runs_347 rfl ?_
                refine j_bipush C (nI 8) dL_runs_349 (by decide) ?_
                refine j_iload C dL_runs_351 rfl ?_
                first | with_reducible refine j_imulN C dL_runs_353 ?_ | refine j_imul C dL_runs_353 ?_
                refine j_iload C dL_runs_354 rfl ?_
                first | with_reducible refine j_iaddN C dL_runs_356 ?_ | refine j_iadd C dL_runs_356 ?_
                refine j_iconst C (nI 0) dL_runs_357 (by decide) ?_
                refine j_iastN C (by assumption) dL_runs_358 (by omega) (by decide) ?_
                refine j_mem (lZ3 Xk d n1 (k + 1)) (lZ3_s _ _ _ _) ?_
                first | refine j_iinc1 C dL_runs_359 rfl (by rw [hxn]; decide) ?_ | refine j_iinc C _ dL_runs_359 rfl rfl (by rw [hxn]; decide) ?_
                refine j_goto C 340 dL_runs_362 (by decide) ?_
                exact ih3 trivial
              · skip
                refine j_iload C dL_runs_340 rfl ?_
                refine j_bipush C (nI 8) dL_runs_342 (by decide) ?_
                refine j_icmp_ge C 365 dL_runs_344 (by decide) (fun _ => ?_) (fun h => absurd (Int32.le_refl _) h)
                refine j_aload_n C dL_runs_365 rfl ?_
                refine j_iconst C (nI 5) dL_runs_366 (by decide) ?_
                refine j_dup2 C dL_runs_367 rfl rfl ?_
                refine j_ialdN C (by assumption) dL_runs_368 (by omega) (by decide) ?_
                refine j_top (N1 (m + 1) 5) (by rw [lZ3_o _ (by omega), hXk, jup_row _ _ (by omega), jup_row _ _ (by omega), jup_row _ _ (by omega), jup_row _ _ (by omega), jup_row _ _ (by omega), jup_nk _ _ (by decide)]; exact k3 5 (by decide)) ?_
                refine j_iconst C (nI 1) dL_runs_369 (by decide) ?_
                first | with_reducible refine j_iaddN C dL_runs_370 ?_ | refine j_iadd C dL_runs_370 ?_
                refine j_iastN C (by assumption) dL_runs_371 (by omega) (by decide) ?_
                refine j_aload C dL_runs_372 rfl ?_
                refine j_bipush C (nI 10) dL_runs_374 (by decide) ?_
                refine j_iconst C (nI 1) dL_runs_376 (by decide) ?_
                refine j_iastN C (by assumption) dL_runs_377 (by omega) (by decide) ?_
                obtain ⟨Mc, hMc⟩ : ∃ Mc, Mc = jup (jup (lZ3 Xk d n1 3) d 5 (N1 (m + 1) 5 + nI 1)) (d + 5) 10 (nI 1) := ⟨_, rfl⟩
                refine j_mem Mc hMc.symm ?_
                rw [hXk] at hMc
                refine j_goto C 389 dL_runs_378 (by decide) ?_
                refine j_locs [0, 1, 2, 3, 4, 5, 6, 7, 8, 9, 10, 11] rfl ?_
                have hz28 : zN ((mKp (jup N1 (m + 1) 28 F) m n1 (nI t) own (nI wy) est) (m + 1)) t = zN (N (m + 1)) t := by unfold zN; rw [mKp_l _ (by omega) (by omega) (by omega), jup_nk _ _ (by omega), k9 _ (by omega) (by omega) (by omega)]
                have hv28 : (mKp (jup N1 (m + 1) 28 F) m n1 (nI t) own (nI wy) est) (m + 4) = N (m + 4) := by rw [mKp_o _ (by omega), jup_row _ _ (by omega), k11 _ (by omega)]
                have eG : zGoes N m t r n (zN (N (m + 1)) t) = gTA (mKp (jup N1 (m + 1) 28 F) m n1 (nI t) own (nI wy) est) m t r wy (n1 + 1) n1 own est (nI 0) (gT1 (mKp (jup N1 (m + 1) 28 F) m n1 (nI t) own (nI wy) est) m t (nI 0) (m + 1) (367 + 9 * n1 + 0)) (nI 1) := by rw [hown, hwy, hest]; exact zGoes_kept hgP hK (by rw [jup_nk _ _ (by decide), k9 15 (by decide) (by decide) (by decide), p12]; exact Int32.not_le.mp h263)
                have mo : ∀ x, x ≠ d → x ≠ d + 4 → x ≠ d + 5 → Mc x = M x := fun x a1 a2 a3 => by rw [hMc, jup_row _ _ a3, jup_row _ _ a1, lZ3_o _ a2, jup_row _ _ a2, jup_row _ _ a2, jup_row _ _ a2, jup_row _ _ a2, jup_row _ _ a2, jup_row _ _ a1, k4 x a1 a2 a3, hb0 x a3]
                have P5 := lP0_kept P hb0 l0 l5 hI (by omega) z80 hMc
                have mo2 : ∀ x, (x < d ∨ d + 6 ≤ x) → Mc x = M x := fun x hx => mo x (by omega) (by omega) (by omega)
                have hB : ∀ p, p < n1 + 1 → isB ((mKp (jup N1 (m + 1) 28 F) m n1 (nI t) own (nI wy) est) (m + 1) (367 + 9 * p + 7)) := mKp_B (fun p hp => by rw [jup_nk _ _ (by omega)]; exact (k13 p hp).1)
                exact jRk C E hxn (N1 := (mKp (jup N1 (m + 1) 28 F) m n1 (nI t) own (nI wy) est)) g P5 (Nat.lt_succ_self n1) (gT1_s _ (by omega) (by omega) (by omega)) hB hb hyW hw hwd hV hz28 hv28 eG mo2
          · skip
            have hcn : cap ≤ n1 := Nat.le_of_not_lt fun z => h197 (nI_lt z (by omega))
            refine j_aload C dL_runs_200 rfl ?_
            refine j_bipush C (nI 12) dL_runs_202 (by decide) ?_
            refine j_aload C dL_runs_204 rfl ?_
            refine j_bipush C (nI 12) dL_runs_206 (by decide) ?_
            refine j_ialdN C (by assumption) dL_runs_208 (by omega) (by decide) ?_
            refine j_top F k6 ?_
            refine j_if_ge C 223 dL_runs_209 (by decide) (fun h209 => ?_) (fun h209 => ?_)
            · skip
              refine j_aload C dL_runs_223 rfl ?_
              refine j_bipush C (nI 12) dL_runs_225 (by decide) ?_
              refine j_ialdN C (by assumption) dL_runs_227 (by omega) (by decide) ?_
              refine j_top F k6 ?_
              refine j_top (if 0 ≤ F then F else N1 (m + 1) (367 + 9 * f + 0)) (by first | rw [if_pos h209] | rw [if_neg h209]) ?_
              refine j_iastN C (by assumption) dL_runs_228 (by omega) (by decide) ?_
              refine j_aload_n C dL_runs_229 rfl ?_
              refine j_aload C dL_runs_230 rfl ?_
              refine j_iload C dL_runs_232 rfl ?_
              refine j_cSv C (c_L_takeOut _ ω γ _ R (S := N1 (m + 1)) ⟨g0, g1, g2, g3, g4, g5⟩ (by rw [jup_row _ _ (by omega)]; exact ml4) hn1 hf) yc_L_takeOut mn_L_58 st_L_takeOut dL_runs_234 rfl rfl (Nat.le_of_ble_eq_true rfl) (by decide) ?_
              refine j_aload_n C dL_runs_237 rfl ?_
              refine j_bipush C (nI 8) dL_runs_238 (by decide) ?_
              refine j_dup2 C dL_runs_240 rfl rfl ?_
              refine j_ialdN C (by assumption) dL_runs_241 (by omega) (by decide) ?_
              refine j_top (N1 (m + 1) 8) (by rw [lOut_g _ (by decide), jup_row _ _ (by omega)]; exact k3 8 (by decide)) ?_
              refine j_iconst C (nI 1) dL_runs_242 (by decide) ?_
              first | with_reducible refine j_iaddN C dL_runs_243 ?_ | refine j_iadd C dL_runs_243 ?_
              refine j_iastN C (by assumption) dL_runs_244 (by omega) (by decide) ?_
              have I1 := lCl_go p11 p12 p13 hI hf ez2 hcn
              obtain ⟨j1, j2, j3, j4, j5, j6, j7, j8, j9, j10, j11, j12, j13, j14⟩ := id I1
              refine j_aload_n C dL_runs_245 rfl ?_
              refine j_aload C dL_runs_246 rfl ?_
              refine j_cSi C (c_L_drops _ ω γ _ R ⟨g0, g1, g2, g3, g4, g5⟩ ((j3 4 (by decide)).trans j10) (by omega) j7 (fun q hq => ⟨(j13 q hq).1, by obtain ⟨⟨s, s1, s2⟩, -⟩ := j8 q hq; exact ⟨s, by omega, s2⟩⟩)) yc_L_drops mn_L_55 st_L_drops dL_runs_248 rfl rfl (Nat.le_of_ble_eq_true rfl) (by decide) ?_
              refine j_istore C dL_runs_251 (by rw [hxn]; decide) ?_
              refine j_goto C 185 dL_runs_253 (by decide) ?_
              exact ih (n1 - 1, jup (mOut N1 m n1 f) (m + 1) 8 (mOut N1 m n1 f (m + 1) 8 + nI 1), jup (lOut (jup Ml (d + 5) 12 (if 0 ≤ F then F else N1 (m + 1) (367 + 9 * f + 0))) d n1 f) d 8 (N1 (m + 1) 8 + nI 1), if 0 ≤ F then F else N1 (m + 1) (367 + 9 * f + 0)) I1 (by show n1 - 1 < n1; omega)
            · skip
              refine j_aload C dL_runs_212 rfl ?_
              refine j_bipush C (nI 8) dL_runs_214 (by decide) ?_
              refine j_iload C dL_runs_216 rfl ?_
              first | with_reducible refine j_imulN C dL_runs_218 ?_ | refine j_imul C dL_runs_218 ?_
              refine j_ialdN C (by assumption) dL_runs_219 (by omega) (by decide) ?_
              refine j_top (N1 (m + 1) (367 + 9 * f + 0)) ((k7 f hf).1 0 (by decide)) ?_
              refine j_goto C 228 dL_runs_220 (by decide) ?_
              refine j_top (if 0 ≤ F then F else N1 (m + 1) (367 + 9 * f + 0)) (by first | rw [if_pos h209] | rw [if_neg h209]) ?_
              refine j_iastN C (by assumption) dL_runs_228 (by omega) (by decide) ?_
              refine j_aload_n C dL_runs_229 rfl ?_
              refine j_aload C dL_runs_230 rfl ?_
              refine j_iload C dL_runs_232 rfl ?_
              refine j_cSv C (c_L_takeOut _ ω γ _ R (S := N1 (m + 1)) ⟨g0, g1, g2, g3, g4, g5⟩ (by rw [jup_row _ _ (by omega)]; exact ml4) hn1 hf) yc_L_takeOut mn_L_58 st_L_takeOut dL_runs_234 rfl rfl (Nat.le_of_ble_eq_true rfl) (by decide) ?_
              refine j_aload_n C dL_runs_237 rfl ?_
              refine j_bipush C (nI 8) dL_runs_238 (by decide) ?_
              refine j_dup2 C dL_runs_240 rfl rfl ?_
              refine j_ialdN C (by assumption) dL_runs_241 (by omega) (by decide) ?_
              refine j_top (N1 (m + 1) 8) (by rw [lOut_g _ (by decide), jup_row _ _ (by omega)]; exact k3 8 (by decide)) ?_
              refine j_iconst C (nI 1) dL_runs_242 (by decide) ?_
              first | with_reducible refine j_iaddN C dL_runs_243 ?_ | refine j_iadd C dL_runs_243 ?_
              refine j_iastN C (by assumption) dL_runs_244 (by omega) (by decide) ?_
              have I1 := lCl_go p11 p12 p13 hI hf ez2 hcn
              obtain ⟨j1, j2, j3, j4, j5, j6, j7, j8, j9, j10, j11, j12, j13, j14⟩ := id I1
              refine j_aload_n C dL_runs_245 rfl ?_
              refine j_aload C dL_runs_246 rfl ?_
              refine j_cSi C (c_L_drops _ ω γ _ R ⟨g0, g1, g2, g3, g4, g5⟩ ((j3 4 (by decide)).trans j10) (by omega) j7 (fun q hq => ⟨(j13 q hq).1, by obtain ⟨⟨s, s1, s2⟩, -⟩ := j8 q hq; exact ⟨s, by omega, s2⟩⟩)) yc_L_drops mn_L_55 st_L_drops dL_runs_248 rfl rfl (Nat.le_of_ble_eq_true rfl) (by decide) ?_
              refine j_istore C dL_runs_251 (by rw [hxn]; decide) ?_
              refine j_goto C 185 dL_runs_253 (by decide) ?_
              exact ih (n1 - 1, jup (mOut N1 m n1 f) (m + 1) 8 (mOut N1 m n1 f (m + 1) 8 + nI 1), jup (lOut (jup Ml (d + 5) 12 (if 0 ≤ F then F else N1 (m + 1) (367 + 9 * f + 0))) d n1 f) d 8 (N1 (m + 1) 8 + nI 1), if 0 ≤ F then F else N1 (m + 1) (367 + 9 * f + 0)) I1 (by show n1 - 1 < n1; omega)
