section TXT
variable {M : jM} {R : jR} {a T m len : Nat} {S : Nat → Int32}
/-- the texts -/
def eTxt (M : jM) (T m len : Nat) : Prop := len ≤ 30 ∧ M T 1 = nI len ∧ M m 4 = nI len ∧ ∀ k, k < len → M (T + 1) k = M (m + 3) k
theorem tx_chr (h : eTxt M T m len) {k : Nat} (hk : k < len) : rChr M T (nI k) = M (m + 3) k := by
  obtain ⟨h1, h2, -, h4⟩ := h
  rw [rChr, if_neg (nI_pos (by omega)), h2, if_neg (nI_ge hk (by omega)), if_neg (nI_ge (show k < 30 by omega) (by decide)), nI_clamp (by omega), h4 k hk]
theorem rIx_c : ∀ c, c < 128 → ((rIx (nI c) < 0 ↔ rIn (nI c) (nI 60) (nI 62) = 0) ∧ (¬ rIn (nI c) (nI 60) (nI 62) = 0 → rIx (nI c) = if nI c = nI 61 then nI 0 else if nI c = nI 60 then nI 1 else nI 2)) := by decide +kernel
theorem in_c : ∀ c, c < 128 → ((nI c < nI 97 ∨ nI 101 ≤ nI c) ↔ rIn (nI c) (nI 97) (nI 100) = 0) := by decide +kernel
theorem rem4 : ∀ k, k < 31 → nI k - nI k / nI 4 * nI 4 = nI (k % 4) := by decide +kernel
theorem tx_can (h : eTxt M T m len) (hc : TC M T) {k : Nat} (hk : k < len) (h15 : k ≠ 15) : rCan M T k = 0 ↔ zOk (M (m + 3)) k = 0 := by
  obtain ⟨c, hc1, hc2⟩ := rChr_N hc (nI k)
  have e := tx_chr h hk
  have h30 := h.1
  unfold rCan zOk
  rw [rem4 k (by omega), ← e, hc2]
  by_cases c0 : nI (k % 4) = nI 0
  · rw [if_pos c0, if_pos (show nI (k % 4) = 0 from c0)]
    have i := in_c c hc1
    by_cases d : nI c < nI 97
    · rw [if_pos d]
      exact ⟨fun _ => i.mp (Or.inl d), fun _ => nI_0⟩
    · rw [if_neg d]
      by_cases d2 : nI 101 ≤ nI c
      · rw [if_pos d2]
        exact ⟨fun _ => i.mp (Or.inr d2), fun _ => nI_0⟩
      · rw [if_neg d2]
        exact ⟨fun q => absurd q (by decide), fun q => absurd (i.mpr q) (fun o => o.elim d d2)⟩
  · rw [if_neg c0, if_neg (show ¬ nI (k % 4) = 0 from c0)]
    by_cases c1 : nI (k % 4) = nI 1
    · rw [if_pos c1, if_pos c1]
      have i := (rIx_c c hc1).1
      by_cases d : rIx (nI c) < 0
      · rw [if_pos d]
        exact ⟨fun _ => i.mp d, fun _ => nI_0⟩
      · rw [if_neg d]
        exact ⟨fun q => absurd q (by decide), fun q => absurd (i.mpr q) d⟩
    · rw [if_neg c1, if_neg c1]
      by_cases c2 : nI (k % 4) = nI 2
      · rw [if_pos c2, if_pos c2]
      · rw [if_neg c2, if_neg c2]
        have hb : rBeh (nI k) = 0 := by rw [rBeh, if_neg (fun q => h15 ((nI_eq (by omega) (by decide)).mp q))]; exact nI_0
        rw [if_pos hb]
theorem rFirst_congr {p q : Nat → Bool} {n : Nat} (h : ∀ k, k < n → p k = q k) : rFirst p n = rFirst q n := by
  rcases rFirst_cases p n with ⟨k, hk, -, e, h1, h2⟩ | ⟨-, e, h1⟩
  · rw [e, rFirst_yes hk (by rw [← h k hk]; exact h1) (fun j hj => by rw [← h j (by omega)]; exact h2 j hj)]
  · rw [e, rFirst_no (fun j hj => by rw [← h j hj]; exact h1 j hj)]
theorem tx_bad (h : eTxt M T m len) (hc : TC M T) {k : Nat} (hk : k < len) : qBad M T k = zWr (M (m + 3)) k := by
  have h30 := h.1
  by_cases h15 : k = 15
  · subst h15
    rw [zWr_2 rfl]
    have e : rCan M T 15 = 0 := by
      unfold rCan
      rw [if_neg (by decide), if_neg (by decide), if_neg (by decide)]
      split
      · rw [rBeh, if_pos rfl, if_neg (by decide)]
        exact nI_0
      · exact nI_0
    simp [qBad, e]
  · have i := tx_can h hc hk h15
    have h15' : ¬ nI k = nI 15 := fun q => h15 ((nI_eq (by omega) (by decide)).mp q)
    by_cases d : zOk (M (m + 3)) k = 0
    · rw [zWr_1 d]
      simp [qBad, i.mpr d]
    · rw [zWr_f d h15']
      have d2 : ¬ rCan M T k = 0 := fun q => d (i.mp q)
      simp [qBad, d2]
theorem tx_first (h : eTxt M T m len) (hc : TC M T) : rFirst (qBad M T) len = rFirst (zWr (M (m + 3))) len := rFirst_congr (fun k hk => tx_bad h hc hk)
theorem tx_rem {k : Nat} (hk : k ≤ 30) : (nI k - nI k / nI 4 * nI 4 = nI 3) ↔ k % 4 = 3 := by
  rw [rem4 k (by omega)]
  exact nI_eq (by omega) (by decide)
theorem q_flt (h : eTxt M T m len) (hc : TC M T) : (rFlt M T len = -1 ↔ ¬ zRight (M (m + 3)) len = 0) := by
  have h30 := h.1
  unfold rFlt zRight
  rw [tx_first h hc]
  by_cases c1 : rFirst (zWr (M (m + 3))) len = -1
  · rw [if_pos c1, if_pos c1]
    by_cases c2 : len % 4 = 3
    · rw [if_pos (show nI (len % 4) = nI 3 by rw [c2]), if_pos ((tx_rem h30).mpr c2)]
      exact ⟨fun _ => by decide, fun _ => rfl⟩
    · rw [if_neg (fun q => c2 ((nI_eq (by omega) (by decide)).mp q)), if_neg (fun q => c2 ((tx_rem h30).mp q))]
      exact ⟨fun q => absurd q (nI_nem1 (by omega)), fun q => absurd nI_0 q⟩
  · rw [if_neg c1, if_neg c1]
    exact ⟨fun q => absurd q c1, fun q => absurd nI_0 q⟩
theorem q_fault (h : eTxt M T m len) (hc : TC M T) (w : Int32) : fFault M T len w = zfFault M m len w := by
  have h30 := h.1
  unfold fFault zfFault
  by_cases c0 : rIn w (nI 0) (nI 1) = 0
  · rw [if_pos c0, if_pos c0]
  · rw [if_neg c0, if_neg c0]
    by_cases c1 : zRight (M (m + 3)) len = 0
    · rw [if_pos c1, if_neg (fun q => (q_flt h hc).mp q c1)]
      rcases rFirst_cases (zWr (M (m + 3))) len with ⟨k, hk, -, e, h1, h2⟩ | ⟨-, e, h1⟩
      · have hz := zRight_at (m := m) hk h30 h1 h2
        have ef : rFlt M T len = nI k := by rw [rFlt, tx_first h hc, e, if_neg (nI_nem1 (by omega))]
        rw [ef, hz.2, mSp_5, mSp_6]
        by_cases c2 : w = 0
        · rw [if_pos c2, if_pos c2]
        · rw [if_neg c2, if_neg c2]
          unfold rRsn rBeh
          by_cases h15 : k = 15
          · subst h15
            rw [if_pos rfl, if_neg (by decide), tx_chr h hk]
            have e3 : zOk (M (m + 3)) 15 = if M (m + 3) 15 = nI 38 then nI 1 else nI 0 := by
              unfold zOk
              rw [rem4 15 (by decide), if_neg (by decide), if_neg (by decide), if_neg (by decide)]
            rw [e3]
            by_cases d : M (m + 3) 15 = nI 38
            · rw [if_pos d, if_pos d, if_neg (by decide)]
            · rw [if_neg d, if_neg d, if_pos nI_0]
          · have h15' : ¬ nI k = nI 15 := fun q => h15 ((nI_eq (by omega) (by decide)).mp q)
            have d : zOk (M (m + 3)) k = 0 := Decidable.byContradiction fun d => by rw [zWr_f d h15'] at h1; exact absurd h1 (by decide)
            rw [if_neg h15', if_pos nI_0, if_pos d]
      · have hz := zRight_end (M := M) (m := m) h1
        have c3 : ¬ len % 4 = 3 := fun q => by
          rw [hz.1, if_pos ((tx_rem h30).mpr q)] at c1
          exact absurd c1 (by decide)
        have ef : rFlt M T len = nI len := by rw [rFlt, tx_first h hc, e, if_pos rfl, if_neg (fun q => c3 ((nI_eq (by omega) (by decide)).mp q))]
        rw [ef, hz.2, mSp_5, mSp_6]
        by_cases c2 : w = 0
        · rw [if_pos c2, if_pos c2]
        · have hb : rBeh (nI len) = 0 := by
            rw [rBeh, if_neg (fun q => by
              have := (nI_eq (by omega) (by decide)).mp q
              omega)]
            exact nI_0
          rw [if_neg c2, if_neg c2, rRsn, if_pos hb]
    · rw [if_neg c1, if_pos ((q_flt h hc).mpr c1)]
/-- a text without a fault: what its conditions are -/
theorem tx_good (h : eTxt M T m len) (hc : TC M T) (hf : rFlt M T len = -1) : len ≤ 15 ∧ len % 4 = 3 ∧ ∀ k, 4 * k + 1 < len → rTCol M T k = zMt1 (M (m + 3)) k ∧ rTOp M T k = zMt0 (M (m + 3)) k ∧ (∃ o, o < 3 ∧ zMt0 (M (m + 3)) k = nI o) ∧ ∃ o, o < 4 ∧ zMt1 (M (m + 3)) k = nI o := by
  have h30 := h.1
  have hl := rFlt_len hf h30
  rcases rFirst_cases (qBad M T) len with ⟨k, hk, -, e, h1, h2⟩ | ⟨-, e, h1⟩
  · rw [rFlt, e, if_neg (nI_nem1 (by omega))] at hf
    exact absurd hf (nI_nem1 (by omega))
  · have h3 : len % 4 = 3 := Decidable.byContradiction fun q => by
      rw [rFlt, e, if_pos rfl, if_neg (fun q2 => q ((nI_eq (by omega) (by decide)).mp q2))] at hf
      exact absurd hf (nI_nem1 (by omega))
    refine ⟨hl, h3, fun k hk => ?_⟩
    have g0 := tx_chr h (show 4 * k < len by omega)
    have g1 := tx_chr h (show 4 * k + 1 < len by omega)
    obtain ⟨c0, d0, e0⟩ := rChr_N hc (nI (4 * k))
    obtain ⟨c1, d1, e1⟩ := rChr_N hc (nI (4 * k + 1))
    have b0 := h1 (4 * k) (by omega)
    have b1 := h1 (4 * k + 1) (by omega)
    have k0 : ¬ rCan M T (4 * k) = 0 := fun q => by simp [qBad, q] at b0
    have k1 : ¬ rCan M T (4 * k + 1) = 0 := fun q => by simp [qBad, q] at b1
    have l0 : ¬ zOk (M (m + 3)) (4 * k) = 0 := fun q => k0 ((tx_can h hc (by omega) (by omega)).mpr q)
    have l1 : ¬ zOk (M (m + 3)) (4 * k + 1) = 0 := fun q => k1 ((tx_can h hc (by omega) (by omega)).mpr q)
    have n1 : ¬ rIn (nI c1) (nI 60) (nI 62) = 0 := by
      rw [zOk, rem4 _ (by omega), show (4 * k + 1) % 4 = 1 by omega, if_neg (by decide), if_pos rfl, ← g1, e1] at l1
      exact l1
    have n0 : ¬ rIn (nI c0) (nI 97) (nI 100) = 0 := by
      rw [zOk, rem4 _ (by omega), show (4 * k) % 4 = 0 by omega, if_pos nI_0, ← g0, e0] at l0
      exact l0
    have o1 := (rIx_c c1 d1).2 n1
    refine ⟨?_, ?_, ?_, ?_⟩
    · rw [rTCol, zMt1, Nat.mul_comm k 4, g0]
    · rw [rTOp, zMt0, Nat.mul_comm k 4, ← g1, e1, o1]
    · rw [zMt0]
      split
      · exact ⟨0, by decide, rfl⟩
      · split
        · exact ⟨1, by decide, rfl⟩
        · exact ⟨2, by decide, rfl⟩
    · obtain ⟨j, j1, j2, j3⟩ := rIn_of n0 (by decide) (by decide)
      refine ⟨j - 97, by omega, ?_⟩
      rw [zMt1, ← g0, e0, j3, pk_sub j1]
theorem zTx_iff {S U : Nat → Int32} {q : Int32} {t : Nat} : ∀ k, ¬ zTx S U q t k = 0 ↔ (S (307 + 10 * t) = q ∧ ∀ j, j < k → S (307 + 10 * t + 1 + j) = zMt1 U j ∧ S (307 + 10 * t + 5 + j) = zMt0 U j)
  | 0 => by
    simp only [zTx]
    by_cases c : S (307 + 10 * t) = q
    · rw [if_pos c]
      exact ⟨fun _ => ⟨c, fun j hj => absurd hj (Nat.not_lt_zero j)⟩, fun _ => by decide⟩
    · rw [if_neg c]
      exact ⟨fun e => absurd nI_0 e, fun e => absurd e.1 c⟩
  | k + 1 => by
    have ih := zTx_iff (S := S) (U := U) (q := q) (t := t) k
    simp only [zTx]
    by_cases c0 : zTx S U q t k = 0
    · rw [if_pos c0]
      exact ⟨fun e => absurd rfl e, fun e => absurd c0 (ih.mpr ⟨e.1, fun j hj => e.2 j (by omega)⟩)⟩
    · rw [if_neg c0]
      have i := ih.mp c0
      by_cases c1 : S (307 + 10 * t + 1 + k) = zMt1 U k
      · rw [if_pos c1]
        by_cases c2 : S (307 + 10 * t + 5 + k) = zMt0 U k
        · rw [if_pos c2]
          refine ⟨fun _ => ⟨i.1, fun j hj => ?_⟩, fun _ => by decide⟩
          by_cases e : j = k
          · subst e; exact ⟨c1, c2⟩
          · exact i.2 j (by omega)
        · rw [if_neg c2]
          exact ⟨fun e => absurd nI_0 e, fun e => absurd (e.2 k (by omega)).2 c2⟩
      · rw [if_neg c1]
        exact ⟨fun e => absurd nI_0 e, fun e => absurd (e.2 k (by omega)).1 c1⟩
theorem rIsOf_iff {t n nc : Nat} (hn : n ≤ 30) (hc : nc ≤ 4) : ¬ rIsOf M t T n nc = 0 ↔ ((n + 1) / 4 = nc ∧ ∀ k, k < nc → rCol M t (nI k) = rTCol M T k ∧ rOp M t (nI k) = rTOp M T k) := by
  unfold rIsOf
  by_cases c0 : nI ((n + 1) / 4) = nI nc
  · rw [if_pos c0]
    have c1 : (n + 1) / 4 = nc := (nI_eq (by omega) (by omega)).mp c0
    by_cases c2 : (List.range nc).all (qSame M t T) = true
    · rw [if_pos c2]
      refine ⟨fun _ => ⟨c1, fun k hk => ?_⟩, fun _ => by decide⟩
      have := List.all_eq_true.mp c2 k (List.mem_range.mpr hk)
      simp only [qSame, Bool.and_eq_true, decide_eq_true_eq] at this
      exact this
    · rw [if_neg c2]
      refine ⟨fun e => absurd nI_0 e, fun e => absurd ?_ c2⟩
      rw [List.all_eq_true]
      intro k hk
      have := e.2 k (List.mem_range.mp hk)
      simp only [qSame, Bool.and_eq_true, decide_eq_true_eq]
      exact this
  · rw [if_neg c0]
    exact ⟨fun e => absurd nI_0 e, fun e => absurd (by rw [e.1]) c0⟩
theorem q_stm {c t : Nat} (h : eTxt M T m len) (hc : TC M T) (hf : rFlt M T len = -1) (hS : eStm M a S c) (ht : t < c) : qStm M a T len t = zFnd S (M (m + 3)) (nI (len + 1) / nI 4) t := by
  obtain ⟨hl, h3, hg⟩ := tx_good h hc hf
  obtain ⟨-, -, hc6, hs⟩ := hS
  obtain ⟨⟨ht6, hz, -, h4, -⟩, -, hq, -, hw⟩ := hs t ht
  have hr : rNC M (a + 25 + 3 * t) = zN S t := by rw [rNC, hq]; rfl
  have e : (rIsOf M (a + 25 + 3 * t) T len (zN S t) = 0) ↔ (zTx S (M (m + 3)) (nI (len + 1) / nI 4) t (zN S t) = 0) := by
    have i1 := rIsOf_iff (M := M) (T := T) (t := a + 25 + 3 * t) (n := len) (nc := zN S t) (by omega) h4
    have i2 := zTx_iff (S := S) (U := M (m + 3)) (q := nI (len + 1) / nI 4) (t := t) (zN S t)
    rw [pk_div (by omega) (by decide) (by decide), hz] at i2
    have i3 : (¬ rIsOf M (a + 25 + 3 * t) T len (zN S t) = 0) ↔ ¬ zTx S (M (m + 3)) (nI (len + 1) / nI 4) t (zN S t) = 0 := by
      rw [i1, pk_div (by omega) (by decide) (by decide), i2]
      refine ⟨fun ⟨a1, a2⟩ => ⟨by rw [a1], fun j hj => ?_⟩, fun ⟨a1, a2⟩ => ⟨((nI_eq (by omega) (by omega)).mp a1).symm, fun j hj => ?_⟩⟩
      · obtain ⟨b1, b2, -⟩ := hg j (by omega)
        obtain ⟨c1, c2⟩ := hw j hj
        have := a2 j hj
        rw [rCol, rOp, rAt_N _ (by omega) (by decide), rAt_N _ (by omega) (by decide), c1, c2, b1, b2] at this
        exact this
      · have a3 := (nI_eq (by omega) (by omega)).mp a1
        obtain ⟨b1, b2, -⟩ := hg j (by omega)
        obtain ⟨c1, c2⟩ := hw j hj
        rw [rCol, rOp, rAt_N _ (by omega) (by decide), rAt_N _ (by omega) (by decide), c1, c2, b1, b2]
        exact a2 j hj
    exact ⟨fun q => Decidable.byContradiction fun q2 => i3.mpr q2 q, fun q => Decidable.byContradiction fun q2 => i3.mp q2 q⟩
  unfold qStm zFnd
  rw [hr]
  by_cases d : rIsOf M (a + 25 + 3 * t) T len (zN S t) = 0
  · simp [d, e.mp d]
  · have d2 : ¬ zTx S (M (m + 3)) (nI (len + 1) / nI 4) t (zN S t) = 0 := fun q => d (e.mpr q)
    simp [d, d2]
end TXT
