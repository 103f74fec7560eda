section IDX
variable {M M1 M2 N : jM} {R R1 : jR} {a h T v m b nh : Nat} {S S2 V : Nat → Int32} {r n n' c b' k len : Nat} {f f' : Nat → Nat}
theorem rCnt_out {P : Nat → Bool} {p : Nat} : ∀ n, p < n → P p = false → rCnt (fun q => P (outG p q)) (n - 1) = rCnt P n
  | 0, h, _ => absurd h (Nat.not_lt_zero p)
  | n + 1, h, hp => by
    rw [Nat.add_sub_cancel, rCnt_s]
    by_cases d : p = n
    · subst d
      rw [hp, rCnt_congr (q := P) (fun k hk => by rw [outG, if_pos hk])]
      rfl
    · have ih := rCnt_out (P := P) (p := p) n (by omega) hp
      have e : rCnt (fun q => P (outG p q)) n = rCnt (fun q => P (outG p q)) (n - 1) + (if P n = true then 1 else 0) := by
        have e1 : n = (n - 1) + 1 := by omega
        have e2 : outG p (n - 1) = n := by
          rw [outG, if_neg (by omega)]
          omega
        have e3 : rCnt (fun q => P (outG p q)) ((n - 1) + 1) = rCnt (fun q => P (outG p q)) (n - 1) + (if P (outG p (n - 1)) = true then 1 else 0) := rCnt_s _ _
        rw [e2, ← e1] at e3
        exact e3
      rw [e, ih]
theorem rCnt_sw {P : Nat → Bool} {k n : Nat} (hk : k < n) (hp : P k = false) : rCnt (fun i => P (if i = k then n - 1 else i)) (n - 1) = rCnt P n := by
  have e1 : n = (n - 1) + 1 := by omega
  have e3 : rCnt P ((n - 1) + 1) = rCnt P (n - 1) + (if P (n - 1) = true then 1 else 0) := rCnt_s _ _
  rw [← e1] at e3
  rw [e3]
  by_cases d : k = n - 1
  · have : rCnt (fun i => P (if i = k then n - 1 else i)) (n - 1) = rCnt P (n - 1) := rCnt_congr (fun i hi => by rw [if_neg (by omega)])
    rw [this, ← d, hp]
    rfl
  · have := rCnt_upd (p := fun i => P (if i = k then n - 1 else i)) (q := P) (n := n - 1) (y := k) (by omega) (fun i hi hi2 => by
      show P (if i = k then n - 1 else i) = P i
      rw [if_neg hi2])
    simp only [if_true, hp] at this
    have e4 : (if false = true then 1 else 0) = 0 := rfl
    omega
theorem rSA_ne (a : Nat) (p : Int32) : rSA a p + 1 ≠ a + 11 ∧ (rSA a p + 1 < a + 11 ∨ a + 25 ≤ rSA a p) := by
  unfold rSA
  split
  · omega
  · split <;> omega
/-- a plan's words tell that it goes by an index on column c -/
def gB (M : jM) (a : Nat) (c : Int32) (w1 w3 : Int32) : Bool := decide (¬ w3 = nI 9) && decide (rCol M (rSA a w1) w3 = c)
theorem gB_c {c w1 w3 : Int32} (hM : ∀ x, x ≠ a + 11 → M1 x = M x) : gB M1 a c w1 w3 = gB M a c w1 w3 := by
  unfold gB rCol
  rw [hM _ (rSA_ne a w1).1]
abbrev gBk (M : jM) (R : jR) (a : Nat) (c : Int32) (i : Nat) : Bool := gB M a c (M (pa R (a + 11) i) 1) (M (pa R (a + 11) i) 3)
theorem tb_inv {c : Int32} : ∀ (k n : Nat) (M : jM) (R : jR), k ≤ n → n ≤ 8 → SR R (a + 11) → M (a + 11) 2 = nI n → (∀ i, k ≤ i → i < n → gBk M R a c i = false) →
    ∃ g : Nat → Nat, (∀ i, i < (rTB a c k n M R).2.2 → g i < n ∧ pa (rTB a c k n M R).2.1 (a + 11) i = pa R (a + 11) (g i) ∧ gBk M R a c (g i) = false) ∧ (∀ i j, i < (rTB a c k n M R).2.2 → j < (rTB a c k n M R).2.2 → g i = g j → i = j) ∧
      (rTB a c k n M R).2.2 = rCnt (fun i => !gBk M R a c i) n ∧ (rTB a c k n M R).2.2 ≤ n ∧ (rTB a c k n M R).1 (a + 11) 2 = nI (rTB a c k n M R).2.2 ∧ (rTB a c k n M R).1 (a + 11) 5 = M (a + 11) 5 + nI (n - (rTB a c k n M R).2.2) ∧
      (∀ x, x ≠ a + 11 → (rTB a c k n M R).1 x = M x) ∧ (∀ j, j ≠ 2 → j ≠ 5 → (rTB a c k n M R).1 (a + 11) j = M (a + 11) j) ∧ SR (rTB a c k n M R).2.1 (a + 11) ∧ ∀ x, x ≠ a + 12 → (rTB a c k n M R).2.1 x = R x
  | 0, n, M, R, hk, hn, hR, h2, hno => by
    have e : rCnt (fun i => !gBk M R a c i) n = n := by
      have : ∀ n', n' ≤ n → rCnt (fun i => !gBk M R a c i) n' = n' := by
        intro n'
        induction n' with
        | zero => intro _; rfl
        | succ q ih =>
          intro hq
          rw [rCnt_s, ih (by omega), hno q (Nat.zero_le _) (by omega)]
          rfl
      exact this n (Nat.le_refl n)
    refine ⟨id, fun i hi => ⟨hi, rfl, hno i (Nat.zero_le _) hi⟩, fun _ _ _ _ q => q, e.symm, Nat.le_refl n, h2, ?_, fun _ _ => rfl, fun _ _ _ => rfl, hR, fun _ _ => rfl⟩
    show M (a + 11) 5 = _ + nI (n - n)
    rw [Nat.sub_self, nI_0, Int32.add_zero]
  | k + 1, n, M, R, hk, hn, hR, h2, hno => by
    by_cases hg : gBk M R a c k = true
    · have hg' := hg
      simp only [gBk, gB, Bool.and_eq_true, decide_eq_true_eq] at hg'
      have eT : rTB a c (k + 1) n M R = rTB a c k (n - 1) (rThr M (a + 11) n) (jswap R (a + 11) k (n - 1)) := by
        rw [rTB, if_neg hg'.1, if_pos hg'.2]
      rw [eT]
      have hM1 : ∀ x, x ≠ a + 11 → rThr M (a + 11) n x = M x := fun x hx => by rw [rThr, jup_row _ _ hx, rRem, jup_row _ _ hx]
      have epa : ∀ i, i < n - 1 → pa (jswap R (a + 11) k (n - 1)) (a + 11) i = pa R (a + 11) (if i = k then n - 1 else i) := fun i hi => by
        rw [pa_swap, if_neg (show ¬ i = n - 1 by omega)]
        split <;> rfl
      have ne11 : ∀ i, i < 8 → pa R (a + 11) i ≠ a + 11 := fun i hi => by
        obtain ⟨j, hj, e⟩ := hR.rg hi
        omega
      have egb : ∀ i, i < n - 1 → gBk (rThr M (a + 11) n) (jswap R (a + 11) k (n - 1)) a c i = gBk M R a c (if i = k then n - 1 else i) := fun i hi => by
        have h8 : (if i = k then n - 1 else i) < 8 := by split <;> omega
        unfold gBk
        rw [epa i hi, gB_c hM1, hM1 _ (ne11 _ h8)]
      obtain ⟨g0, i1, i2, i3, i4, i5, i6, i7, i8, i9, i10⟩ := tb_inv k (n - 1) (rThr M (a + 11) n) (jswap R (a + 11) k (n - 1)) (by omega) (by omega) (SR_swap hR (by omega) (by omega)) (rThr_k _ _ _) (fun i h1 h2 => by
        rw [egb i h2]
        split
        · exact hno _ (by omega) (by omega)
        · exact hno _ (by omega) (by omega))
      refine ⟨fun i => if g0 i = k then n - 1 else g0 i, fun i hi => ?_, fun i j hi hj q => ?_, ?_, by omega, i5, ?_, fun x hx => by rw [i7 x hx, hM1 x hx], fun j h1 h2 => ?_, i9, fun x hx => ?_⟩
      · obtain ⟨a1, a2, a3⟩ := i1 i hi
        refine ⟨?_, by rw [a2, epa _ a1], by rw [← egb _ a1]; exact a3⟩
        show (if g0 i = k then n - 1 else g0 i) < n
        split <;> omega
      · have a1 := (i1 i hi).1
        have a2 := (i1 j hj).1
        refine i2 i j hi hj ?_
        simp only at q
        split at q <;> split at q <;> omega
      · rw [i3, ← rCnt_sw (P := fun i => !gBk M R a c i) (k := k) (n := n) (by omega) (by show (!gBk M R a c k) = false; rw [hg]; rfl)]
        refine rCnt_congr (fun i hi => ?_)
        rw [egb i hi]
      · have e5 : rThr M (a + 11) n (a + 11) 5 = M (a + 11) 5 + nI 1 := by rw [rThr, jup_eq]
        rw [i6, e5, Int32.add_assoc, nI_add, show 1 + (n - 1 - (rTB a c k (n - 1) (rThr M (a + 11) n) (jswap R (a + 11) k (n - 1))).2.2) = n - (rTB a c k (n - 1) (rThr M (a + 11) n) (jswap R (a + 11) k (n - 1))).2.2 by omega]
      · rw [i8 j h1 h2, rThr, jup_nk _ _ h2, rRem, jup_nk _ _ h1]
      · rw [i10 x hx, jswap, jup_row _ _ (by omega), jup_row _ _ (by omega)]
    · have hg2 : gBk M R a c k = false := Bool.eq_false_iff.mpr hg
      have eT : rTB a c (k + 1) n M R = rTB a c k n M R := by
        rw [rTB]
        by_cases d : M (pa R (a + 11) k) 3 = nI 9
        · rw [if_pos d]
        · rw [if_neg d]
          by_cases d2 : rCol M (rSA a (M (pa R (a + 11) k) 1)) (M (pa R (a + 11) k) 3) = c
          · exact absurd (by simp only [gBk, gB, d, d2, not_false_eq_true, decide_true, Bool.and_self]) hg
          · rw [if_neg d2]
      rw [eT]
      exact tb_inv k n M R (by omega) hn hR h2 (fun i h1 h3 => by
        by_cases d : i = k
        · subst d; exact hg2
        · exact hno i (by omega) h3)
theorem zGo_out {c w : Int32} {p q : Nat} (hp : p < n) (hq : q < n - 1) (hz : zPl N m n) : zGo (mOut N m n p) m c w q = zGo N m c w (outG p q) := by
  obtain ⟨t, y, h1, h2, h3, h4⟩ := hz _ (outG_lt hp hq)
  have e1 := mOut_w (N := N) (m := m) hp hq (show 1 < 9 by decide)
  have e3 := mOut_w (N := N) (m := m) hp hq (show 3 < 9 by decide)
  unfold zGo
  rw [e1, e3]
  show (!decide (N (m + 1) (367 + 9 * outG p q + 3) = nI 9) && decide (mOut N m n p (m + 1) (307 + 10 * (N (m + 1) (367 + 9 * outG p q + 1)).toNatClampNeg + 1 + (N (m + 1) (367 + 9 * outG p q + 3)).toNatClampNeg) = c) && decide (w = 0)) = _
  rw [h3, h4, nI_clamp (by omega), nI_clamp (by omega)]
  rcases h2 with rfl | h2
  · simp
  · rw [mOut_l _ (by omega) (by omega)]
theorem ix_inv {c : Int32} : ∀ (p n : Nat) (N : jM) (k : Nat), p ≤ n → n ≤ 8 → N (m + 1) 4 = nI n → zPl N m n → (∀ q, p ≤ q → q < n → zGo N m c (nI 0) q = false) →
    ∃ g : Nat → Nat, (∀ j, j < (zIx m c (nI 0) p n N k).2.1 → g j < n ∧ (∀ w, w < 9 → (zIx m c (nI 0) p n N k).1 (m + 1) (367 + 9 * j + w) = N (m + 1) (367 + 9 * g j + w)) ∧ zGo N m c (nI 0) (g j) = false) ∧ (∀ i j, i < (zIx m c (nI 0) p n N k).2.1 → j < (zIx m c (nI 0) p n N k).2.1 → g i = g j → i = j) ∧
      (∀ q, q < n → zGo N m c (nI 0) q = false → ∃ j, j < (zIx m c (nI 0) p n N k).2.1 ∧ g j = q) ∧ (zIx m c (nI 0) p n N k).2.1 = rCnt (fun q => !zGo N m c (nI 0) q) n ∧ (zIx m c (nI 0) p n N k).2.1 ≤ n ∧ (zIx m c (nI 0) p n N k).1 (m + 1) 4 = nI (zIx m c (nI 0) p n N k).2.1 ∧
      (∀ i, i < 367 → i ≠ 4 → (zIx m c (nI 0) p n N k).1 (m + 1) i = N (m + 1) i) ∧ (∀ x, x ≠ m + 1 → (zIx m c (nI 0) p n N k).1 x = N x) ∧ (zIx m c (nI 0) p n N k).2.2 = k + (n - (zIx m c (nI 0) p n N k).2.1)
  | 0, n, N, k, hk, hn, h4, hz, hno => by
    have e : rCnt (fun q => !zGo N m c (nI 0) q) n = n := by
      have : ∀ n', n' ≤ n → rCnt (fun q => !zGo N m c (nI 0) q) n' = n' := by
        intro n'
        induction n' with
        | zero => intro _; rfl
        | succ q ih =>
          intro hq
          rw [rCnt_s, ih (by omega), hno q (Nat.zero_le _) (by omega)]
          rfl
      exact this n (Nat.le_refl n)
    refine ⟨id, fun j hj => ⟨hj, fun _ _ => rfl, hno j (Nat.zero_le _) hj⟩, fun _ _ _ _ q => q, fun q hq _ => ⟨q, hq, rfl⟩, e.symm, Nat.le_refl n, h4, fun _ _ _ => rfl, fun _ _ => rfl, ?_⟩
    show k = k + (n - n)
    omega
  | p + 1, n, N, k, hk, hn, h4, hz, hno => by
    by_cases hg : zGo N m c (nI 0) p = true
    · have eT : zIx m c (nI 0) (p + 1) n N k = zIx m c (nI 0) p (n - 1) (mOut N m n p) (k + 1) := by rw [zIx, if_pos hg]
      rw [eT]
      have ego : ∀ q, q < n - 1 → zGo (mOut N m n p) m c (nI 0) q = zGo N m c (nI 0) (outG p q) := fun q hq => zGo_out (by omega) hq hz
      obtain ⟨g0, i1, i2, i3, i4, i5, i6, i7, i8, i9⟩ := ix_inv p (n - 1) (mOut N m n p) (k + 1) (by omega) (by omega) (mOut_n _ _ _ _) (zPl_out hz (by omega)) (fun q h1 h2 => by
        rw [ego q h2]
        refine hno _ ?_ (outG_lt (by omega) h2)
        unfold outG
        split <;> omega)
      refine ⟨fun j => outG p (g0 j), fun j hj => ?_, fun i j hi hj q => i2 i j hi hj (outG_inj q), fun q hq hf => ?_, ?_, by omega, i6, fun i h1 h2 => by rw [i7 i h1 h2, mOut_l _ h1 h2], fun x hx => by rw [i8 x hx, mOut_o _ hx], by omega⟩
      · obtain ⟨a1, a2, a3⟩ := i1 j hj
        exact ⟨outG_lt (by omega) a1, fun w hw => by rw [a2 w hw, mOut_w (by omega) a1 hw]; rfl, by rw [← ego _ a1]; exact a3⟩
      · have hqp : q ≠ p := fun e => by rw [e, hg] at hf; exact absurd hf (by decide)
        have eo : outG p (if q < p then q else q - 1) = q := by
          unfold outG
          by_cases d : q < p
          · rw [if_pos d, if_pos d]
          · rw [if_neg d, if_neg (by omega)]
            omega
        have hq1 : (if q < p then q else q - 1) < n - 1 := by split <;> omega
        obtain ⟨j, j1, j2⟩ := i3 _ hq1 (by rw [ego _ hq1, eo]; exact hf)
        exact ⟨j, j1, by show outG p (g0 j) = q; rw [j2, eo]⟩
      · rw [i4, ← rCnt_out (P := fun q => !zGo N m c (nI 0) q) (p := p) n (by omega) (by show (!zGo N m c (nI 0) p) = false; rw [hg]; rfl)]
        refine rCnt_congr (fun q hq => ?_)
        rw [ego q hq]
    · have hg2 : zGo N m c (nI 0) p = false := Bool.eq_false_iff.mpr hg
      have eT : zIx m c (nI 0) (p + 1) n N k = zIx m c (nI 0) p n N k := by rw [zIx, if_neg hg]
      rw [eT]
      exact ix_inv p n N k (by omega) hn h4 hz (fun q h1 h3 => by
        by_cases d : q = p
        · subst d; exact hg2
        · exact hno q (by omega) h3)
theorem ix_no {c w : Int32} (hw : ¬ w = 0) : ∀ (p n : Nat) (N : jM) (k : Nat), zIx m c w p n N k = (N, n, k)
  | 0, _, _, _ => rfl
  | p + 1, n, N, k => by rw [zIx, if_neg (zGo_f3 hw), ix_no hw p n N k]
theorem SR_sur {b j : Nat} (h : SR R b) (hj : j < 8) : ∃ k, k < 8 ∧ pa R b k = b + 3 + j := by
  have hb : eBij (fun k => pa R b k - (b + 3)) 8 := ⟨fun k hk => by
    obtain ⟨i, hi, e⟩ := h.rg hk
    show pa R b k - (b + 3) < 8
    omega, fun i j hi hj q => by
    obtain ⟨i', hi', e⟩ := h.rg hi
    obtain ⟨j', hj', e'⟩ := h.rg hj
    refine h.inj hi hj ?_
    simp only at q
    omega⟩
  obtain ⟨k, hk, e⟩ := hb.sur hj
  obtain ⟨i', hi', e'⟩ := h.rg hk
  exact ⟨k, hk, by omega⟩
end IDX
