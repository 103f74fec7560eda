section RUN
variable {A B Z0 F G M M' : jM} {Rp RA RF : jR} {a u v n k p m t r w q b c : Nat} {f : Nat → Nat} {o e b9 num how d0 C : Int32} {S S' V : Nat → Int32}
theorem zC1_c (hr : r ≤ 30) (hw : w = 9 ∨ w < 4) (hc : ∀ k, k < 4 → w = k → zCol S t k < 4) (e1 : ∀ j, 29 ≤ j → j < 179 → S' j = S j) (e2 : ∀ j, 307 + 10 * t ≤ j → j < 307 + 10 * t + 9 → S' j = S j) : zC1 S' V t r w = zC1 S V t r w := by
  unfold zC1
  by_cases d : nI w = nI 9
  · rw [if_pos d, if_pos d]
    exact sI_congr (fun k hk => e1 _ (by omega) (by omega))
  · rw [if_neg d, if_neg d]
    have hw4 : w < 4 := hw.elim (fun q => absurd (by rw [q]) d) id
    have hcw := hc w hw4 rfl
    have ec : zCol S' t w = zCol S t w := by
      unfold zCol
      rw [e2 _ (by omega) (by omega)]
    congr 1
    refine sI_congr (fun k hk => ?_)
    unfold zW1 zHold
    rw [ec, e2 _ (by omega) (by omega), e1 _ (by omega) (by omega), e1 _ (by omega) (by omega)]
theorem E3_at (hu : a + 25 ≤ u) (hv : v < a ∨ a + 43 ≤ v) (hu2 : u + 3 ≤ a + 43) : (∀ x, x ≠ a → x ≠ u → x ≠ a + 22 → x ≠ a + 23 → rLBegin (rE2 B a u) (a + 22) v (nI t) o x = B x) ∧ (rLBegin (rE2 B a u) (a + 22) v (nI t) o a 9 = B a 9 + nI 1 ∧ ∀ j, j ≠ 9 → rLBegin (rE2 B a u) (a + 22) v (nI t) o a j = B a j) ∧
    (rLBegin (rE2 B a u) (a + 22) v (nI t) o u 3 = B u 3 + nI 1 ∧ ∀ j, j ≠ 3 → rLBegin (rE2 B a u) (a + 22) v (nI t) o u j = B u j) ∧ (rLBegin (rE2 B a u) (a + 22) v (nI t) o (a + 22) 1 = nI 1 ∧ rLBegin (rE2 B a u) (a + 22) v (nI t) o (a + 22) 2 = nI t ∧ rLBegin (rE2 B a u) (a + 22) v (nI t) o (a + 22) 3 = o ∧ rLBegin (rE2 B a u) (a + 22) v (nI t) o (a + 22) 10 = -4) ∧
    ∀ k, k < 4 → rLBegin (rE2 B a u) (a + 22) v (nI t) o (a + 23) k = B v k := by
  refine ⟨fun x h1 h2 h3 h4 => ?_, ⟨?_, fun j hj => ?_⟩, ⟨?_, fun j hj => ?_⟩, ⟨?_, ?_, ?_, ?_⟩, fun k hk => ?_⟩
  · rw [rLBegin_o _ h3 (by omega), rE2, jup_row _ _ h2, jup_row _ _ h1]
  · rw [rLBegin_o _ (by omega) (by omega), rE2, jup_na _ _ (by omega), jup_eq]
  · rw [rLBegin_o _ (by omega) (by omega), rE2, jup_na _ _ (by omega), jup_nk _ _ hj]
  · rw [rLBegin_o _ (by omega) (by omega), rE2, jup_eq, jup_na _ _ (by omega)]
  · rw [rLBegin_o _ (by omega) (by omega), rE2, jup_nk _ _ hj, jup_na _ _ (by omega)]
  · rw [rLBegin, jup_nk _ _ (by decide), jup_nk _ _ (by decide), jcopy_o _ (by omega), jup_nk _ _ (by decide), jup_eq]
  · rw [rLBegin, jup_nk _ _ (by decide), jup_nk _ _ (by decide), jcopy_o _ (by omega), jup_eq]
  · rw [rLBegin, jup_nk _ _ (by decide), jup_eq]
  · rw [rLBegin, jup_eq]
  · rw [rLBegin, jup_na _ _ (by omega), jup_na _ _ (by omega)]
    refine (jcopy_in (M := jup (jup (rE2 B a u) (a + 22) 1 (nI 1)) (a + 22) 2 (nI t)) (a := v) (b := a + 23) hk).trans ?_
    rw [jup_row _ _ (by omega), jup_row _ _ (by omega), rE2, jup_row _ _ (by omega), jup_row _ _ (by omega)]
/-- a new plan that is kept -/
theorem newK_at {E5 : jM} {R' : jR} {n' cap : Nat} {y : Int32} (hR : SR R' (a + 11)) (h2 : E5 (a + 11) 2 = nI n') (hc : n' < cap) (hc8 : cap ≤ 8) (hy : y = nI cap) :
    rNewP E5 R' (a + 11) y n' = pa R' (a + 11) n' ∧ (∀ x, x ≠ pa R' (a + 11) n' → x ≠ a + 11 → rNewM E5 R' (a + 11) (nI t) o y n' x = E5 x) ∧ rNewM E5 R' (a + 11) (nI t) o y n' (pa R' (a + 11) n') 0 = E5 (a + 11) 3 ∧ rNewM E5 R' (a + 11) (nI t) o y n' (pa R' (a + 11) n') 1 = nI t ∧ rNewM E5 R' (a + 11) (nI t) o y n' (pa R' (a + 11) n') 2 = o ∧
      rNewM E5 R' (a + 11) (nI t) o y n' (pa R' (a + 11) n') 5 = nI 0 ∧ rNewM E5 R' (a + 11) (nI t) o y n' (pa R' (a + 11) n') 6 = nI 0 ∧ rNewM E5 R' (a + 11) (nI t) o y n' (pa R' (a + 11) n') 7 = nI 0 ∧ rNewM E5 R' (a + 11) (nI t) o y n' (a + 11) 2 = nI (n' + 1) ∧ rNewM E5 R' (a + 11) (nI t) o y n' (a + 11) 3 = E5 (a + 11) 3 + nI 1 ∧ ∀ j, j ≠ 2 → j ≠ 3 → rNewM E5 R' (a + 11) (nI t) o y n' (a + 11) j = E5 (a + 11) j := by
  obtain ⟨j, hj, ej⟩ := hR.rg (show n' < 8 by omega)
  have g1 : ¬ y ≤ E5 (a + 11) 2 := by rw [h2, hy]; exact nI_ge hc (by omega)
  have g2 : E5 (a + 11) 2 < nI 8 := by rw [h2]; exact (nI_ltI (by omega) (by decide)).mpr (by omega)
  have pb : ∀ x, x ≠ pa R' (a + 11) n' → rPBegin E5 (pa R' (a + 11) n') (E5 (a + 11) 3) (nI t) o x = E5 x := fun x hx => by
    simp only [rPBegin]
    rw [jup_row _ _ hx, jup_row _ _ hx, jup_row _ _ hx, jup_row _ _ hx, jup_row _ _ hx, jup_row _ _ hx]
  have pb11 := pb (a + 11) (by omega)
  have e : rNewM E5 R' (a + 11) (nI t) o y n' = jup (jup (rPBegin E5 (pa R' (a + 11) n') (E5 (a + 11) 3) (nI t) o) (a + 11) 2 (nI (n' + 1))) (a + 11) 3 (E5 (a + 11) 3 + nI 1) := by
    unfold rNewM
    rw [if_neg g1, if_pos g2, pb11, jup_nk _ _ (show 3 ≠ 2 by decide), pb11, h2, nI_add]
  refine ⟨by unfold rNewP; rw [if_neg g1, if_pos g2], fun x h1 h2 => ?_, ?_, ?_, ?_, ?_, ?_, ?_, ?_, ?_, fun j h1 h2 => ?_⟩
  · rw [e, jup_row _ _ h2, jup_row _ _ h2, pb x h1]
  · rw [e, jup_na _ _ (by omega), jup_na _ _ (by omega)]
    simp only [rPBegin]
    rw [jup_nk _ _ (by decide), jup_nk _ _ (by decide), jup_nk _ _ (by decide), jup_nk _ _ (by decide), jup_nk _ _ (by decide), jup_eq]
  · rw [e, jup_na _ _ (by omega), jup_na _ _ (by omega)]
    simp only [rPBegin]
    rw [jup_nk _ _ (by decide), jup_nk _ _ (by decide), jup_nk _ _ (by decide), jup_nk _ _ (by decide), jup_eq]
  · rw [e, jup_na _ _ (by omega), jup_na _ _ (by omega)]
    simp only [rPBegin]
    rw [jup_nk _ _ (by decide), jup_nk _ _ (by decide), jup_nk _ _ (by decide), jup_eq]
  · rw [e, jup_na _ _ (by omega), jup_na _ _ (by omega)]
    simp only [rPBegin]
    rw [jup_nk _ _ (by decide), jup_nk _ _ (by decide), jup_eq]
  · rw [e, jup_na _ _ (by omega), jup_na _ _ (by omega)]
    simp only [rPBegin]
    rw [jup_nk _ _ (by decide), jup_eq]
  · rw [e, jup_na _ _ (by omega), jup_na _ _ (by omega)]
    simp only [rPBegin]
    rw [jup_eq]
  · rw [e, jup_nk _ _ (by decide), jup_eq]
  · rw [e, jup_eq]
  · rw [e, jup_nk _ _ h2, jup_nk _ _ h1, pb11]
/-- a new plan that is not kept -/
theorem newL_at {E5 : jM} {R' : jR} {n' cap : Nat} {y : Int32} (h2 : E5 (a + 11) 2 = nI n') (hc : cap ≤ n') (hn : n' ≤ 8) (hy : y = nI cap) :
    rNewP E5 R' (a + 11) y n' = a + 13 ∧ (∀ x, x ≠ a + 13 → rNewM E5 R' (a + 11) (nI t) o y n' x = E5 x) ∧ rNewM E5 R' (a + 11) (nI t) o y n' (a + 13) 0 = -4 ∧ rNewM E5 R' (a + 11) (nI t) o y n' (a + 13) 7 = nI 0 := by
  have g1 : y ≤ E5 (a + 11) 2 := by rw [h2, hy]; exact (nI_leI (by omega) (by omega)).mpr hc
  have e : rNewM E5 R' (a + 11) (nI t) o y n' = rPBegin E5 (a + 13) (-4) (nI t) o := by unfold rNewM; rw [if_pos g1]
  refine ⟨by unfold rNewP; rw [if_pos g1], fun x h1 => ?_, ?_, ?_⟩
  · rw [e]
    simp only [rPBegin]
    rw [jup_row _ _ h1, jup_row _ _ h1, jup_row _ _ h1, jup_row _ _ h1, jup_row _ _ h1, jup_row _ _ h1]
  · rw [e]
    simp only [rPBegin]
    rw [jup_nk _ _ (by decide), jup_nk _ _ (by decide), jup_nk _ _ (by decide), jup_nk _ _ (by decide), jup_nk _ _ (by decide), jup_eq]
  · rw [e]
    simp only [rPBegin]
    rw [jup_eq]
theorem mKp_at (N : jM) {n : Nat} {w1 w2 w3 w4 : Int32} : mKp N m n w1 w2 w3 w4 (m + 1) (367 + 9 * n + 0) = N (m + 1) 5 ∧ mKp N m n w1 w2 w3 w4 (m + 1) (367 + 9 * n + 1) = w1 ∧ mKp N m n w1 w2 w3 w4 (m + 1) (367 + 9 * n + 2) = w2 ∧ mKp N m n w1 w2 w3 w4 (m + 1) (367 + 9 * n + 3) = w3 ∧ mKp N m n w1 w2 w3 w4 (m + 1) (367 + 9 * n + 4) = w4 ∧ mKp N m n w1 w2 w3 w4 (m + 1) (367 + 9 * n + 5) = nI 0 ∧ mKp N m n w1 w2 w3 w4 (m + 1) (367 + 9 * n + 6) = nI 0 ∧ mKp N m n w1 w2 w3 w4 (m + 1) (367 + 9 * n + 7) = nI 0 ∧
    mKp N m n w1 w2 w3 w4 (m + 1) 5 = N (m + 1) 5 + nI 1 ∧ ∀ i y, i < n → y < 9 → mKp N m n w1 w2 w3 w4 (m + 1) (367 + 9 * i + y) = N (m + 1) (367 + 9 * i + y) := by
  unfold mKp
  refine ⟨?_, ?_, ?_, ?_, ?_, ?_, ?_, ?_, ?_, fun i y hi hy => ?_⟩
  · rw [jup_nk _ _ (by omega), jup_nk _ _ (by omega), jup_nk _ _ (by omega), jup_nk _ _ (by omega), jup_nk _ _ (by omega), jup_nk _ _ (by omega), jup_nk _ _ (by omega), jup_nk _ _ (by omega), jup_nk _ _ (by omega), jup_nk _ _ (by omega), jup_eq]
  · rw [jup_nk _ _ (by omega), jup_nk _ _ (by omega), jup_nk _ _ (by omega), jup_nk _ _ (by omega), jup_nk _ _ (by omega), jup_nk _ _ (by omega), jup_nk _ _ (by omega), jup_nk _ _ (by omega), jup_nk _ _ (by omega), jup_eq]
  · rw [jup_nk _ _ (by omega), jup_nk _ _ (by omega), jup_nk _ _ (by omega), jup_nk _ _ (by omega), jup_nk _ _ (by omega), jup_nk _ _ (by omega), jup_nk _ _ (by omega), jup_nk _ _ (by omega), jup_eq]
  · rw [jup_nk _ _ (by omega), jup_nk _ _ (by omega), jup_nk _ _ (by omega), jup_nk _ _ (by omega), jup_nk _ _ (by omega), jup_nk _ _ (by omega), jup_nk _ _ (by omega), jup_eq]
  · rw [jup_nk _ _ (by omega), jup_nk _ _ (by omega), jup_nk _ _ (by omega), jup_nk _ _ (by omega), jup_nk _ _ (by omega), jup_nk _ _ (by omega), jup_eq]
  · rw [jup_nk _ _ (by omega), jup_nk _ _ (by omega), jup_nk _ _ (by omega), jup_nk _ _ (by omega), jup_nk _ _ (by omega), jup_eq]
  · rw [jup_nk _ _ (by omega), jup_nk _ _ (by omega), jup_nk _ _ (by omega), jup_nk _ _ (by omega), jup_eq]
  · rw [jup_nk _ _ (by omega), jup_nk _ _ (by omega), jup_nk _ _ (by omega), jup_eq]
  · rw [jup_nk _ _ (by omega), jup_eq]
  · rw [jup_nk _ _ (by omega), jup_nk _ _ (by omega), jup_nk _ _ (by omega), jup_nk _ _ (by omega), jup_nk _ _ (by omega), jup_nk _ _ (by omega), jup_nk _ _ (by omega), jup_nk _ _ (by omega), jup_nk _ _ (by omega), jup_nk _ _ (by omega), jup_nk _ _ (by omega)]
end RUN
