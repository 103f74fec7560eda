theorem rUse7_o (M : jM) {a p t v x : Nat} (h1 : x ≠ p) (h2 : x ≠ a + 22) : rUse7 M a p t v x = M x := by
  simp only [rUse7]
  rw [jup_row _ _ h2, jup_row _ _ h2, jup_row _ _ h2, jup_row _ _ h2, jup_row _ _ h2, jup_row _ _ h1, jup_row _ _ h1]
/-- one less, also than 0 -/
def jPred (k : Nat) : Int32 := nI k - nI 1
theorem jPred_s (k : Nat) : jPred (k + 1) = nI k := by
  rw [jPred, pk_sub (by omega)]
  rfl
theorem jPred_neg : jPred 0 < 0 := by decide
theorem jPred_i (k : Nat) : nI k + Int32.ofInt (-1) = jPred k := by
  rw [jPred, Int32.sub_eq_add_neg]
  rfl
theorem SS_sw {R : jR} {a p q : Nat} (h : SS R a) : SS (jswap R (a + 11) p q) a := by
  intro j hj
  rw [jswap, jup_row _ _ (by omega), jup_row _ _ (by omega)]
  exact h j hj
theorem rThr_k (M : jM) (b n : Nat) : rThr M b n b 2 = nI (n - 1) := by
  rw [rThr, jup_nk _ _ (by decide), rRem, jup_eq]
theorem nI_of_nlt {a b : Nat} (h : ¬ nI a < nI b) (ha : a < 2 ^ 31) (hb : b < 2 ^ 31) : b ≤ a := Nat.le_of_not_lt fun q => h ((nI_ltI ha hb).mpr q)
theorem SA_cong {M M' : jM} {R R' : jR} {a : Nat} (h : SA M R a) (hM : ∀ x, (a ≤ x ∧ x < a + 43) → M' x = M x) (hR : ∀ x, (a ≤ x ∧ x < a + 43) → R' x = R x) : SA M' R' a := by
  obtain ⟨h1, h2, h3, h4, h5⟩ := h
  have e11 : R' (a + 11 + 1) = R (a + 11 + 1) := hR _ (by omega)
  have ep : ∀ i, pa R' (a + 11) i = pa R (a + 11) i := fun i => by simp only [pa, e11]
  refine ⟨fun j hj => by rw [hR _ (by omega)]; exact h1 j hj, ⟨fun k hk => by rw [e11]; exact h2.1 k hk, fun i j hi hj e => h2.2 i j hi hj (by rw [e11] at e; exact e)⟩, fun i hi => ?_, by rw [hM _ (by omega)]; exact h4, by rw [hM _ (by omega)]; exact h5⟩
  obtain ⟨j, hj, e⟩ := h2.rg hi
  rw [ep, hM _ (by omega)]
  exact h3 i hi
