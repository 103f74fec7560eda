section GE
variable {ω : jW} {γ : jG} {M : jM} {R : jR} {b : Nat}
theorem gSums_of (h1 : jlo ω ≤ b) (h2 : b + 2 ≤ jlo ω + jn γ) (h : ∀ i, i < 2 → row γ M R (b + i) = dSums b i) : gSums ω γ b :=
  ⟨jAt_row h1 (by omega) (h 0 (by decide)) rfl, jP_row (h 0 (by decide)) rfl, jArr_row (by omega) (by omega) (h 1 (by decide)) rfl rfl⟩
theorem gStm_of (h1 : jlo ω ≤ b) (h2 : b + 3 ≤ jlo ω + jn γ) (h : ∀ i, i < 3 → row γ M R (b + i) = dStm b i) : gStm ω γ b :=
  ⟨jAt_row h1 (by omega) (h 0 (by decide)) rfl, jP_row (h 0 (by decide)) rfl, jArr_row (by omega) (by omega) (h 1 (by decide)) rfl rfl, jP_row (h 0 (by decide)) rfl, jArr_row (by omega) (by omega) (h 2 (by decide)) rfl rfl⟩
theorem gLast_of (h1 : jlo ω ≤ b) (h2 : b + 2 ≤ jlo ω + jn γ) (h : ∀ i, i < 2 → row γ M R (b + i) = dLast b i) : gLast ω γ b :=
  ⟨jAt_row h1 (by omega) (h 0 (by decide)) rfl, jP_row (h 0 (by decide)) rfl, jArr_row (by omega) (by omega) (h 1 (by decide)) rfl rfl⟩
theorem gText_of (h1 : jlo ω ≤ b) (h2 : b + 2 ≤ jlo ω + jn γ) (h : ∀ i, i < 2 → row γ M R (b + i) = dText b i) : gText ω γ b :=
  ⟨jAt_row h1 (by omega) (h 0 (by decide)) rfl, jP_row (h 0 (by decide)) rfl, jArr_row (by omega) (by omega) (h 1 (by decide)) rfl rfl⟩
theorem gTable_of (h1 : jlo ω ≤ b) (h2 : b + 4 ≤ jlo ω + jn γ) (h : ∀ i, i < 4 → row γ M R (b + i) = dTable b i) : gTable ω γ b :=
  ⟨jAt_row h1 (by omega) (h 0 (by decide)) rfl, jP_row (h 0 (by decide)) rfl, jArr_row (by omega) (by omega) (h 1 (by decide)) rfl rfl, jP_row (h 0 (by decide)) rfl,
    gSums_of (M := M) (R := R) (by omega) (by omega) (fun i hi => by
      have := h (2 + i) (by omega)
      rw [show b + 2 + i = b + (2 + i) by omega, this, dTable, if_neg (by omega), if_neg (by omega), show 2 + i - 2 = i by omega])⟩
theorem gShelf_of (h1 : jlo ω ≤ b) (h2 : b + 11 ≤ jlo ω + jn γ) (h : ∀ i, i < 11 → row γ M R (b + i) = dShelf b i) : gShelf ω γ b :=
  ⟨jAt_row h1 (by omega) (h 0 (by decide)) rfl, jP_row (h 0 (by decide)) rfl, jArr_row (by omega) (by omega) (h 1 (by decide)) rfl rfl, jP_row (h 0 (by decide)) rfl, jAt_row (by omega) (by omega) (h 2 (by decide)) rfl,
    fun j hj => jAt_row (M := M) (R := R) (r := dPlan) (by omega) (by omega) (by
      have e := h (3 + j) (by omega)
      rw [dShelf, if_neg (by omega), if_neg (by omega)] at e
      rw [show b + 3 + j = b + (3 + j) by omega]
      exact e) rfl⟩
theorem gState_of (h1 : jlo ω ≤ b) (h2 : b + 43 ≤ jlo ω + jn γ) (h : ∀ i, i < 43 → row γ M R (b + i) = dState b i) : gState ω γ b := by
  have h0 := h 0 (by decide)
  have sub : ∀ (d k s : Nat) (D : Nat → jRow), k = b + d → d + s ≤ 43 → (∀ i, i < s → dState b (d + i) = D i) → ∀ i, i < s → row γ M R (k + i) = D i := fun d k s D hk hs hD i hi => by
    rw [hk, show b + d + i = b + (d + i) by omega, h (d + i) (by omega), hD i hi]
  refine ⟨jAt_row h1 (by omega) h0 rfl, jP_row h0 rfl, gTable_of (M := M) (R := R) (by omega) (by omega) (sub 1 (b + 1) 4 _ rfl (by decide) (fun i hi => ?_)), jP_row h0 rfl, gSums_of (M := M) (R := R) (by omega) (by omega) (sub 5 (b + 5) 2 _ rfl (by decide) (fun i hi => ?_)), jP_row h0 rfl,
    jArr_row (by omega) (by omega) (h 7 (by decide)) rfl rfl, jP_row h0 rfl, gStm_of (M := M) (R := R) (by omega) (by omega) (sub 8 (b + 8) 3 _ rfl (by decide) (fun i hi => ?_)), jP_row h0 rfl, gShelf_of (M := M) (R := R) (by omega) (by omega) (sub 11 (b + 11) 11 _ rfl (by decide) (fun i hi => ?_)),
    jP_row h0 rfl, gLast_of (M := M) (R := R) (by omega) (by omega) (sub 22 (b + 22) 2 _ rfl (by decide) (fun i hi => ?_)), jP_row h0 rfl, jArr_row (by omega) (by omega) (h 24 (by decide)) rfl rfl,
    fun t ht => gStm_of (M := M) (R := R) (by omega) (by omega) (sub (25 + 3 * t) (b + 25 + 3 * t) 3 _ (by omega) (by omega) (fun i hi => ?_))⟩
  · rw [dState, if_neg (by omega), if_pos (by omega), show 1 + i - 1 = i by omega]
  · rw [dState, if_neg (by omega), if_neg (by omega), if_pos (by omega), show 5 + i - 5 = i by omega]
  · rw [dState, if_neg (by omega), if_neg (by omega), if_neg (by omega), if_neg (by omega), if_pos (by omega), show 8 + i - 8 = i by omega]
  · rw [dState, if_neg (by omega), if_neg (by omega), if_neg (by omega), if_neg (by omega), if_neg (by omega), if_pos (by omega), show 11 + i - 11 = i by omega]
  · rw [dState, if_neg (by omega), if_neg (by omega), if_neg (by omega), if_neg (by omega), if_neg (by omega), if_neg (by omega), if_pos (by omega), show 22 + i - 22 = i by omega]
  · rw [dState, if_neg (by omega), if_neg (by omega), if_neg (by omega), if_neg (by omega), if_neg (by omega), if_neg (by omega), if_neg (by omega), if_neg (by omega), show 25 + 3 * t + i - 25 = 3 * t + i by omega, show (3 * t + i) / 3 = t by omega, show (3 * t + i) % 3 = i by omega]
theorem gHist_of (h1 : jlo ω ≤ b) (h2 : b + 174 ≤ jlo ω + jn γ) (h : ∀ i, i < 174 → row γ M R (b + i) = dHist b i) : gHist ω γ b :=
  ⟨jAt_row h1 (by omega) (h 0 (by decide)) rfl, jP_row (h 0 (by decide)) rfl, jArr_row (by omega) (by omega) (h 1 (by decide)) rfl rfl,
    fun k hk => gState_of (M := M) (R := R) (by omega) (by omega) (fun i hi => by
      rw [show b + 2 + 43 * k + i = b + (2 + 43 * k + i) by omega, h (2 + 43 * k + i) (by omega), dHist, if_neg (by omega), if_neg (by omega), show 2 + 43 * k + i - 2 = 43 * k + i by omega, show (43 * k + i) / 43 = k by omega, show (43 * k + i) % 43 = i by omega])⟩
theorem gX_of (h1 : jlo ω ≤ b) (h2 : b + 221 ≤ jlo ω + jn γ) (h : ∀ i, i < 221 → row γ M R (b + i) = dFace b i) : gX ω γ b (b + 1) (b + 44) (b + 218) (b + 220) := by
  have h0 := h 0 (by decide)
  refine ⟨jAt_row h1 (by omega) h0 rfl, jP_row h0 rfl, gState_of (M := M) (R := R) (by omega) (by omega) (fun i hi => ?_), jP_row h0 rfl, gHist_of (M := M) (R := R) (by omega) (by omega) (fun i hi => ?_), jP_row h0 rfl, gText_of (M := M) (R := R) (by omega) (by omega) (fun i hi => ?_), jP_row h0 rfl,
    jArr_row (by omega) (by omega) (h 220 (by decide)) rfl rfl, by omega, by omega, by omega, by omega⟩
  · rw [show b + 1 + i = b + (1 + i) by omega, h (1 + i) (by omega), dFace, if_neg (by omega), if_pos (by omega), show 1 + i - 1 = i by omega]
  · rw [show b + 44 + i = b + (44 + i) by omega, h (44 + i) (by omega), dFace, if_neg (by omega), if_neg (by omega), if_pos (by omega), show 44 + i - 44 = i by omega]
  · rw [show b + 218 + i = b + (218 + i) by omega, h (218 + i) (by omega), dFace, if_neg (by omega), if_neg (by omega), if_neg (by omega), if_pos (by omega), show 218 + i - 218 = i by omega]
theorem gM_of (h1 : jlo ω ≤ b) (h2 : b + 5 ≤ jlo ω + jn γ) (h : ∀ i, i < 5 → row γ M R (b + i) = dMod b i) : gM ω γ b := by
  have h0 := h 0 (by decide)
  exact ⟨jAt_row h1 (by omega) h0 rfl, jP_row h0 rfl, jArr_row (by omega) (by omega) (h 1 (by decide)) rfl rfl, jP_row h0 rfl, jArr_row (by omega) (by omega) (h 2 (by decide)) rfl rfl, jP_row h0 rfl, jArr_row (by omega) (by omega) (h 3 (by decide)) rfl rfl, jP_row h0 rfl, jArr_row (by omega) (by omega) (h 4 (by decide)) rfl rfl⟩
theorem rowM {a : Nat} {r : jRow} (h : row γ M R a = r) (j : Nat) : M a j = r.2.2.2.1 j := by rw [← h]; rfl
theorem rowR {a : Nat} {r : jRow} (h : row γ M R a = r) (j : Nat) : R a j = r.2.2.2.2 j := by rw [← h]; rfl
theorem SR_of (h : ∀ i, i < 11 → row γ M R (b + i) = dShelf b i) : SR R b ∧ ∀ i, i < 8 → isB (M (pa R b i) 7) := by
  have e : ∀ k, k < 8 → R (b + 1) k = some (b + 3 + k) := fun k hk => by
    rw [rowR (h 1 (by decide)) k]
    show (if k < 8 then some (b + 3 + 1 * k) else none) = _
    rw [if_pos hk, Nat.one_mul]
  refine ⟨⟨fun k hk => ⟨k, hk, e k hk⟩, fun i j hi hj q => ?_⟩, fun i hi => ?_⟩
  · rw [e i hi, e j hj] at q
    have := Option.some.inj q
    omega
  · have e2 : pa R b i = b + (3 + i) := by rw [pa, e i hi]; show b + 3 + i = _; omega
    have e3 := h (3 + i) (by omega)
    rw [dShelf, if_neg (by omega), if_neg (by omega)] at e3
    rw [e2, rowM e3 7]
    exact Or.inl rfl
theorem SA_of (h : ∀ i, i < 43 → row γ M R (b + i) = dState b i) : SA M R b := by
  have hsh : ∀ i, i < 11 → row γ M R (b + 11 + i) = dShelf (b + 11) i := fun i hi => by
    rw [show b + 11 + i = b + (11 + i) by omega, h (11 + i) (by omega), dState, if_neg (by omega), if_neg (by omega), if_neg (by omega), if_neg (by omega), if_neg (by omega), if_pos (by omega), show 11 + i - 11 = i by omega]
  refine ⟨fun j hj => ?_, (SR_of hsh).1, (SR_of hsh).2, ?_, ?_⟩
  · rw [rowR (h 7 (by decide)) j]
    show (if j < 6 then some (b + 25 + 3 * j) else none) = _
    rw [if_pos hj]
  · rw [rowM (h 22 (by decide)) 1]
    exact Or.inl rfl
  · rw [rowM (h 22 (by decide)) 9]
    exact Or.inl rfl
theorem CB_of (h : ∀ i, i < 221 → row γ M R (b + i) = dFace b i) : CB M R (b + 1) (b + 44) (b + 218) 0 0 0 0 0 := by
  have hs : ∀ i, i < 43 → row γ M R (b + 1 + i) = dState (b + 1) i := fun i hi => by
    rw [show b + 1 + i = b + (1 + i) by omega, h (1 + i) (by omega), dFace, if_neg (by omega), if_pos (by omega), show 1 + i - 1 = i by omega]
  have hh : ∀ i, i < 174 → row γ M R (b + 44 + i) = dHist (b + 44) i := fun i hi => by
    rw [show b + 44 + i = b + (44 + i) by omega, h (44 + i) (by omega), dFace, if_neg (by omega), if_neg (by omega), if_pos (by omega), show 44 + i - 44 = i by omega]
  have e : ∀ k, k < 4 → R (b + 44 + 1) k = some (b + 44 + 2 + 43 * k) := fun k hk => by
    rw [rowR (hh 1 (by decide)) k]
    show (if k < 4 then some (b + 44 + 2 + 43 * k) else none) = _
    rw [if_pos hk]
  refine ⟨⟨⟨fun k hk => ⟨k, hk, e k hk⟩, fun i j hi hj q => ?_⟩, rowM (hh 0 (by decide)) 1, by decide, SA_of hs, fun k hk => ?_⟩, rowM (hs 11 (by decide)) 2, by decide, rowM (hs 0 (by decide)) 8, by decide, rowM (hs 1 (by decide)) 2, by decide, fun j hj => ⟨0, by decide, ?_⟩, ?_, by decide, fun t ht => absurd ht (Nat.not_lt_zero t), fun q => absurd (rowM (hs 22 (by decide)) 1) q⟩
  · rw [e i hi, e j hj] at q
    have := Option.some.inj q
    omega
  · have e2 : sa R (b + 44) k = b + 44 + 2 + 43 * k := by rw [sa, e k hk]; rfl
    rw [e2]
    exact SA_of (γ := γ) (fun i hi => by
      rw [show b + 44 + 2 + 43 * k + i = b + 44 + (2 + 43 * k + i) by omega, hh (2 + 43 * k + i) (by omega), dHist, if_neg (by omega), if_neg (by omega), show 2 + 43 * k + i - 2 = 43 * k + i by omega, show (43 * k + i) / 43 = k by omega, show (43 * k + i) % 43 = i by omega])
  · exact rowM (h 219 (by decide)) j
  · exact rowM (h 218 (by decide)) 1
end GE
