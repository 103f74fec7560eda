theorem q_rowOf {M : jM} {a r : Nat} {S : Nat → Int32} (h : eTab M a S r) (p w : Int32) : fRowOf M a p w = zRowOf S p w := by
  obtain ⟨h1, h2, h3, h4, -, -⟩ := h
  have e1 : rHasR M (a + 1) p = zIs (S 0) p := by simp only [rHasR, zIs, h1, h2]
  unfold fRowOf zRowOf
  rw [e1]
  by_cases c1 : zIs (S 0) p = 0
  · simp only [if_pos c1]
  · by_cases c2 : rIn w (nI 0) (nI 4) = 0
    · simp only [if_neg c1, if_pos c2]
    · obtain ⟨k, hk, rfl⟩ := zIs_N h2 (by omega) c1
      obtain ⟨j, hj, rfl⟩ := rIn_N (by decide) c2
      simp only [if_neg c1, if_neg c2, rCell]
      rw [pk_mul, nI_add, rAt_N _ (by omega) (by decide), nI_clamp (by omega), nI_clamp (by omega), ← h4 k hk j (by omega), Nat.mul_comm k 5]
theorem q_known {M : jM} {a : Nat} {S : Nat → Int32} (h : eKno M a S) (c v : Int32) : fKnown M a c v = zKnown S c v := by
  obtain ⟨h1, -⟩ := h
  unfold fKnown zKnown
  by_cases c1 : rIn c (nI 0) (nI 3) = 0
  · simp only [if_pos c1]
  · by_cases c2 : rIn v (nI 0) (nI 31) = 0
    · simp only [if_neg c1, if_pos c2]
    · obtain ⟨k, hk, rfl⟩ := rIn_N (by decide) c1
      obtain ⟨j, hj, rfl⟩ := rIn_N (by decide) c2
      simp only [if_neg c1, if_neg c2]
      rw [pk_mul, nI_add, rAt_N _ (by omega) (by decide), nI_clamp (by omega), nI_clamp (by omega), h1 _ (by omega), Nat.mul_comm k 32, Nat.add_assoc]
theorem q_type {len : Nat} (hl : len ≤ 30) (x : Int32) : fType len x = zfType len x := by
  unfold fType zfType
  by_cases c1 : rIn x (nI 32) (nI 126) = 0
  · rw [if_pos c1, if_pos c1]
  · rw [if_neg c1, if_neg c1]
    by_cases c2 : len = 30
    · subst c2
      rfl
    · have c3 : nI len < nI 30 := (nI_ltI (by omega) (by decide)).mpr (by omega)
      have c4 : ¬ nI len = nI 30 := fun q => c2 (by have := congrArg Int32.toNatClampNeg q; rwa [nI_clamp (by omega), nI_clamp (by decide)] at this)
      rw [if_pos c3, if_neg c4]
theorem q_latest {M : jM} {a c : Nat} {S : Nat → Int32} (hc : c ≤ 6) (h : eLst M a S c) (hb : isB (M (a + 22) 9)) (w : Int32) : fLatest M a w = zLatest S w := by
  unfold fLatest zLatest
  by_cases c1 : rIn w (nI 0) (nI 7) = 0
  · rw [if_pos c1, if_pos c1]
  · rw [if_neg c1, if_neg c1]
    rcases h with ⟨h1, h2⟩ | ⟨h1, ⟨t, ht, h2, -⟩, -, -, h5⟩
    · rw [rLTell, if_pos h1, h2, if_neg (by decide)]
    · have h6 : (0 : Int32) ≤ S 16 := by rw [h2]; exact Int32.not_lt.mp (nI_pos (by omega))
      have h7 : ¬ M (a + 22) 1 = 0 := by rw [h1]; decide
      rw [if_pos h6, rLTell, if_neg h7]
      obtain ⟨j, hj, rfl⟩ := rIn_N (by decide) c1
      rw [nI_clamp (by omega), ← h5 j (by omega)]
      match j, hj with
      | 0, _ => rfl
      | 1, _ => rfl
      | 2, _ => rfl
      | 3, _ => rfl
      | 4, _ => rfl
      | 5, _ => rfl
      | 6, _ =>
        show (if M (a + 22) 9 = 0 then nI 0 else nI 1) = M (a + 22) 9
        rcases hb with e | e <;> rw [e] <;> rfl
      | 7, _ => rfl
