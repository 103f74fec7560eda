section RDS
variable {M : jM} {R : jR} {a n c : Nat} {S : Nat → Int32} {f : Nat → Nat}
theorem q_planOf (hf : eBij f n) (hw : eWds M R (a + 11) S n f) (hn : n ≤ 8) (hu : ∀ p q, p < n → q < n → S (367 + 9 * p) = S (367 + 9 * q) → p = q) (hb : ∀ q, q < n → isB (S (367 + 9 * q + 7))) (h9 : M a 9 = S 6) (p w : Int32) : fPlanOf M R a n p w = zPlanOf S n p w := by
  unfold fPlanOf fPlc zPlanOf
  rcases sh_plc hf hw hu p with ⟨k, hk, e1, e2, e3⟩ | ⟨e1, e2, e3⟩
  · have hfk := hf.1 k hk
    rw [e1, e2, if_neg (nI_nem1 (by omega)), if_neg (nI_pos (by omega))]
    by_cases c1 : rIn w (nI 0) (nI 7) = 0
    · rw [if_pos c1, if_pos c1]
    · rw [if_neg c1, if_neg c1]
      obtain ⟨j, hj, rfl⟩ := rIn_N (by decide) c1
      rw [rPA_N R _ (by omega), nI_clamp (n := f k) (by omega)]
      match j, hj with
      | 0, _ => exact hw k hk 1 (by decide)
      | 1, _ => exact hw k hk 2 (by decide)
      | 2, _ => exact hw k hk 3 (by decide)
      | 3, _ => exact hw k hk 4 (by decide)
      | 4, _ => exact hw k hk 5 (by decide)
      | 5, _ => exact hw k hk 6 (by decide)
      | 6, _ =>
        show (if M (pa R (a + 11) k) 7 = 0 then nI 0 else nI 1) = S (367 + 9 * f k + 7)
        rw [hw k hk 7 (by decide)]
        rcases hb _ hfk with e | e <;> rw [e] <;> rfl
      | 7, _ =>
        show M a 9 - M (pa R (a + 11) k) 8 = S 6 - S (367 + 9 * f k + 8)
        rw [h9, hw k hk 8 (by decide)]
  · rw [e1, e2, if_pos rfl, if_pos (by decide)]
theorem q_planFor (hf : eBij f n) (hw : eWds M R (a + 11) S n f) (hn : n ≤ 8) (hk : M (a + 11) 2 = nI n) (hu : ∀ p q, p < n → q < n → S (367 + 9 * p + 1) = S (367 + 9 * q + 1) → S (367 + 9 * p + 2) = S (367 + 9 * q + 2) → p = q) (h8 : M a 8 = S 3) (s o : Int32) : fPlanFor M R a n s o = zPlanFor S n s o := by
  unfold fPlanFor zPlanFor
  have e0 : rHasS M a s = zIs (S 3) s := by simp only [rHasS, zIs, h8]
  rw [e0]
  by_cases c1 : zIs (S 3) s = 0
  · rw [if_pos c1, if_pos c1]
  · rw [if_neg c1, if_neg c1]
    by_cases c2 : rIn o (nI 0) (nI 80) = 0
    · rw [if_pos c2, if_pos c2]
    · rw [if_neg c2, if_neg c2]
      rcases sh_for hf hw hu s o with ⟨k, hk2, e1, e2, e3⟩ | ⟨e1, e2, e3⟩
      · have hfk := hf.1 k hk2
        rw [e1, e2, rNum_N hk2 hn hk, if_pos (nI_pos' (by omega)), nI_clamp (by omega)]
        exact hw k hk2 0 (by decide)
      · rw [e1, e2, if_neg (by decide), rNum, if_pos (by decide)]
theorem q_drops (hf : eBij f n) (hw : eWds M R (a + 11) S n f) (hn : n ≤ 8) (hk : M (a + 11) 2 = nI n) (ho : eOrd S n) (x : Int32) : fDrops M R a n x = zDropsN S n x := by
  unfold fDrops zDropsN
  by_cases c1 : 0 ≤ x
  · rw [if_pos c1, if_pos c1]
    rcases sh_drp hf hw hn ho x with ⟨k, hk2, e1, e2, e3⟩ | ⟨e1, e2⟩
    · have hfk := hf.1 k hk2
      rw [e1, e2, rNum_N hk2 hn hk, if_pos (nI_pos' (by omega)), nI_clamp (by omega)]
      exact hw k hk2 0 (by decide)
    · rw [e1, e2, if_neg (by decide), rNum, if_pos (by decide)]
  · rw [if_neg c1, if_neg c1]
theorem rIn_no {w : Int32} {lo hi j : Nat} (h : rIn w (nI lo) (nI hi) = 0) (h1 : lo ≤ j) (h2 : j ≤ hi) (hh : hi < 2 ^ 31) : ¬ w = nI j := by
  rintro rfl
  unfold rIn at h
  rw [if_neg (fun q => absurd ((nI_ltI (by omega) (by omega)).mp q) (by omega)), if_neg (fun q => absurd ((nI_ltI (by omega) (by omega)).mp q) (by omega))] at h
  exact absurd h (by decide)
theorem rIn_sub {w : Int32} {lo hi lo' hi' : Nat} (h : rIn w (nI lo) (nI hi) = 0) (h1 : lo ≤ lo') (h2 : hi' ≤ hi) (hh : hi < 2 ^ 31) (hl : lo' < 2 ^ 31) : rIn w (nI lo') (nI hi') = 0 :=
  Decidable.byContradiction fun q => by
    obtain ⟨k, k1, k2, rfl⟩ := rIn_of q (by omega) hl
    exact rIn_no h (by omega) (by omega) hh rfl
theorem q_count {h T m r : Nat} (e0 : M (a + 1) 2 = M (m + 1) 0) (e1 : M (a + 3) 1 = sI (zRowW (M (m + 1))) r) (e2 : M (a + 5) 1 = M (m + 1) 2) (e3 : M a 7 = M (m + 1) 1) (e4 : M a 8 = M (m + 1) 3) (e5 : M (a + 11) 2 = M (m + 1) 4) (e6 : nI (rCnt (qPin M R (a + 11)) n) = sI (zPinF (M (m + 1))) n) (e7 : M a 9 = M (m + 1) 6) (e8 : M a 10 = M (m + 1) 7) (e9 : M (a + 11) 4 = M (m + 1) 8) (e10 : M a 11 = M (m + 1) 9) (e11 : M (a + 11) 5 = M (m + 1) 10) (e12 : M h 1 = M m 2) (e13 : M T 1 = M m 4) (es : ∀ k, k < 5 → M (a + 24) k = M (m + 1) (11 + k)) (w : Int32) : fCount M R a h T n w = zCount M m r n w := by
  by_cases hw : rIn w (nI 0) (nI 24) = 0
  · have hne : ∀ j, j ≤ 24 → ¬ w = nI j := fun j hj => rIn_no hw (Nat.zero_le _) hj (by decide)
    unfold fCount zCount
    rw [if_neg (hne 0 (by decide)), if_neg (hne 1 (by decide)), if_neg (hne 2 (by decide)), if_neg (hne 3 (by decide)), if_neg (hne 4 (by decide)), if_neg (hne 5 (by decide)), if_neg (hne 6 (by decide)), if_neg (hne 7 (by decide)), if_neg (hne 8 (by decide)), if_neg (hne 9 (by decide)), if_neg (hne 10 (by decide)), if_neg (hne 11 (by decide)), if_neg (hne 12 (by decide)), if_neg (hne 13 (by decide)), if_neg (hne 14 (by decide)), if_neg (hne 15 (by decide)), if_neg (hne 16 (by decide)), if_neg (hne 17 (by decide)), if_neg (hne 18 (by decide)), if_neg (hne 19 (by decide)), if_neg (hne 20 (by decide)), if_neg (hne 21 (by decide)), if_neg (hne 22 (by decide)), if_neg (hne 23 (by decide)), if_neg (hne 24 (by decide))]
    rw [if_neg (hne 0 (by decide)), if_neg (hne 1 (by decide)), if_neg (hne 2 (by decide)), if_neg (hne 3 (by decide)), if_neg (hne 4 (by decide)), if_neg (hne 5 (by decide)), if_neg (hne 6 (by decide)), if_neg (hne 7 (by decide)), if_neg (hne 8 (by decide)), if_neg (hne 9 (by decide)), if_neg (hne 10 (by decide)), if_neg (hne 11 (by decide)), if_neg (hne 12 (by decide)), if_neg (hne 13 (by decide)), if_pos (rIn_sub hw (by decide) (by decide) (by decide) (by decide))]
  · obtain ⟨j, hj, rfl⟩ := rIn_N (by decide) hw
    match j, hj with
    | 0, _ => exact e0
    | 1, _ => exact e1
    | 2, _ => exact e2
    | 3, _ => exact e3
    | 4, _ => exact e4
    | 5, _ => exact e5
    | 6, _ => exact e6
    | 7, _ => exact e7
    | 8, _ => exact e8
    | 9, _ => exact e9
    | 10, _ => exact e10
    | 11, _ => exact e11
    | 12, _ => exact e12
    | 13, _ => exact e13
    | 14, _ => rfl
    | 15, _ => rfl
    | 16, _ => rfl
    | 17, _ => rfl
    | 18, _ => rfl
    | 19, _ => rfl
    | 20, _ => exact es 0 (by decide)
    | 21, _ => exact es 1 (by decide)
    | 22, _ => exact es 2 (by decide)
    | 23, _ => exact es 3 (by decide)
    | 24, _ => exact es 4 (by decide)
    | j + 25, hj => exact absurd hj (by omega)
theorem st_k1 {t k : Nat} (hS : eStm M a S c) (ht : t < c) (hk : k < 4) : (if rHasC M (a + 25 + 3 * t) (nI k) = 0 then -4 else rCol M (a + 25 + 3 * t) (nI k)) = (if nI k < S (307 + 10 * t) then S (307 + 10 * t + 1 + k) else -4) := by
  obtain ⟨-, -, hc6, hs⟩ := hS
  obtain ⟨⟨ht6, hz, -, h4, -⟩, -, hq, -, hw⟩ := hs t ht
  unfold rHasC
  rw [hq, hz, if_neg (nI_pos (by omega))]
  by_cases h : k < zN S t
  · rw [if_neg (nI_ge h (by omega)), if_neg (show ¬ nI 1 = 0 by decide), if_pos ((nI_ltI (by omega) (by omega)).mpr h), rCol, rAt_N _ (by omega) (by decide), (hw k h).1]
  · rw [if_pos (show nI (zN S t) ≤ nI k from (nI_leI (by omega) (by omega)).mpr (by omega)), if_pos (show nI 0 = 0 from nI_0), if_neg (fun q => h ((nI_ltI (by omega) (by omega)).mp q))]
theorem st_k2 {t k : Nat} (hS : eStm M a S c) (ht : t < c) (hk : k < 4) : (if rHasC M (a + 25 + 3 * t) (nI k) = 0 then -4 else rOp M (a + 25 + 3 * t) (nI k)) = (if nI k < S (307 + 10 * t) then S (307 + 10 * t + 5 + k) else -4) := by
  obtain ⟨-, -, hc6, hs⟩ := hS
  obtain ⟨⟨ht6, hz, -, h4, -⟩, -, hq, -, hw⟩ := hs t ht
  unfold rHasC
  rw [hq, hz, if_neg (nI_pos (by omega))]
  by_cases h : k < zN S t
  · rw [if_neg (nI_ge h (by omega)), if_neg (show ¬ nI 1 = 0 by decide), if_pos ((nI_ltI (by omega) (by omega)).mpr h), rOp, rAt_N _ (by omega) (by decide), (hw k h).2]
  · rw [if_pos (show nI (zN S t) ≤ nI k from (nI_leI (by omega) (by omega)).mpr (by omega)), if_pos (show nI 0 = 0 from nI_0), if_neg (fun q => h ((nI_ltI (by omega) (by omega)).mp q))]
theorem q_stOf (hf : eBij f n) (hw : eWds M R (a + 11) S n f) (hS : eStm M a S c) (s w : Int32) : fStOf M R a n s w = zStOf S n s w := by
  have e0 : rHasS M a s = zIs (S 3) s := by simp only [rHasS, zIs, hS.1, hS.2.1]
  by_cases c1 : zIs (S 3) s = 0
  · rw [fStOf, zStOf, e0, if_pos c1, if_pos c1]
  · obtain ⟨t, ht, rfl⟩ := zIs_N hS.2.1 (by have := hS.2.2.1; omega) c1
    have ht6 : t < 6 := by have := hS.2.2.1; omega
    have hst := hS.2.2.2 t ht
    by_cases hw1 : rIn w (nI 0) (nI 29) = 0
    · have hne : ∀ j, j ≤ 23 → ¬ w = nI j := fun j hj => rIn_no hw1 (Nat.zero_le _) (by omega) (by decide)
      rw [fStOf, zStOf, e0, if_neg c1, if_neg c1, if_pos (rIn_sub hw1 (by decide) (by decide) (by decide) (by decide) : rIn w (nI 0) (nI 2) = 0), if_pos (rIn_sub hw1 (by decide) (by decide) (by decide) (by decide) : rIn w (nI 10) (nI 29) = 0)]
      rw [if_neg (hne 0 (by decide)), if_neg (hne 1 (by decide)), if_neg (hne 2 (by decide)), if_neg (hne 3 (by decide)), if_neg (hne 4 (by decide)), if_neg (hne 5 (by decide)), if_neg (hne 6 (by decide)), if_neg (hne 7 (by decide)), if_neg (hne 8 (by decide)), if_neg (hne 9 (by decide)), if_neg (hne 10 (by decide)), if_neg (hne 11 (by decide)), if_neg (hne 12 (by decide)), if_neg (hne 13 (by decide)), if_neg (hne 14 (by decide)), if_neg (hne 15 (by decide)), if_neg (hne 16 (by decide)), if_neg (hne 17 (by decide)), if_neg (hne 18 (by decide)), if_neg (hne 19 (by decide)), if_neg (hne 20 (by decide)), if_neg (hne 21 (by decide)), if_neg (hne 22 (by decide)), if_neg (hne 23 (by decide))]
    · obtain ⟨j, hj, rfl⟩ := rIn_N (by decide) hw1
      rw [fStOf, zStOf, e0, if_neg c1, if_neg c1, rSA_N a ht6, nI_clamp (n := t) (by omega)]
      match j, hj with
      | 0, _ => exact hst.2.2.1
      | 1, _ => exact sh_of hf hw (nI t)
      | 2, _ => exact hst.2.2.2.1
      | 3, _ => rfl
      | 4, _ => rfl
      | 5, _ => rfl
      | 6, _ => rfl
      | 7, _ => rfl
      | 8, _ => rfl
      | 9, _ => rfl
      | 10, _ => exact st_k1 (k := 0) hS ht (by decide)
      | 11, _ => exact st_k1 (k := 1) hS ht (by decide)
      | 12, _ => exact st_k1 (k := 2) hS ht (by decide)
      | 13, _ => exact st_k1 (k := 3) hS ht (by decide)
      | 14, _ => rfl
      | 15, _ => rfl
      | 16, _ => rfl
      | 17, _ => rfl
      | 18, _ => rfl
      | 19, _ => rfl
      | 20, _ => exact st_k2 (k := 0) hS ht (by decide)
      | 21, _ => exact st_k2 (k := 1) hS ht (by decide)
      | 22, _ => exact st_k2 (k := 2) hS ht (by decide)
      | 23, _ => exact st_k2 (k := 3) hS ht (by decide)
      | 24, _ => rfl
      | 25, _ => rfl
      | 26, _ => rfl
      | 27, _ => rfl
      | 28, _ => rfl
      | 29, _ => rfl
      | j + 30, hj => exact absurd hj (by omega)
end RDS
