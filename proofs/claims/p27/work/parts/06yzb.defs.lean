theorem q_hold {S V : Nat → Int32} {t k o : Nat} (ho : o < 3) (e : S (307 + 10 * t + 5 + k) = nI o) (x : Int32) : zHold S V t k x = rHolds x (nI o) (V k) := by
  unfold zHold rHolds
  rw [e]
  match o, ho with
  | 0, _ => rfl
  | 1, _ => rfl
  | 2, _ => rfl
theorem q_w0 {M : jM} {a c t k v : Nat} {S V : Nat → Int32} (hK : eKno M a S) (hS : eStm M a S c) (ht : t < c) (hk : k < zN S t) (hV : M v k = V k) :
    rWhere M (a + 5) (rCol M (a + 25 + 3 * t) (nI k)) (rOp M (a + 25 + 3 * t) (nI k)) (rAt (M v) 4 (nI k)) = sI (zW0 S V t k) 32 := by
  obtain ⟨-, -, hc6, hs⟩ := hS
  obtain ⟨⟨ht6, -, -, h4, hcol⟩, hop, -, -, hw⟩ := hs t ht
  obtain ⟨o, ho, eo⟩ := hop k hk
  obtain ⟨e1, e2⟩ := hw k hk
  obtain ⟨c1, c2⟩ := hcol k hk
  have r1 : rCol M (a + 25 + 3 * t) (nI k) = nI (zCol S t k) := by rw [rCol, rAt_N _ (by omega) (by decide), e1, c1]
  have r2 : rOp M (a + 25 + 3 * t) (nI k) = nI o := by rw [rOp, rAt_N _ (by omega) (by decide), e2, eo]
  have r3 : rAt (M v) 4 (nI k) = V k := by rw [rAt_N _ (by omega) (by decide), hV]
  rw [r1, r2, r3, rWhere]
  refine sI_congr (fun x hx => ?_)
  simp only [rWhF, zW0]
  rw [q_hold ho eo]
  by_cases h : rHolds (nI x) (nI o) (V k) = 0
  · rw [if_pos h, if_pos h]
    rfl
  · rw [if_neg h, if_neg h, pk_mul, nI_add, rAt_N _ (by omega) (by decide), hK.1 _ (by omega), Nat.mul_comm _ 32, Nat.add_assoc]
theorem q_w1 {M : jM} {a c t k v r : Nat} {S V : Nat → Int32} (hT : eTab M a S r) (hU : eSum M a S r) (hS : eStm M a S c) (ht : t < c) (hk : k < zN S t) (hV : M v k = V k) :
    rWhere M (a + 3) (rCol M (a + 25 + 3 * t) (nI k)) (rOp M (a + 25 + 3 * t) (nI k)) (rAt (M v) 4 (nI k)) = sI (zW1 S V t k) r := by
  obtain ⟨-, -, hc6, hs⟩ := hS
  obtain ⟨⟨ht6, -, -, h4, hcol⟩, hop, -, -, hw⟩ := hs t ht
  obtain ⟨o, ho, eo⟩ := hop k hk
  obtain ⟨e1, e2⟩ := hw k hk
  obtain ⟨c1, c2⟩ := hcol k hk
  obtain ⟨-, -, hr30, -, hv, -⟩ := hT
  have r1 : rCol M (a + 25 + 3 * t) (nI k) = nI (zCol S t k) := by rw [rCol, rAt_N _ (by omega) (by decide), e1, c1]
  have r2 : rOp M (a + 25 + 3 * t) (nI k) = nI o := by rw [rOp, rAt_N _ (by omega) (by decide), e2, eo]
  have r3 : rAt (M v) 4 (nI k) = V k := by rw [rAt_N _ (by omega) (by decide), hV]
  rw [r1, r2, r3, rWhere]
  have hsw := sI_swap (fun x => ¬ rHolds (nI x) (nI o) (V k) = 0) (fun q => zV S q (zCol S t k)) (fun q => S (29 + 5 * q + 4)) 32 r (fun q hq => (hv q hq _ c2).2)
  refine Eq.trans (sI_congr (fun x hx => ?_)) (hsw.trans (sI_congr (fun q hq => ?_)))
  · simp only [rWhF]
    by_cases h : rHolds (nI x) (nI o) (V k) = 0
    · rw [if_pos h, if_neg (fun q => q h)]
    · rw [if_neg h, if_pos h, pk_mul, nI_add, rAt_N _ (by omega) (by decide), Nat.mul_comm _ 32, hU.1 _ c2 x hx]
      refine sI_congr (fun q hq => ?_)
      simp only [eOne]
      rw [(hv q hq _ c2).1]
      by_cases h2 : zV S q (zCol S t k) = x
      · rw [if_pos h2, if_pos (by rw [h2])]
      · rw [if_neg h2, if_neg (fun e => h2 (nI_inj e (by have := (hv q hq _ c2).2; omega) (by omega)))]
        rfl
  · simp only [zW1]
    rw [q_hold ho eo, (hv q hq _ c2).1]
    by_cases h : rHolds (nI (zV S q (zCol S t k))) (nI o) (V k) = 0
    · rw [if_neg (fun q => q h), if_pos h]
      rfl
    · rw [if_pos h, if_neg h]
