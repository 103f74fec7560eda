theorem q_c0 {M : jM} {a c t v w : Nat} {S V : Nat → Int32} (hK : eKno M a S) (hS : eStm M a S c) (ht : t < c) (hw : w = 9 ∨ w < zN S t) (hV : ∀ k, k < 4 → M v k = V k) : rCost M (a + 5) (a + 25 + 3 * t) v (nI w) = zC0 S V t w := by
  unfold rCost zC0
  by_cases h : nI w = nI 9
  · rw [if_pos h, if_pos h, hK.2]
  · rw [if_neg h, if_neg h]
    have hk : w < zN S t := hw.elim (fun q => absurd (by rw [q]) h) id
    have h4 : zN S t ≤ 4 := (hS.2.2.2 t ht).1.2.2.2.1
    rw [q_w0 hK hS ht hk (hV w (by omega))]
theorem q_c1 {M : jM} {a c t v w r : Nat} {S V : Nat → Int32} (hT : eTab M a S r) (hU : eSum M a S r) (hS : eStm M a S c) (ht : t < c) (hw : w = 9 ∨ w < zN S t) (hV : ∀ k, k < 4 → M v k = V k) : rCost M (a + 3) (a + 25 + 3 * t) v (nI w) = zC1 S V t r w := by
  unfold rCost zC1
  by_cases h : nI w = nI 9
  · rw [if_pos h, if_pos h, hU.2]
  · rw [if_neg h, if_neg h]
    have hk : w < zN S t := hw.elim (fun q => absurd (by rw [q]) h) id
    have h4 : zN S t ≤ 4 := (hS.2.2.2 t ht).1.2.2.2.1
    rw [q_w1 hT hU hS ht hk (hV w (by omega))]
theorem q_shr {M : jM} {a c t v k : Nat} {S V : Nat → Int32} (hK : eKno M a S) (hS : eStm M a S c) (ht : t < c) (hk : k < zN S t) (hV : M v k = V k) : rShr M a (a + 25 + 3 * t) v k = zShr S V t k := by
  unfold rShr zShr
  rw [hK.2, q_w0 hK hS ht hk hV]
theorem q_share {M : jM} {a : Nat} {S : Nat → Int32} (hE : eSet M a S) (x : Int32) : rShare M a x = zShare S x := by
  unfold rShare zShare
  rw [hE.1 0 (by decide), hE.1 1 (by decide)]
