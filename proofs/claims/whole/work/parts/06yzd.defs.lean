/-- numbers of base three, the least first -/
def q3 (f : Nat → Int32) : Nat → Int32
  | 0 => nI 0
  | k + 1 => q3 f k + rWorth k * f k
theorem q3_peel (k : Nat) : ∀ f : Nat → Int32, q3 f (k + 1) = f 0 + nI 3 * q3 (fun i => f (i + 1)) k := by
  induction k with
  | zero =>
    intro f
    show nI 0 + nI 1 * f 0 = f 0 + nI 3 * nI 0
    rw [show nI 0 = (0 : Int32) from rfl, show nI 1 = (1 : Int32) from rfl, Int32.zero_add, Int32.one_mul, Int32.mul_zero, Int32.add_zero]
  | succ k ih =>
    intro f
    show q3 f (k + 1) + rWorth k * nI 3 * f (k + 1) = f 0 + nI 3 * (q3 (fun i => f (i + 1)) k + rWorth k * f (k + 1))
    rw [ih, Int32.mul_add, Int32.add_assoc, Int32.mul_comm (rWorth k) (nI 3), Int32.mul_assoc]
theorem q3_congr {f g : Nat → Int32} {n : Nat} (h : ∀ k, k < n → f k = g k) : q3 f n = q3 g n := by
  induction n with
  | zero => rfl
  | succ n ih => simp only [q3]; rw [ih (fun k hk => h k (by omega)), h n (by omega)]
theorem rCls_q3 (M : jM) (a t v k : Nat) : rCls M a t v k = q3 (fun i => rShare M a (rShr M a t v i)) k := by
  induction k with
  | zero => rfl
  | succ k ih => simp only [rCls, q3]; rw [ih]
theorem zCls_q3 (S V : Nat → Int32) (t n j : Nat) (hj : j ≤ n) : zCls S V t n j = q3 (fun i => zShare S (zShr S V t (n - j + i))) j := by
  induction j with
  | zero => rfl
  | succ j ih =>
    rw [q3_peel]
    simp only [zCls]
    rw [ih (by omega), Int32.add_comm, show n - (j + 1) + 0 = n - 1 - j by omega]
    congr 2
    refine q3_congr (fun i hi => ?_)
    rw [show n - (j + 1) + (i + 1) = n - j + i by omega]
theorem q_cls {M : jM} {a c t v : Nat} {S V : Nat → Int32} (hK : eKno M a S) (hE : eSet M a S) (hS : eStm M a S c) (ht : t < c) (hV : ∀ k, k < 4 → M v k = V k) : rCls M a (a + 25 + 3 * t) v (zN S t) = zCls S V t (zN S t) (zN S t) := by
  have h4 : zN S t ≤ 4 := (hS.2.2.2 t ht).1.2.2.2.1
  rw [rCls_q3, zCls_q3 _ _ _ _ _ (Nat.le_refl _)]
  refine q3_congr (fun k hk => ?_)
  rw [Nat.sub_self, Nat.zero_add, q_shr hK hS ht hk (hV k (by omega)), q_share hE]
