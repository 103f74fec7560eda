def zfBestC (S V : Nat → Int32) (r : Nat) : Int32 := if 0 ≤ S 16 then (if zTks S V (S 16) = 0 then -4 else zC1 S V (S 16).toNatClampNeg r (zBest S (zC1 S V (S 16).toNatClampNeg r) (S 16).toNatClampNeg (zN S (S 16).toNatClampNeg) (zN S (S 16).toNatClampNeg))) else -4
def zmBestC (M : jM) (m : Nat) : jM := if 0 ≤ M (m + 1) 16 then mTk M m (M (m + 1) 17) (M (m + 1) 18) (M (m + 1) 19) (M (m + 1) 20) else M
def zZr (M : jM) (m j : Nat) : jM := fun b i => if b = m + 1 ∧ 179 ≤ i ∧ i < 179 + j then 0 else M b i
theorem zZr_0 (M : jM) (m : Nat) : zZr M m 0 = M := by
  funext b i
  simp only [zZr]
  rw [if_neg (by omega)]
theorem zZr_s (M : jM) (m k : Nat) : jup (zZr M m k) (m + 1) (179 + k) (nI 0) = zZr M m (k + 1) := by
  funext b i
  simp only [jup, zZr]
  by_cases h : b = m + 1 ∧ i = 179 + k
  · rw [if_pos h, if_pos (by omega)]
    rfl
  · rw [if_neg h]
    by_cases h2 : b = m + 1 ∧ 179 ≤ i ∧ i < 179 + k
    · rw [if_pos h2, if_pos (by omega)]
    · rw [if_neg h2, if_neg (by omega)]
theorem zZr_a (M : jM) {m k j : Nat} (h : j < 179) : zZr M m k (m + 1) j = M (m + 1) j := by
  simp only [zZr]
  rw [if_neg (by omega)]
def zV (S : Nat → Int32) (r c : Nat) : Nat := (S (29 + 5 * r + c)).toNatClampNeg
def zAi (S : Nat → Int32) (N : jM) (m r : Nat) : Nat → jM
  | 0 => N
  | c + 1 => jup (zAi S N m r c) (m + 1) (179 + 32 * c + zV S r c) (zAi S N m r c (m + 1) (179 + 32 * c + zV S r c) + S (29 + 5 * r + 4))
def zAo (S : Nat → Int32) (N : jM) (m : Nat) : Nat → jM
  | 0 => N
  | r + 1 => zAi S (zAo S N m r) m r 4
theorem zAi_a (S : Nat → Int32) (N : jM) {m r j : Nat} (c : Nat) (h : j < 179) : zAi S N m r c (m + 1) j = N (m + 1) j := by
  induction c with
  | zero => rfl
  | succ c ih =>
    simp only [zAi]
    rw [jup_nk _ _ (by omega), ih]
theorem zAo_a (S : Nat → Int32) (N : jM) {m j : Nat} (r : Nat) (h : j < 179) : zAo S N m r (m + 1) j = N (m + 1) j := by
  induction r with
  | zero => rfl
  | succ r ih => simp only [zAo]; rw [zAi_a _ _ _ h, ih]
def zRows (S : Nat → Int32) (r : Nat) : Prop := ∀ k, k < r → ∀ c, c < 4 → S (29 + 5 * k + c) = nI (zV S k c) ∧ zV S k c < 32
theorem sI_congr {f g : Nat → Int32} {n : Nat} (h : ∀ k, k < n → f k = g k) : sI f n = sI g n := by
  induction n with
  | zero => rfl
  | succ n ih => simp only [sI]; rw [ih (fun k hk => h k (by omega)), h n (by omega)]
def zmAna (M : jM) (m np r : Nat) : jM := jup (zAo (M (m + 1)) (zZr (mChg M m np) m 128) m r) (m + 1) 2 (sI (zRowW (M (m + 1))) r)
def mTl (M : jM) (m : Nat) (o n w e c h : Int32) : jM := jup (jup (jup (jup (jup (jup M (m + 1) 21 o) (m + 1) 22 n) (m + 1) 23 w) (m + 1) 24 e) (m + 1) 25 c) (m + 1) 26 h
/-- a new plan's words at place n -/
def mKp (M : jM) (m n : Nat) (t o w e : Int32) : jM := jup (jup (jup (jup (jup (jup (jup (jup (jup (jup (jup M (m + 1) (367 + 9 * n + 0) (M (m + 1) 5)) (m + 1) (367 + 9 * n + 1) t) (m + 1) (367 + 9 * n + 2) o) (m + 1) (367 + 9 * n + 3) w) (m + 1) (367 + 9 * n + 4) e) (m + 1) (367 + 9 * n + 5) (nI 0)) (m + 1) (367 + 9 * n + 6) (nI 0)) (m + 1) (367 + 9 * n + 7) (nI 0)) (m + 1) (367 + 9 * n + 8) (nI 0)) (m + 1) 5 (M (m + 1) 5 + nI 1)) (m + 1) 4 (nI (n + 1))
def zfKp (S : Nat → Int32) (n : Nat) : Int32 := if nI n < S 15 then nI n else -4
def zmKp (M : jM) (m n : Nat) (t o w e : Int32) : jM := if nI n < M (m + 1) 15 then mKp M m n t o w e else M
/-- room is made -/
def zCl (cap : Int32) (m : Nat) : Nat → jM → Int32 → jM × Int32 × Nat
  | 0, N, f => (N, f, 0)
  | n + 1, N, f => if cap ≤ nI (n + 1) then (if 0 ≤ zLast (zDrp (N (m + 1)) (n + 1) (nI 0)) (n + 1) then
      zCl cap m n (jup (mOut N m (n + 1) (zLast (zDrp (N (m + 1)) (n + 1) (nI 0)) (n + 1)).toNatClampNeg) (m + 1) 8 (mOut N m (n + 1) (zLast (zDrp (N (m + 1)) (n + 1) (nI 0)) (n + 1)).toNatClampNeg (m + 1) 8 + nI 1)) (if 0 ≤ f then f else N (m + 1) (367 + 9 * (zLast (zDrp (N (m + 1)) (n + 1) (nI 0)) (n + 1)).toNatClampNeg + 0))
    else (N, f, n + 1)) else (N, f, n + 1)
theorem mOut_n (M : jM) (m n p : Nat) : mOut M m n p (m + 1) 4 = nI (n - 1) := zTo_c _ _ _ _ _ _ _
theorem mOut_l (M : jM) {m n p j : Nat} (h : j < 367) (h4 : j ≠ 4) : mOut M m n p (m + 1) j = M (m + 1) j := by
  simp only [mOut, zTo]
  rw [if_pos trivial, if_neg h4, if_neg (by omega)]
theorem mOut_o (M : jM) {m n p b : Nat} (h : b ≠ m + 1) : mOut M m n p b = M b := zTo_o M h
