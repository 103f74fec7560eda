/-- the model -/
def gM (ω : jW) (γ : jG) (m : Nat) : Prop := jAt ω γ m 10 ∧ jP γ m 0 = some (m + 1) ∧ jArr ω γ (m + 1) 12 439 ∧ jP γ m 1 = some (m + 2) ∧ jArr ω γ (m + 2) 12 1756 ∧ jP γ m 3 = some (m + 3) ∧ jArr ω γ (m + 3) 12 30 ∧ jP γ m 7 = some (m + 4) ∧ jArr ω γ (m + 4) 12 4
def zIs (n r : Int32) : Int32 := if r < 0 then nI 0 else if n ≤ r then nI 0 else nI 1
theorem zIs_B (n r : Int32) : isB (zIs n r) := by
  unfold zIs isB
  split
  · exact Or.inl rfl
  · split
    · exact Or.inl rfl
    · exact Or.inr rfl
def zIdx (S : Nat → Int32) (c : Int32) : Int32 := if (S 1 >>> (c &&& 31)) &&& nI 1 = nI 1 then nI 1 else nI 0
theorem zIdx_B (S : Nat → Int32) (c : Int32) : isB (zIdx S c) := by
  unfold zIdx isB
  split
  · exact Or.inr rfl
  · exact Or.inl rfl
/-- the last place of n at which p holds, or -4 -/
def zLast (p : Nat → Bool) : Nat → Int32
  | 0 => -4
  | k + 1 => if p k then nI k else zLast p k
theorem zLast_cases (p : Nat → Bool) (n : Nat) : (∃ k, k < n ∧ p k = true ∧ zLast p n = nI k) ∨ ((∀ k, k < n → p k = false) ∧ zLast p n = -4) := by
  induction n with
  | zero => exact Or.inr ⟨fun k h => absurd h (Nat.not_lt_zero k), rfl⟩
  | succ n ih =>
    by_cases h : p n = true
    · exact Or.inl ⟨n, by omega, h, by simp [zLast, h]⟩
    · rcases ih with ⟨k, h1, h2, h3⟩ | ⟨h1, h2⟩
      · exact Or.inl ⟨k, by omega, h2, by simp [zLast, h, h3]⟩
      · refine Or.inr ⟨fun k hk => ?_, by simp [zLast, h, h2]⟩
        by_cases e : k = n
        · rw [e]; simpa using h
        · exact h1 k (by omega)
def zRowW (S : Nat → Int32) (k : Nat) : Int32 := S (29 + 5 * k + 4)
def zPinF (S : Nat → Int32) (p : Nat) : Int32 := S (367 + 9 * p + 7)
def zOfF (S : Nat → Int32) (t : Int32) (p : Nat) : Int32 := if S (367 + 9 * p + 1) = t then nI 1 else nI 0
def zPlc (S : Nat → Int32) (x : Int32) (p : Nat) : Bool := decide (S (367 + 9 * p + 0) = x)
def zFor (S : Nat → Int32) (t o : Int32) (p : Nat) : Bool := decide (S (367 + 9 * p + 1) = t) && decide (S (367 + 9 * p + 2) = o)
def zAhead (S : Nat → Int32) (p q : Nat) : Int32 := if S (367 + 9 * p + 5) - S (367 + 9 * q + 5) < 0 then nI 1 else if S (367 + 9 * p + 5) - S (367 + 9 * q + 5) = 0 then (if S (367 + 9 * q + 8) ≤ S (367 + 9 * p + 8) then nI 0 else nI 1) else nI 0
theorem zAhead_B (S : Nat → Int32) (p q : Nat) : isB (zAhead S p q) := by
  unfold zAhead isB
  repeat' split
  all_goals first | exact Or.inl rfl | exact Or.inr rfl
def zAhF (S : Nat → Int32) (p k : Nat) : Int32 := if S (367 + 9 * k + 7) = 0 then (if zAhead S k p = 0 then nI 0 else nI 1) else nI 0
def zDrp (S : Nat → Int32) (n : Nat) (x : Int32) (p : Nat) : Bool := decide (S (367 + 9 * p + 7) = 0) && decide (sI (zAhF S p) n = x)
def zHold (S V : Nat → Int32) (t k : Nat) (x : Int32) : Int32 := if S (307 + 10 * t + 5 + k) = 0 then (if x = V k then nI 1 else nI 0) else if S (307 + 10 * t + 5 + k) = nI 1 then (if V k ≤ x then nI 0 else nI 1) else (if x ≤ V k then nI 0 else nI 1)
theorem zHold_B (S V : Nat → Int32) (t k : Nat) (x : Int32) : isB (zHold S V t k x) := by
  unfold zHold isB
  repeat' split
  all_goals first | exact Or.inl rfl | exact Or.inr rfl
def zCol (S : Nat → Int32) (t k : Nat) : Nat := (S (307 + 10 * t + 1 + k)).toNatClampNeg
/-- statement t of the model, with n conditions -/
def zSt (S : Nat → Int32) (t n : Nat) : Prop := t < 6 ∧ S (307 + 10 * t) = nI n ∧ 1 ≤ n ∧ n ≤ 4 ∧ ∀ k, k < n → S (307 + 10 * t + 1 + k) = nI (zCol S t k) ∧ zCol S t k < 4
def zW0 (S V : Nat → Int32) (t k v : Nat) : Int32 := if zHold S V t k (nI v) = 0 then nI 0 else S (179 + 32 * zCol S t k + v)
def zW1 (S V : Nat → Int32) (t k r : Nat) : Int32 := if zHold S V t k (S (29 + 5 * r + zCol S t k)) = 0 then nI 0 else S (29 + 5 * r + 4)
def zC0 (S V : Nat → Int32) (t w : Nat) : Int32 := if nI w = nI 9 then S 2 else nI 10 + sI (zW0 S V t w) 32
def zC1 (S V : Nat → Int32) (t r w : Nat) : Int32 := if nI w = nI 9 then sI (zRowW S) r else nI 10 + sI (zW1 S V t w) r
def zBest (S : Nat → Int32) (C : Nat → Int32) (t n : Nat) : Nat → Nat
  | 0 => 9
  | j + 1 => if zIdx S (S (307 + 10 * t + 1 + (n - 1 - j))) = 0 then zBest S C t n j else if C (zBest S C t n j) < C (n - 1 - j) then zBest S C t n j else n - 1 - j
theorem zBest_rg (S : Nat → Int32) (C : Nat → Int32) (t n j : Nat) (hj : j ≤ n) : zBest S C t n j = 9 ∨ zBest S C t n j < n := by
  induction j with
  | zero => exact Or.inl rfl
  | succ j ih =>
    unfold zBest
    split
    · exact ih (by omega)
    · split
      · exact ih (by omega)
      · exact Or.inr (by omega)
def zShr (S V : Nat → Int32) (t k : Nat) : Int32 := if S 2 = 0 then nI 0 else nI 1000 * sI (zW0 S V t k) 32 / S 2
def zShare (S : Nat → Int32) (x : Int32) : Int32 := if S 11 ≤ x then (if S 12 ≤ x then nI 2 else nI 1) else nI 0
def zCls (S V : Nat → Int32) (t n : Nat) : Nat → Int32
  | 0 => nI 0
  | j + 1 => nI 3 * zCls S V t n j + zShare S (zShr S V t (n - 1 - j))
theorem zd_1 {n j : Nat} (h : j < n) : nI (n - j) - nI 1 = nI (n - 1 - j) := by
  rw [pk_sub (by omega)]
  congr 1
  omega
theorem zd_2 {n j : Nat} (h : j < n) : nI (n - 1 - j) + Int32.ofInt (-1) = nI (n - (j + 1)) - nI 1 := by
  rw [show n - (j + 1) = n - 1 - j by omega, Int32.sub_eq_add_neg]
  rfl
theorem nI9 {w : Nat} (h : nI w = nI 9) (hw : w = 9 ∨ w < 4) : w = 9 := by
  rcases hw with h1 | h1
  · exact h1
  · exact absurd h ((by decide : ∀ w : Fin 4, ¬ nI w.val = nI 9) ⟨w, h1⟩)
def zRowOf (S : Nat → Int32) (p w : Int32) : Int32 := if zIs (S 0) p = 0 then -1 else if rIn w (nI 0) (nI 4) = 0 then -1 else S (29 + 5 * p.toNatClampNeg + w.toNatClampNeg)
def zKnown (S : Nat → Int32) (c v : Int32) : Int32 := if rIn c (nI 0) (nI 3) = 0 then -1 else if rIn v (nI 0) (nI 31) = 0 then -1 else S (179 + 32 * c.toNatClampNeg + v.toNatClampNeg)
theorem rIn_N {x : Int32} {n : Nat} (hn : n < 2 ^ 31) (h : ¬ rIn x (nI 0) (nI n) = 0) : ∃ k, k ≤ n ∧ x = nI k := by
  unfold rIn at h
  split at h
  · exact absurd rfl h
  · rename_i h1
    split at h
    · exact absurd rfl h
    · rename_i h2
      by_cases e : x = nI n
      · exact ⟨n, Nat.le_refl n, e⟩
      · obtain ⟨k, hk, ek⟩ := vp_in_of (in_of (n := n) h1 (fun q => e (Int32.le_antisymm (Int32.not_lt.mp h2) q)) hn) hn
        exact ⟨k, by omega, ek⟩
theorem zIs_N {n : Nat} {x a : Int32} (ha : a = nI n) (hn : n < 2 ^ 31) (h : ¬ zIs a x = 0) : ∃ k, k < n ∧ x = nI k := by
  subst ha
  unfold zIs at h
  split at h
  · exact absurd rfl h
  · rename_i h1
    split at h
    · exact absurd rfl h
    · rename_i h2
      exact vp_in_of (in_of h1 h2 hn) hn
def zRm (w : Int32) : Int32 := w - w / nI 10 * nI 10
def zStOf (S : Nat → Int32) (n : Nat) (s w : Int32) : Int32 := if zIs (S 3) s = 0 then -1 else
  if rIn w (nI 0) (nI 2) = 0 then (if rIn w (nI 10) (nI 29) = 0 then -1 else if zRm w ≤ nI 3 then (if zRm w < S (307 + 10 * s.toNatClampNeg) then (if nI 20 ≤ w then S (307 + 10 * s.toNatClampNeg + 5 + (zRm w).toNatClampNeg) else S (307 + 10 * s.toNatClampNeg + 1 + (zRm w).toNatClampNeg)) else -4) else -1)
  else if w = 0 then S (307 + 10 * s.toNatClampNeg) else if w = nI 1 then sI (zOfF S s) n else S (307 + 10 * s.toNatClampNeg + 9)
theorem rIn_Na {x : Int32} {a n : Nat} (ha : a < 2 ^ 31) (hn : n < 2 ^ 31) (h : ¬ rIn x (nI a) (nI n) = 0) : ∃ k, k ≤ n ∧ x = nI k ∧ a ≤ k := by
  unfold rIn at h
  split at h
  · exact absurd rfl h
  · rename_i h1
    split at h
    · exact absurd rfl h
    · rename_i h2
      have h3 : ¬ x < 0 := fun q => h1 (Int32.lt_of_lt_of_le q (Int32.not_lt.mp (nI_pos ha)))
      by_cases e : x = nI n
      · exact ⟨n, Nat.le_refl n, e, Nat.not_lt.mp fun q => h1 (by rw [e]; exact (nI_ltI hn ha).mpr q)⟩
      · obtain ⟨k, hk, ek⟩ := vp_in_of (in_of (n := n) h3 (fun q => e (Int32.le_antisymm (Int32.not_lt.mp h2) q)) hn) hn
        exact ⟨k, by omega, ek, Nat.not_lt.mp fun q => h1 (by rw [ek]; exact (nI_ltI (by omega) ha).mpr q)⟩
theorem zRem {w : Int32} (h : ¬ rIn w (nI 10) (nI 29) = 0) (h2 : zRm w ≤ nI 3) : ∃ j, j < 4 ∧ zRm w = nI j := by
  obtain ⟨k, hk, rfl, -⟩ := rIn_Na (by decide) (by decide) h
  have key : ∀ k : Fin 30, zRm (nI k.val) ≤ nI 3 → ∃ j : Fin 4, zRm (nI k.val) = nI j.val := by decide
  obtain ⟨j, hj⟩ := key ⟨k, by omega⟩ h2
  exact ⟨j.val, j.isLt, hj⟩
def zLatest (S : Nat → Int32) (w : Int32) : Int32 := if rIn w (nI 0) (nI 7) = 0 then -1 else if 0 ≤ S 16 then S (21 + w.toNatClampNeg) else -4
def zPlanOf (S : Nat → Int32) (n : Nat) (x w : Int32) : Int32 := if zLast (zPlc S x) n < 0 then -1 else if rIn w (nI 0) (nI 7) = 0 then -1 else if nI 7 ≤ w then S 6 - S (367 + 9 * (zLast (zPlc S x) n).toNatClampNeg + 8) else S (367 + 9 * (zLast (zPlc S x) n).toNatClampNeg + (w.toNatClampNeg + 1))
def zPlanFor (S : Nat → Int32) (n : Nat) (s c : Int32) : Int32 := if zIs (S 3) s = 0 then -1 else if rIn c (nI 0) (nI 80) = 0 then -1 else if 0 ≤ zLast (zFor S s c) n then S (367 + 9 * (zLast (zFor S s c) n).toNatClampNeg + 0) else -4
def zDropsN (S : Nat → Int32) (n : Nat) (x : Int32) : Int32 := if 0 ≤ x then (if 0 ≤ zLast (zDrp S n x) n then S (367 + 9 * (zLast (zDrp S n x) n).toNatClampNeg + 0) else -4) else -1
theorem zLast_N {p : Nat → Bool} {n : Nat} (h : ¬ zLast p n < 0) : ∃ k, k < n ∧ p k = true ∧ zLast p n = nI k := by
  rcases zLast_cases p n with ⟨k, h1, h2, h3⟩ | ⟨-, h2⟩
  · exact ⟨k, h1, h2, h3⟩
  · exact absurd (by rw [h2]; decide) h
def zCount (M : jM) (m r n : Nat) (w : Int32) : Int32 := if w = nI 0 then M (m + 1) 0 else if w = nI 1 then sI (zRowW (M (m + 1))) r else if w = nI 2 then M (m + 1) 2 else if w = nI 3 then M (m + 1) 1 else if w = nI 4 then M (m + 1) 3 else if w = nI 5 then M (m + 1) 4
  else if w = nI 6 then sI (zPinF (M (m + 1))) n else if w = nI 7 then M (m + 1) 6 else if w = nI 8 then M (m + 1) 7 else if w = nI 9 then M (m + 1) 8 else if w = nI 10 then M (m + 1) 9 else if w = nI 11 then M (m + 1) 10 else if w = nI 12 then M m 2 else if w = nI 13 then M m 4
  else if rIn w (nI 20) (nI 24) = 0 then -1 else M (m + 1) (11 + w.toNatClampNeg - 20)
