theorem zCl_inv (cap : Int32) (m : Nat) : ∀ (n : Nat) (N : jM) (f : Int32), N (m + 1) 4 = nI n → (zCl cap m n N f).1 (m + 1) 4 = nI (zCl cap m n N f).2.2 ∧ (zCl cap m n N f).2.2 ≤ n ∧ (∀ j, j < 367 → j ≠ 4 → j ≠ 8 → (zCl cap m n N f).1 (m + 1) j = N (m + 1) j) ∧ ∀ b, b ≠ m + 1 → (zCl cap m n N f).1 b = N b := by
  intro n
  induction n with
  | zero => intro N f h; exact ⟨h, Nat.le_refl 0, fun _ _ _ _ => rfl, fun _ _ => rfl⟩
  | succ n ih =>
    intro N f h
    simp only [zCl]
    by_cases h1 : cap ≤ nI (n + 1)
    · rw [if_pos h1]
      by_cases h2 : 0 ≤ zLast (zDrp (N (m + 1)) (n + 1) (nI 0)) (n + 1)
      · rw [if_pos h2]
        generalize (zLast (zDrp (N (m + 1)) (n + 1) (nI 0)) (n + 1)).toNatClampNeg = q
        generalize (if 0 ≤ f then f else N (m + 1) (367 + 9 * q + 0)) = f'
        obtain ⟨i1, i2, i3, i4⟩ := ih (jup (mOut N m (n + 1) q) (m + 1) 8 (mOut N m (n + 1) q (m + 1) 8 + nI 1)) f' (by rw [jup_nk _ _ (by decide)]; exact mOut_n _ _ _ _)
        refine ⟨i1, Nat.le_succ_of_le i2, fun j a b c => ?_, fun b hb => ?_⟩
        · rw [i3 j a b c, jup_nk _ _ c, mOut_l _ a b]
        · rw [i4 b hb, jup_row _ _ hb, mOut_o _ hb]
      · rw [if_neg h2]
        exact ⟨h, Nat.le_refl _, fun _ _ _ _ => rfl, fun _ _ => rfl⟩
    · rw [if_neg h1]
      exact ⟨h, Nat.le_refl _, fun _ _ _ _ => rfl, fun _ _ => rfl⟩
def gO (M : jM) (m t nc : Nat) : Int32 := zCls (M (m + 1)) (M (m + 4)) t nc nc
def gP (M : jM) (m t n nc : Nat) : Int32 := zLast (zFor (M (m + 1)) (nI t) (gO M m t nc)) n
def gWy (M : jM) (m t nc : Nat) : Nat := zBest (M (m + 1)) (zC0 (M (m + 1)) (M (m + 4)) t) t nc nc
def gE (M : jM) (m t nc : Nat) : Int32 := zC0 (M (m + 1)) (M (m + 4)) t (gWy M m t nc)
def gK (M : jM) (m n : Nat) : jM × Int32 × Nat := zCl (M (m + 1) 15) m n M (-4)
def gN (M : jM) (m n : Nat) : jM := jup (gK M m n).1 (m + 1) 28 (gK M m n).2.1
def zGoes (M : jM) (m t r n nc : Nat) : jM :=
  if gP M m t n nc < 0 then
    (if nI (gK M m n).2.2 < gN M m n (m + 1) 15 then gTA (mKp (gN M m n) m (gK M m n).2.2 (nI t) (gO M m t nc) (nI (gWy M m t nc)) (gE M m t nc)) m t r (gWy M m t nc) ((gK M m n).2.2 + 1) (gK M m n).2.2 (gO M m t nc) (gE M m t nc) (nI 0)
        (gT1 (mKp (gN M m n) m (gK M m n).2.2 (nI t) (gO M m t nc) (nI (gWy M m t nc)) (gE M m t nc)) m t (nI 0) (m + 1) (367 + 9 * (gK M m n).2.2 + 0)) (nI 1)
     else gTB (gN M m n) m t r (gWy M m t nc) (gO M m t nc) (gE M m t nc) (nI 0) (-4) (nI 2))
  else gTA (jup M (m + 1) 28 (-4)) m t r (M (m + 1) (367 + 9 * (gP M m t n nc).toNatClampNeg + 3)).toNatClampNeg n (gP M m t n nc).toNatClampNeg (gO M m t nc) (M (m + 1) (367 + 9 * (gP M m t n nc).toNatClampNeg + 4)) (nI 1)
      (gT1 (jup M (m + 1) 28 (-4)) m t (nI 1) (m + 1) (367 + 9 * (gP M m t n nc).toNatClampNeg + 0)) (nI 0)
theorem zGoes_there {M : jM} {m t r n nc q w : Nat} (h : ¬ gP M m t n nc < 0) (eq : gP M m t n nc = nI q) (hq : q < 2 ^ 31) (hw : M (m + 1) (367 + 9 * q + 3) = nI w) (hw2 : w < 2 ^ 31) :
    zGoes M m t r n nc = gTA (jup M (m + 1) 28 (-4)) m t r w n q (gO M m t nc) (M (m + 1) (367 + 9 * q + 4)) (nI 1) (gT1 (jup M (m + 1) 28 (-4)) m t (nI 1) (m + 1) (367 + 9 * q + 0)) (nI 0) := by
  unfold zGoes
  rw [if_neg h, eq, nI_clamp hq, hw, nI_clamp hw2]
theorem mKp_l (N : jM) {m n j : Nat} {t o w e : Int32} (h : j < 367) (h4 : j ≠ 4) (h5 : j ≠ 5) : mKp N m n t o w e (m + 1) j = N (m + 1) j := by
  unfold mKp
  rw [jup_nk _ _ h4, jup_nk _ _ h5, jup_nk _ _ (by omega), jup_nk _ _ (by omega), jup_nk _ _ (by omega), jup_nk _ _ (by omega), jup_nk _ _ (by omega), jup_nk _ _ (by omega), jup_nk _ _ (by omega), jup_nk _ _ (by omega), jup_nk _ _ (by omega)]
theorem mKp_4 (N : jM) {m n : Nat} {t o w e : Int32} : mKp N m n t o w e (m + 1) 4 = nI (n + 1) := jup_eq _ _ _ _
theorem zFor_of {S : Nat → Int32} {t o : Int32} {q : Nat} (h : zFor S t o q = true) : S (367 + 9 * q + 1) = t := by
  simp only [zFor, Bool.and_eq_true, decide_eq_true_eq] at h
  exact h.1
