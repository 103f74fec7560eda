theorem gTA_s (N : jM) {m t r w n q j : Nat} {o e b num how : Int32} (hj : j < 367) (h : ¬ (j = 4 ∨ j = 6 ∨ j = 7 ∨ j = 9 ∨ j = 10 ∨ (21 ≤ j ∧ j ≤ 28) ∨ j = 307 + 10 * t + 9)) : gTA N m t r w n q o e b num how (m + 1) j = N (m + 1) j := by
  have key : ∀ T : jM, ∀ s : Int32, gT4 (gT3 T m s) m q s (m + 1) j = T (m + 1) j := fun T s => by
    unfold gT4 gU3 gU2 gU1 gT3
    rw [jup_nk _ _ (by omega), jup_nk _ _ (by omega), jup_nk _ _ (by omega), jup_nk _ _ (by omega), jup_nk _ _ (by omega)]
  have e2 := gT2_s N (m := m) (t := t) (r := r) (w := w) (j := j) (o := o) (e := e) (b := b) (num := num) (how := how) (by omega) (by omega) (by omega) (by omega)
  unfold gTA gEnd
  split
  · rw [key, e2]
  · unfold gT5
    split
    · rw [key, e2]
    · rw [jup_nk _ _ (by omega), mOut_l _ hj (by omega), key, e2]
theorem gTA_o (N : jM) {m t r w n q x : Nat} {o e b num how : Int32} (h : x ≠ m + 1) : gTA N m t r w n q o e b num how x = N x := by
  have key : ∀ T : jM, ∀ s : Int32, gT4 (gT3 T m s) m q s x = T x := fun T s => by
    unfold gT4 gU3 gU2 gU1 gT3
    simp only [jup_row _ _ h]
  have e2 : gT2 N m t r w o e b num how x = N x := by unfold gT2 mTl gT1; simp only [jup_row _ _ h]
  unfold gTA gEnd
  split
  · rw [key, e2]
  · unfold gT5
    split
    · rw [key, e2]
    · rw [jup_row _ _ h, mOut_o _ h, key, e2]
theorem gTB_s (N : jM) {m t r w j : Nat} {o e b num how : Int32} (h : ¬ (j = 6 ∨ j = 7 ∨ j = 9 ∨ (21 ≤ j ∧ j ≤ 28) ∨ j = 307 + 10 * t + 9)) : gTB N m t r w o e b num how (m + 1) j = N (m + 1) j := by
  unfold gTB gT3
  rw [jup_nk _ _ (by omega), jup_nk _ _ (by omega), gT2_s N (by omega) (by omega) (by omega) (by omega)]
theorem gTB_o (N : jM) {m t r w x : Nat} {o e b num how : Int32} (h : x ≠ m + 1) : gTB N m t r w o e b num how x = N x := by
  unfold gTB gT3 gT2 mTl gT1
  simp only [jup_row _ _ h]
theorem mKp_o (N : jM) {m n x : Nat} {t o w e : Int32} (h : x ≠ m + 1) : mKp N m n t o w e x = N x := by
  unfold mKp
  simp only [jup_row _ _ h]
theorem zGoes_s {M : jM} {m t r n nc j : Nat} (hn : M (m + 1) 4 = nI n) (hj : j < 367) (h : ¬ (4 ≤ j ∧ j ≤ 10 ∨ (21 ≤ j ∧ j ≤ 28) ∨ j = 307 + 10 * t + 9)) : zGoes M m t r n nc (m + 1) j = M (m + 1) j := by
  obtain ⟨-, -, kl, -⟩ := zCl_inv (M (m + 1) 15) m n M (-4) hn
  have eN : gN M m n (m + 1) j = M (m + 1) j := by rw [gN, jup_nk _ _ (by omega)]; exact kl j hj (by omega) (by omega)
  unfold zGoes
  split
  · split
    · rw [gTA_s _ hj (by omega), mKp_l _ hj (by omega) (by omega), eN]
    · rw [gTB_s _ (by omega), eN]
  · rw [gTA_s _ hj (by omega), jup_nk _ _ (by omega)]
theorem zGoes_o {M : jM} {m t r n nc x : Nat} (hn : M (m + 1) 4 = nI n) (h : x ≠ m + 1) : zGoes M m t r n nc x = M x := by
  obtain ⟨-, -, -, ko⟩ := zCl_inv (M (m + 1) 15) m n M (-4) hn
  have eN : gN M m n x = M x := by rw [gN, jup_row _ _ h]; exact ko x h
  unfold zGoes
  split
  · split
    · rw [gTA_o _ h, mKp_o _ h, eN]
    · rw [gTB_o _ h, eN]
  · rw [gTA_o _ h, jup_row _ _ h]
def zVl (N : jM) (m : Nat) : Nat → jM
  | 0 => N
  | k + 1 => jup (zVl N m k) (m + 1) (17 + k) (N (m + 4) k)
theorem zVl_o (N : jM) {m b : Nat} (k : Nat) (h : b ≠ m + 1) : zVl N m k b = N b := by
  induction k with
  | zero => rfl
  | succ k ih => simp only [zVl, jup_row _ _ h, ih]
theorem zVl_a (N : jM) {m j : Nat} (k : Nat) (h : j < 17 ∨ 17 + k ≤ j) : zVl N m k (m + 1) j = N (m + 1) j := by
  induction k with
  | zero => rfl
  | succ k ih => simp only [zVl]; rw [jup_nk _ _ (by omega), ih (by omega)]
def zAl (S V : Nat → Int32) (t r : Nat) : Nat → Int32
  | 0 => nI 1
  | k + 1 => if zAl S V t r k = 0 then nI 0 else if zHold S V t k (S (29 + 5 * r + zCol S t k)) = 0 then nI 0 else nI 1
def zAllF (S V : Nat → Int32) (t nc r : Nat) : Int32 := if zAl S V t r nc = 0 then nI 0 else S (29 + 5 * r + 4)
def zRn0 (M : jM) (m np : Nat) (s v0 v1 v2 v3 : Int32) : jM := jup (mChg (mTk M m v0 v1 v2 v3) m np) (m + 1) 16 s
def zRn (M : jM) (m np : Nat) (s v0 v1 v2 v3 : Int32) : jM := zVl (zRn0 M m np s v0 v1 v2 v3) m 4
theorem zRn_a {M : jM} {m np j : Nat} {s v0 v1 v2 v3 : Int32} (h : j < 16 ∨ 20 < j) : zRn M m np s v0 v1 v2 v3 (m + 1) j = M (m + 1) j := by
  rw [zRn, zVl_a _ _ (by omega), zRn0, jup_nk _ _ (by omega), mChg_o _ (by omega) (by omega), mTk_o _ _ _ _ _ (by omega)]
def zfRun (M : jM) (m np r n : Nat) (s v0 v1 v2 v3 : Int32) : Int32 := if zTks (M (m + 1)) (mTk M m v0 v1 v2 v3 (m + 4)) s = 0 then -1 else
  sI (zAllF (zGoes (zRn M m np s v0 v1 v2 v3) m s.toNatClampNeg r n (zN (M (m + 1)) s.toNatClampNeg) (m + 1)) (zGoes (zRn M m np s v0 v1 v2 v3) m s.toNatClampNeg r n (zN (M (m + 1)) s.toNatClampNeg) (m + 4)) s.toNatClampNeg (zN (M (m + 1)) s.toNatClampNeg)) r
def zmRun (M : jM) (m np r n : Nat) (s v0 v1 v2 v3 : Int32) : jM := if zTks (M (m + 1)) (mTk M m v0 v1 v2 v3 (m + 4)) s = 0 then mTk M m v0 v1 v2 v3 else zGoes (zRn M m np s v0 v1 v2 v3) m s.toNatClampNeg r n (zN (M (m + 1)) s.toNatClampNeg)
