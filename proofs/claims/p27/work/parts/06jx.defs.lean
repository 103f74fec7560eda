def zSh (M : jM) (m j : Nat) : jM := fun b i => if b = m + 2 ∧ i < j then M (m + 2) (i + 439) else M b i
theorem zSh_0 (M : jM) (m : Nat) : zSh M m 0 = M := by
  funext b i
  simp [zSh]
theorem zSh_s (M : jM) (m k : Nat) : jup (zSh M m k) (m + 2) k (zSh M m k (m + 2) (k + 439)) = zSh M m (k + 1) := by
  funext b i
  simp only [jup, zSh]
  by_cases h : b = m + 2 ∧ i = k
  · obtain ⟨rfl, rfl⟩ := h
    rw [if_pos ⟨rfl, rfl⟩, if_neg (by omega), if_pos (by omega)]
  · rw [if_neg h]
    by_cases h2 : b = m + 2 ∧ i < k
    · rw [if_pos h2, if_pos (by omega)]
    · rw [if_neg h2, if_neg (by omega)]
def zCp (M : jM) (m np j : Nat) : jM := fun b i => if b = m + 2 ∧ 439 * np ≤ i ∧ i < 439 * np + j then M (m + 1) (i - 439 * np) else M b i
theorem zCp_0 (M : jM) (m np : Nat) : zCp M m np 0 = M := by
  funext b i
  simp only [zCp]
  rw [if_neg (by omega)]
theorem zCp_s (M : jM) (m np k : Nat) : jup (zCp M m np k) (m + 2) (439 * np + k) (zCp M m np k (m + 1) k) = zCp M m np (k + 1) := by
  funext b i
  simp only [jup, zCp]
  rw [if_neg (show ¬ (m + 1 = m + 2 ∧ 439 * np ≤ k ∧ k < 439 * np + k) by omega)]
  by_cases h : b = m + 2 ∧ i = 439 * np + k
  · rw [if_pos h, if_pos (by omega), show i - 439 * np = k by omega]
  · rw [if_neg h]
    by_cases h2 : b = m + 2 ∧ 439 * np ≤ i ∧ i < 439 * np + k
    · rw [if_pos h2, if_pos (by omega)]
    · rw [if_neg h2, if_neg (by omega)]
theorem zCp_o (M : jM) {m np j b : Nat} (h : b ≠ m + 2) : zCp M m np j b = M b := by
  funext i
  simp only [zCp]
  rw [if_neg (by omega)]
theorem zSh_o (M : jM) {m j b : Nat} (h : b ≠ m + 2) : zSh M m j b = M b := by
  funext i
  simp only [zSh]
  rw [if_neg (by omega)]
def mChg (M : jM) (m np : Nat) : jM := if np = 4 then jup (zCp (jup (zSh M m 1317) m 2 (nI 3)) m 3 439) m 2 (nI 4) else jup (zCp M m np 439) m 2 (nI (np + 1))
theorem mChg_o (M : jM) {m np b : Nat} (h : b ≠ m + 2) (h2 : b ≠ m) : mChg M m np b = M b := by
  unfold mChg
  split
  · rw [jup_row _ _ h2, zCp_o _ h, jup_row _ _ h2, zSh_o _ h]
  · rw [jup_row _ _ h2, zCp_o _ h]
/-- a row of cells leaves: from at on, width w, count at c -/
def zTo (M : jM) (m c w n1 at_ j : Nat) : jM := fun b i => if b = m + 1 then (if i = c then nI n1 else if at_ ≤ i ∧ i < at_ + j then M (m + 1) (i + w) else M (m + 1) i) else M b i
theorem zTo_0 (M : jM) (m c w n1 at_ : Nat) : jup M (m + 1) c (nI n1) = zTo M m c w n1 at_ 0 := by
  funext b i
  simp only [zTo, jup]
  by_cases h : b = m + 1
  · subst h
    by_cases h2 : i = c
    · rw [if_pos ⟨rfl, h2⟩, if_pos rfl, if_pos h2]
    · rw [if_neg (fun q => h2 q.2), if_pos rfl, if_neg h2, if_neg (by omega)]
  · rw [if_neg (fun q => h q.1), if_neg h]
theorem zTo_s (M : jM) {m c w n1 at_ j : Nat} (hc : c < at_) (hw : 0 < w) : jup (zTo M m c w n1 at_ j) (m + 1) (at_ + j) (zTo M m c w n1 at_ j (m + 1) (at_ + j + w)) = zTo M m c w n1 at_ (j + 1) := by
  funext b i
  simp only [zTo, jup]
  rw [if_pos trivial, if_neg (show ¬ at_ + j + w = c by omega), if_neg (show ¬ (at_ ≤ at_ + j + w ∧ at_ + j + w < at_ + j) by omega)]
  by_cases h : b = m + 1
  · rw [if_pos h, if_pos h]
    by_cases h1 : i = at_ + j
    · rw [if_pos ⟨h, h1⟩, if_neg (by omega), if_pos (by omega), h1]
    · rw [if_neg (by omega)]
      by_cases h2 : i = c
      · rw [if_pos h2, if_pos h2]
      · rw [if_neg h2, if_neg h2]
        by_cases h3 : at_ ≤ i ∧ i < at_ + j
        · rw [if_pos h3, if_pos (by omega)]
        · rw [if_neg h3, if_neg (by omega)]
  · rw [if_neg h, if_neg (by omega), if_neg h]
theorem zTo_c (M : jM) (m c w n1 at_ j : Nat) : zTo M m c w n1 at_ j (m + 1) c = nI n1 := by simp [zTo]
theorem zTo_o (M : jM) {m c w n1 at_ j b : Nat} (h : b ≠ m + 1) : zTo M m c w n1 at_ j b = M b := by
  funext i
  simp only [zTo, if_neg h]
/-- plan p of n leaves -/
def mOut (M : jM) (m n p : Nat) : jM := zTo M m 4 9 (n - 1) (367 + 9 * p) (9 * (n - 1 - p))
def mRowX (M : jM) (m r : Nat) (a b c d w : Int32) : jM := jup (jup (jup (jup (jup (jup M (m + 1) (29 + 5 * r) a) (m + 1) (29 + 5 * r + 1) b) (m + 1) (29 + 5 * r + 2) c) (m + 1) (29 + 5 * r + 3) d) (m + 1) (29 + 5 * r + 4) w) (m + 1) 0 (nI (r + 1))
def zNo (a b c d w : Int32) : Bool := decide (rIn a (nI 0) (nI 31) = 0) || decide (rIn b (nI 0) (nI 31) = 0) || decide (rIn c (nI 0) (nI 31) = 0) || decide (rIn d (nI 0) (nI 31) = 0) || decide (rIn w (nI 1) (nI 999) = 0)
def zfRow (r : Nat) (a b c d w : Int32) : Int32 := if zNo a b c d w = true then -1 else if nI r = nI 30 then -3 else nI r
def zmRow (M : jM) (m np r : Nat) (a b c d w : Int32) : jM := if zNo a b c d w = true then M else if nI r = nI 30 then M else mRowX (mChg M m np) m r a b c d w
def mTk (M : jM) (m : Nat) (v0 v1 v2 v3 : Int32) : jM := jup (jup (jup (jup M (m + 4) 0 v0) (m + 4) 1 v1) (m + 4) 2 v2) (m + 4) 3 v3
theorem mTk_o (M : jM) {m b : Nat} (v0 v1 v2 v3 : Int32) (h : b ≠ m + 4) : mTk M m v0 v1 v2 v3 b = M b := by
  simp only [mTk, jup_row _ _ h]
def zN (S : Nat → Int32) (t : Nat) : Nat := (S (307 + 10 * t)).toNatClampNeg
/-- whether values are taken -/
def zTk (V : Nat → Int32) (n : Nat) : Nat → Int32 → Int32
  | 0, b => b
  | k + 1, b => if zTk V n k b = 0 then 0 else if k < n then rIn (V k) (nI 0) (nI 31) else if V k = 0 then nI 1 else nI 0
theorem zTk_nz {V : Nat → Int32} {n k : Nat} {b : Int32} (h : ¬ zTk V n k b = 0) : ¬ b = 0 := by
  intro q
  apply h
  induction k with
  | zero => exact q
  | succ k ih =>
    have := ih (fun e => h (by simp only [zTk]; rw [if_pos e]))
    simp only [zTk]
    rw [if_pos this]
theorem zTk_z {V : Nat → Int32} {n k j : Nat} {b : Int32} (h : zTk V n k b = 0) : zTk V n (k + j) b = 0 := by
  induction j with
  | zero => exact h
  | succ j ih =>
    rw [show k + (j + 1) = (k + j) + 1 by omega]
    simp only [zTk]
    rw [if_pos ih]
/-- whether values are taken for a statement -/
def zTks (S V : Nat → Int32) (s : Int32) : Int32 := zTk V (zN S s.toNatClampNeg) 4 (zIs (S 3) s)
def zMt1 (T : Nat → Int32) (k : Nat) : Int32 := T (4 * k) - nI 97
def zMt0 (T : Nat → Int32) (k : Nat) : Int32 := if T (4 * k + 1) = nI 61 then nI 0 else if T (4 * k + 1) = nI 60 then nI 1 else nI 2
def zfDrow (S : Nat → Int32) (x : Int32) : Int32 := if zIs (S 0) x = 0 then -1 else S (29 + 5 * x.toNatClampNeg + 4)
def zmDrow (M : jM) (m np r : Nat) (x : Int32) : jM := if zIs (M (m + 1) 0) x = 0 then M else zTo (mChg M m np) m 0 5 (r - 1) (29 + 5 * x.toNatClampNeg) (5 * (r - 1 - x.toNatClampNeg))
def zfDrop (S : Nat → Int32) (n : Nat) (x : Int32) : Int32 := if 0 ≤ zLast (zPlc S x) n then (if S (367 + 9 * (zLast (zPlc S x) n).toNatClampNeg + 7) = nI 1 then -2 else nI (n - 1)) else -1
def zmDrop (M : jM) (m np n : Nat) (x : Int32) : jM := if 0 ≤ zLast (zPlc (M (m + 1)) x) n then (if M (m + 1) (367 + 9 * (zLast (zPlc (M (m + 1)) x) n).toNatClampNeg + 7) = nI 1 then M else jup (mOut (mChg M m np) m n (zLast (zPlc (M (m + 1)) x) n).toNatClampNeg) (m + 1) 10 (mOut (mChg M m np) m n (zLast (zPlc (M (m + 1)) x) n).toNatClampNeg (m + 1) 10 + nI 1)) else M
def zmPin (M : jM) (m np n : Nat) (x w : Int32) : jM := if zLast (zPlc (M (m + 1)) x) n < 0 then M else if rIn w (nI 0) (nI 1) = 0 then M else jup (mChg M m np) (m + 1) (367 + 9 * (zLast (zPlc (M (m + 1)) x) n).toNatClampNeg + 7) w
def zfPin (M : jM) (m np n : Nat) (x w : Int32) : Int32 := if zLast (zPlc (M (m + 1)) x) n < 0 then -1 else if rIn w (nI 0) (nI 1) = 0 then -1 else sI (zPinF (zmPin M m np n x w (m + 1))) n
def zBad (w x : Int32) : Int32 := rIn x (if nI 2 ≤ w then nI 1 else nI 0) (if nI 2 ≤ w then (if w = nI 2 then nI 99 else if w = nI 3 then nI 9 else nI 8) else nI 1000)
def zfSet (S : Nat → Int32) (w x : Int32) : Int32 := if rIn w (nI 0) (nI 4) = 0 then -1 else if zBad w x = 0 then -1 else S (11 + w.toNatClampNeg)
def zmSet (M : jM) (m np : Nat) (w x : Int32) : jM := if rIn w (nI 0) (nI 4) = 0 then M else if zBad w x = 0 then M else jup (mChg M m np) (m + 1) (11 + w.toNatClampNeg) x
def zBk (M : jM) (m np j : Nat) : jM := fun b i => if b = m + 1 ∧ i < j then M (m + 2) (439 * np + i) else M b i
theorem zBk_0 (M : jM) (m np : Nat) : zBk M m np 0 = M := by
  funext b i
  simp only [zBk]
  rw [if_neg (by omega)]
theorem zBk_o (M : jM) {m np j b : Nat} (h : b ≠ m + 1) : zBk M m np j b = M b := by
  funext i
  simp only [zBk]
  rw [if_neg (by omega)]
theorem zBk_s (M : jM) (m np k : Nat) : jup (zBk M m np k) (m + 1) k (zBk M m np k (m + 2) (439 * np + k)) = zBk M m np (k + 1) := by
  funext b i
  rw [zBk_o M (show m + 2 ≠ m + 1 by omega)]
  simp only [jup, zBk]
  by_cases h : b = m + 1 ∧ i = k
  · rw [if_pos h, if_pos (by omega), h.2]
  · rw [if_neg h]
    by_cases h2 : b = m + 1 ∧ i < k
    · rw [if_pos h2, if_pos (by omega)]
    · rw [if_neg h2, if_neg (by omega)]
def zfUndo (np : Nat) : Int32 := if np = 0 then -2 else nI (np - 1)
def zmUndo (M : jM) (m np : Nat) : jM := if np = 0 then M else zBk (jup M m 2 (nI (np - 1))) m (np - 1) 439
theorem zTk_B {V : Nat → Int32} {n k : Nat} {b : Int32} (h : isB b) : isB (zTk V n k b) := by
  induction k with
  | zero => exact h
  | succ k ih =>
    simp only [zTk]
    split
    · exact Or.inl rfl
    · split
      · exact rIn_B _ _ _
      · split
        · exact Or.inr rfl
        · exact Or.inl rfl
theorem zTks_B (S V : Nat → Int32) (s : Int32) : isB (zTks S V s) := zTk_B (zIs_B _ _)
def zfClass (S V : Nat → Int32) (s : Int32) : Int32 := if zTks S V s = 0 then -1 else zCls S V s.toNatClampNeg (zN S s.toNatClampNeg) (zN S s.toNatClampNeg)
def zfWay (S V : Nat → Int32) (s : Int32) : Int32 := if zTks S V s = 0 then -1 else nI (zBest S (zC0 S V s.toNatClampNeg) s.toNatClampNeg (zN S s.toNatClampNeg) (zN S s.toNatClampNeg))
def zTx (S T : Nat → Int32) (q : Int32) (t : Nat) : Nat → Int32
  | 0 => if S (307 + 10 * t) = q then nI 1 else nI 0
  | k + 1 => if zTx S T q t k = 0 then 0 else if S (307 + 10 * t + 1 + k) = zMt1 T k then (if S (307 + 10 * t + 5 + k) = zMt0 T k then nI 1 else nI 0) else nI 0
theorem zTx_B (S T : Nat → Int32) (q : Int32) (t k : Nat) : isB (zTx S T q t k) := by
  cases k with
  | zero =>
    simp only [zTx]
    split
    · exact Or.inr rfl
    · exact Or.inl rfl
  | succ k =>
    simp only [zTx]
    repeat' split
    all_goals first | exact Or.inl rfl | exact Or.inr rfl
theorem zTx_z {S T : Nat → Int32} {q : Int32} {t k j : Nat} (h : zTx S T q t k = 0) : zTx S T q t (k + j) = 0 := by
  induction j with
  | zero => exact h
  | succ j ih =>
    rw [show k + (j + 1) = (k + j) + 1 by omega]
    simp only [zTx]
    rw [if_pos ih]
def zfType (len : Nat) (x : Int32) : Int32 := if rIn x (nI 32) (nI 126) = 0 then -1 else if nI len = nI 30 then -3 else nI (len + 1)
def zmType (M : jM) (m len : Nat) (x : Int32) : jM := if rIn x (nI 32) (nI 126) = 0 then M else if nI len = nI 30 then M else jup (jup M (m + 3) len x) m 4 (nI (len + 1))
theorem mChg_k (M : jM) {m np j : Nat} (h : 2 < j) : mChg M m np m j = M m j := by
  unfold mChg
  split
  · rw [jup_nk _ _ (by omega), zCp_o _ (by omega), jup_nk _ _ (by omega), zSh_o _ (by omega)]
  · rw [jup_nk _ _ (by omega), zCp_o _ (by omega)]
