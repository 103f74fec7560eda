def zSh (M : jM) (m j : Nat) : jM := fun b i => if b = m + 2 ∧ i < j then M (m + 2) (i + 439) else M b i
theorem zSh_0 (M : jM) (m : Nat) : zSh M m 0 = M := by
  funext b i
  simp [zSh]
theorem zSh_s (M : jM) (m k : Nat) : jup (zSh M m k) (m + 2) k (zSh M m k (m + 2) (k + 439)) = zSh M m (k + 1) := by
  funext b i
  simp only [jup, zSh]
  by_cases h : b = m + 2 ∧ i = k
  · obtain ⟨rfl, rfl⟩ := h
    rw [if_pos ⟨rfl, rfl⟩, if_neg (by omega), if_pos (by omega)]
  · rw [if_neg h]
    by_cases h2 : b = m + 2 ∧ i < k
    · rw [if_pos h2, if_pos (by omega)]
    · rw [if_neg h2, if_neg (by omega)]
def zCp (M : jM) (m np j : Nat) : jM := fun b i => if b = m + 2 ∧ 439 * np ≤ i ∧ i < 439 * np + j then M (m + 1) (i - 439 * np) else M b i
theorem zCp_0 (M : jM) (m np : Nat) : zCp M m np 0 = M := by
  funext b i
  simp only [zCp]
  rw [if_neg (by omega)]
theorem zCp_s (M : jM) (m np k : Nat) : jup (zCp M m np k) (m + 2) (439 * np + k) (zCp M m np k (m + 1) k) = zCp M m np (k + 1) := by
  funext b i
  simp only [jup, zCp]
  rw [if_neg (show ¬ (m + 1 = m + 2 ∧ 439 * np ≤ k ∧ k < 439 * np + k) by omega)]
  by_cases h : b = m + 2 ∧ i = 439 * np + k
  · rw [if_pos h, if_pos (by omega), show i - 439 * np = k by omega]
  · rw [if_neg h]
    by_cases h2 : b = m + 2 ∧ 439 * np ≤ i ∧ i < 439 * np + k
    · rw [if_pos h2, if_pos (by omega)]
    · rw [if_neg h2, if_neg (by omega)]
theorem zCp_o (M : jM) {m np j b : Nat} (h : b ≠ m + 2) : zCp M m np j b = M b := by
  funext i
  simp only [zCp]
  rw [if_neg (by omega)]
theorem zSh_o (M : jM) {m j b : Nat} (h : b ≠ m + 2) : zSh M m j b = M b := by
  funext i
  simp only [zSh]
  rw [if_neg (by omega)]
def mChg (M : jM) (m np : Nat) : jM := if np = 4 then jup (zCp (jup (zSh M m 1317) m 2 (nI 3)) m 3 439) m 2 (nI 4) else jup (zCp M m np 439) m 2 (nI (np + 1))
theorem mChg_o (M : jM) {m np b : Nat} (h : b ≠ m + 2) (h2 : b ≠ m) : mChg M m np b = M b := by
  unfold mChg
  split
  · rw [jup_row _ _ h2, zCp_o _ h, jup_row _ _ h2, zSh_o _ h]
  · rw [jup_row _ _ h2, zCp_o _ h]
/-- a row of cells leaves: from at on, width w, count at c -/
def zTo (M : jM) (m c w n1 at_ j : Nat) : jM := fun b i => if b = m + 1 then (if i = c then nI n1 else if at_ ≤ i ∧ i < at_ + j then M (m + 1) (i + w) else M (m + 1) i) else M b i
theorem zTo_0 (M : jM) (m c w n1 at_ : Nat) : jup M (m + 1) c (nI n1) = zTo M m c w n1 at_ 0 := by
  funext b i
  simp only [zTo, jup]
  by_cases h : b = m + 1
  · subst h
    by_cases h2 : i = c
    · rw [if_pos ⟨rfl, h2⟩, if_pos rfl, if_pos h2]
    · rw [if_neg (fun q => h2 q.2), if_pos rfl, if_neg h2, if_neg (by omega)]
  · rw [if_neg (fun q => h q.1), if_neg h]
theorem zTo_s (M : jM) {m c w n1 at_ j : Nat} (hc : c < at_) (hw : 0 < w) : jup (zTo M m c w n1 at_ j) (m + 1) (at_ + j) (zTo M m c w n1 at_ j (m + 1) (at_ + j + w)) = zTo M m c w n1 at_ (j + 1) := by
  funext b i
  simp only [zTo, jup]
  rw [if_pos rfl, if_neg (show ¬ at_ + j + w = c by omega), if_neg (by omega)]
  by_cases h : b = m + 1
  · rw [if_pos h, if_pos h]
    by_cases h1 : i = at_ + j
    · rw [if_pos ⟨h, h1⟩, if_neg (by omega), if_pos (by omega), h1]
    · rw [if_neg (by omega)]
      by_cases h2 : i = c
      · rw [if_pos h2, if_pos h2]
      · rw [if_neg h2, if_neg h2]
        by_cases h3 : at_ ≤ i ∧ i < at_ + j
        · rw [if_pos h3, if_pos (by omega)]
        · rw [if_neg h3, if_neg (by omega)]
  · rw [if_neg h, if_neg (by omega), if_neg h]
theorem zTo_c (M : jM) (m c w n1 at_ j : Nat) : zTo M m c w n1 at_ j (m + 1) c = nI n1 := by simp [zTo]
theorem zTo_o (M : jM) {m c w n1 at_ j b : Nat} (h : b ≠ m + 1) : zTo M m c w n1 at_ j b = M b := by
  funext i
  simp only [zTo, if_neg h]
/-- plan p of n leaves -/
def mOut (M : jM) (m n p : Nat) : jM := zTo M m 4 9 (n - 1) (367 + 9 * p) (9 * (n - 1 - p))
def mRowX (M : jM) (m r : Nat) (a b c d w : Int32) : jM := jup (jup (jup (jup (jup (jup M (m + 1) (29 + 5 * r) a) (m + 1) (29 + 5 * r + 1) b) (m + 1) (29 + 5 * r + 2) c) (m + 1) (29 + 5 * r + 3) d) (m + 1) (29 + 5 * r + 4) w) (m + 1) 0 (nI (r + 1))
def zNo (a b c d w : Int32) : Bool := decide (rIn a (nI 0) (nI 31) = 0) || decide (rIn b (nI 0) (nI 31) = 0) || decide (rIn c (nI 0) (nI 31) = 0) || decide (rIn d (nI 0) (nI 31) = 0) || decide (rIn w (nI 1) (nI 999) = 0)
def zfRow (r : Nat) (a b c d w : Int32) : Int32 := if zNo a b c d w = true then -1 else if nI r = nI 30 then -3 else nI r
def zmRow (M : jM) (m np r : Nat) (a b c d w : Int32) : jM := if zNo a b c d w = true then M else if nI r = nI 30 then M else mRowX (mChg M m np) m r a b c d w
def mTk (M : jM) (m : Nat) (v0 v1 v2 v3 : Int32) : jM := jup (jup (jup (jup M (m + 4) 0 v0) (m + 4) 1 v1) (m + 4) 2 v2) (m + 4) 3 v3
theorem mTk_o (M : jM) {m b : Nat} (v0 v1 v2 v3 : Int32) (h : b ≠ m + 4) : mTk M m v0 v1 v2 v3 b = M b := by
  simp only [mTk, jup_row _ _ h]
def zN (S : Nat → Int32) (t : Nat) : Nat := (S (307 + 10 * t)).toNatClampNeg
/-- whether values are taken -/
def zTk (V : Nat → Int32) (n : Nat) : Nat → Int32 → Int32
  | 0, b => b
  | k + 1, b => if zTk V n k b = 0 then 0 else if k < n then rIn (V k) (nI 0) (nI 31) else if V k = 0 then nI 1 else nI 0
theorem zTk_nz {V : Nat → Int32} {n k : Nat} {b : Int32} (h : ¬ zTk V n k b = 0) : ¬ b = 0 := by
  intro q
  apply h
  induction k with
  | zero => exact q
  | succ k ih =>
    have := ih (fun e => h (by simp only [zTk]; rw [if_pos e]))
    simp only [zTk]
    rw [if_pos this]
theorem zTk_z {V : Nat → Int32} {n k j : Nat} {b : Int32} (h : zTk V n k b = 0) : zTk V n (k + j) b = 0 := by
  induction j with
  | zero => exact h
  | succ j ih =>
    rw [show k + (j + 1) = (k + j) + 1 by omega]
    simp only [zTk]
    rw [if_pos ih]
/-- whether values are taken for a statement -/
def zTks (S V : Nat → Int32) (s : Int32) : Int32 := zTk V (zN S s.toNatClampNeg) 4 (zIs (S 3) s)
def zMt1 (T : Nat → Int32) (k : Nat) : Int32 := T (4 * k) - nI 97
def zMt0 (T : Nat → Int32) (k : Nat) : Int32 := if T (4 * k + 1) = nI 61 then nI 0 else if T (4 * k + 1) = nI 60 then nI 1 else nI 2
