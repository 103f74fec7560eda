def mSp (M : jM) (m : Nat) (s r : Int32) : jM := jup (jup M m 5 s) m 6 r
theorem mSp_0 (M : jM) (m : Nat) (s : Int32) : jup M m 5 s = mSp M m s (M m 6) := by
  funext b j
  simp only [mSp, jup]
  by_cases h : b = m ∧ j = 6
  · rw [if_pos h, if_neg (by omega), h.1, h.2]
  · rw [if_neg h]
theorem mSp_r (M : jM) (m : Nat) (s r r' : Int32) : jup (mSp M m s r) m 6 r' = mSp M m s r' := by
  funext b j
  simp only [mSp, jup]
  by_cases h : b = m ∧ j = 6
  · rw [if_pos h, if_pos h]
  · rw [if_neg h, if_neg h, if_neg h]
theorem mSp_s (M : jM) (m : Nat) (s r s' : Int32) : jup (mSp M m s r) m 5 s' = mSp M m s' r := by
  funext b j
  simp only [mSp, jup]
  by_cases h : b = m ∧ j = 5
  · rw [if_pos h, if_neg (by omega), if_pos h]
  · rw [if_neg h, if_neg h, if_neg h]
theorem mSp_5 (M : jM) (m : Nat) (s r : Int32) : mSp M m s r m 5 = s := by simp [mSp, jup]
theorem mSp_6 (M : jM) (m : Nat) (s r : Int32) : mSp M m s r m 6 = r := by simp [mSp, jup]
theorem mSp_k (M : jM) (m : Nat) (s r : Int32) {j : Nat} (h : j < 5) : mSp M m s r m j = M m j := by
  simp only [mSp, jup]
  rw [if_neg (by omega), if_neg (by omega)]
theorem mSp_o (M : jM) {m b : Nat} (s r : Int32) (h : b ≠ m) : mSp M m s r b = M b := by simp only [mSp, jup_row _ _ h]
def zRs (M : jM) (m : Nat) : Nat → Int32
  | 0 => M m 6
  | _ + 1 => nI 2
def zOk (T : Nat → Int32) (k : Nat) : Int32 := if nI k - nI k / nI 4 * nI 4 = 0 then rIn (T k) (nI 97) (nI 100) else if nI k - nI k / nI 4 * nI 4 = nI 1 then rIn (T k) (nI 60) (nI 62)
  else if nI k - nI k / nI 4 * nI 4 = nI 2 then (if T k = nI 63 then nI 1 else nI 0) else (if T k = nI 38 then nI 1 else nI 0)
def zWr (T : Nat → Int32) (k : Nat) : Bool := decide (zOk T k = 0) || decide (nI k = nI 15)
theorem zWr_f {T : Nat → Int32} {k : Nat} (h1 : ¬ zOk T k = 0) (h2 : ¬ nI k = nI 15) : zWr T k = false := by
  unfold zWr
  rw [decide_eq_false h1, decide_eq_false h2]
  rfl
theorem zWr_1 {T : Nat → Int32} {k : Nat} (h1 : zOk T k = 0) : zWr T k = true := by
  unfold zWr
  rw [decide_eq_true h1]
  rfl
theorem zWr_2 {T : Nat → Int32} {k : Nat} (h1 : nI k = nI 15) : zWr T k = true := by
  unfold zWr
  rw [decide_eq_true h1, Bool.or_true]
def zRight (T : Nat → Int32) (len : Nat) : Int32 := if rFirst (zWr T) len = -1 then (if nI len - nI len / nI 4 * nI 4 = nI 3 then nI 1 else nI 0) else nI 0
theorem zRight_B (T : Nat → Int32) (len : Nat) : isB (zRight T len) := by
  unfold zRight
  repeat' split
  all_goals first | exact Or.inl rfl | exact Or.inr rfl
def zmRight (M : jM) (m len : Nat) : jM := if rFirst (zWr (M (m + 3))) len = -1 then mSp M m (nI len) (nI 1) else mSp M m (rFirst (zWr (M (m + 3))) len) (if zOk (M (m + 3)) (rFirst (zWr (M (m + 3))) len).toNatClampNeg = 0 then nI 1 else nI 2)
theorem zmRight_o (M : jM) {m len b : Nat} (h : b ≠ m) : zmRight M m len b = M b := by
  unfold zmRight
  split
  · exact mSp_o M _ _ h
  · exact mSp_o M _ _ h
theorem zmRight_k (M : jM) {m len j : Nat} (h : j < 5) : zmRight M m len m j = M m j := by
  unfold zmRight
  split
  · exact mSp_k M m _ _ h
  · exact mSp_k M m _ _ h
theorem zRight_at {M : jM} {m len k : Nat} (hk : k < len) (hl : len ≤ 30) (hp : zWr (M (m + 3)) k = true) (hI : ∀ j, j < k → zWr (M (m + 3)) j = false) : zRight (M (m + 3)) len = nI 0 ∧ zmRight M m len = mSp M m (nI k) (if zOk (M (m + 3)) k = 0 then nI 1 else nI 2) := by
  have e := rFirst_yes hk hp hI
  have hne : ¬ nI k = -1 := fun q => absurd (show nI k < 0 by rw [q]; decide) (nI_pos (by omega))
  unfold zRight zmRight
  rw [e, if_neg hne, if_neg hne, nI_clamp (by omega)]
  exact ⟨rfl, rfl⟩
theorem zRight_end {M : jM} {m len : Nat} (hI : ∀ j, j < len → zWr (M (m + 3)) j = false) : zRight (M (m + 3)) len = (if nI len - nI len / nI 4 * nI 4 = nI 3 then nI 1 else nI 0) ∧ zmRight M m len = mSp M m (nI len) (nI 1) := by
  unfold zRight zmRight
  rw [rFirst_no hI, if_pos rfl, if_pos rfl]
  exact ⟨rfl, rfl⟩
def zfFault (M : jM) (m len : Nat) (w : Int32) : Int32 := if rIn w (nI 0) (nI 1) = 0 then -1 else if zRight (M (m + 3)) len = 0 then (if w = 0 then zmRight M m len m 5 else zmRight M m len m 6) else -4
def zmFault (M : jM) (m len : Nat) (w : Int32) : jM := if rIn w (nI 0) (nI 1) = 0 then M else zmRight M m len
def zFnd (S T : Nat → Int32) (q : Int32) (t : Nat) : Bool := !decide (zTx S T q t (zN S t) = 0)
/-- a new statement's words -/
def zNw (M : jM) (m a : Nat) (q : Int32) : Nat → jM
  | 0 => jup M (m + 1) a q
  | k + 1 => jup (jup (zNw M m a q k) (m + 1) (a + 1 + k) (if q ≤ nI k then nI 0 else zMt1 (M (m + 3)) k)) (m + 1) (a + 5 + k) (if q ≤ nI k then nI 0 else zMt0 (M (m + 3)) k)
theorem zNw_o (M : jM) {m a b : Nat} {q : Int32} (k : Nat) (h : b ≠ m + 1) : zNw M m a q k b = M b := by
  induction k with
  | zero => exact jup_row _ _ h
  | succ k ih => simp only [zNw, jup_row _ _ h, ih]
theorem zNw_a (M : jM) {m a j : Nat} {q : Int32} (k : Nat) (h : j < a) : zNw M m a q k (m + 1) j = M (m + 1) j := by
  induction k with
  | zero => exact jup_nk _ _ (by omega)
  | succ k ih =>
    simp only [zNw]
    rw [jup_nk _ _ (by omega), jup_nk _ _ (by omega), ih]
theorem zNw_q (M : jM) {m a : Nat} {q : Int32} (k : Nat) : zNw M m a q k (m + 1) a = q := by
  induction k with
  | zero => exact jup_eq _ _ _ _
  | succ k ih =>
    simp only [zNw]
    rw [jup_nk _ _ (by omega), jup_nk _ _ (by omega), ih]
def zmNew (M : jM) (m c : Nat) (q : Int32) : jM := jup (jup (zNw M m (307 + 10 * c) q 4) (m + 1) (307 + 10 * c + 9) (nI 0)) (m + 1) 3 (nI (c + 1))
def zfStat (M : jM) (m len c : Nat) : Int32 := if zRight (M (m + 3)) len = 0 then -2 else if rFirst (zFnd (M (m + 1)) (M (m + 3)) (nI (len + 1) / nI 4)) c = -1 then (if nI c = nI 6 then -3 else nI c) else rFirst (zFnd (M (m + 1)) (M (m + 3)) (nI (len + 1) / nI 4)) c
def zmStat (M : jM) (m len c np : Nat) : jM := if zRight (M (m + 3)) len = 0 then zmRight M m len else if rFirst (zFnd (M (m + 1)) (M (m + 3)) (nI (len + 1) / nI 4)) c = -1 then (if nI c = nI 6 then zmRight M m len else zmNew (mChg (zmRight M m len) m np) m c (nI (len + 1) / nI 4)) else mChg (zmRight M m len) m np
theorem rFirst_ne {p : Nat → Bool} {n k : Nat} (h : rFirst p n = nI k) (hk : k < 2 ^ 31) : ¬ rFirst p n = -1 := fun q => absurd (show nI k < 0 by rw [← h, q]; decide) (nI_pos hk)
