theorem jcopy_0 (M : jM) (a b : Nat) : jcopy M a b 0 = M := by
  funext x j
  simp [jcopy]
theorem jcopy_s (M : jM) {a b k : Nat} (h : a ≠ b) : jup (jcopy M a b k) b k (jcopy M a b k a k) = jcopy M a b (k + 1) := by
  funext x j
  simp only [jup, jcopy]
  by_cases hx : x = b
  · subst hx
    by_cases hj : j = k
    · subst hj
      simp [h]
    · by_cases hl : j < k
      · simp [hj, hl, show j < k + 1 by omega]
      · simp [hj, hl, show ¬ j < k + 1 by omega]
  · simp [hx]
def rAddM (M : jM) (b : Nat) (c v w : Int32) : jM := if c * nI 32 + v < 0 then M else if nI 128 ≤ c * nI 32 + v then M else jup M (b + 1) (c * nI 32 + v).toNatClampNeg (M (b + 1) (c * nI 32 + v).toNatClampNeg + w)
def rWhF (M : jM) (b : Nat) (c op v : Int32) (k : Nat) : Int32 := if rHolds (nI k) op v = 0 then 0 else rAt (M (b + 1)) 128 (c * nI 32 + nI k)
def rWhere (M : jM) (b : Nat) (c op v : Int32) : Int32 := sI (rWhF M b c op v) 32
