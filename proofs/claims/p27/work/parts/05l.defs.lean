/-- a number is written at a place, if there is one -/
def rPutA (M : jM) (a n : Nat) (p x : Int32) : jM := if p < 0 then M else if nI n ≤ p then M else jup M a p.toNatClampNeg x
theorem rPutA_N (M : jM) (a : Nat) {n k : Nat} (h : k < n) (hn : n < 2 ^ 31) (x : Int32) : rPutA M a n (nI k) x = jup M a k x := by
  simp only [rPutA, if_neg (nI_pos (show k < 2 ^ 31 by omega)), if_neg (nI_ge h hn), nI_clamp (show k < 2 ^ 31 by omega)]
theorem rAddM_put (M : jM) (b : Nat) (c v w : Int32) : rPutA M (b + 1) 128 (c * nI 32 + v) (rAt (M (b + 1)) 128 (c * nI 32 + v) + w) = rAddM M b c v w := by
  unfold rPutA rAddM rAt
  split
  · rfl
  · split
    · rfl
    · rfl
theorem jup_jup {α : Type} (M : Nat → Nat → α) (a k : Nat) (v w : α) : jup (jup M a k v) a k w = jup M a k w := by
  funext x j
  simp only [jup]
  split <;> rfl
/-- the oldest state has come up to place k -/
def jrotS (R : jR) (h k : Nat) : jR := jup (jrotK R h k) (h + 1) k (some (sa R h 0))
theorem jrotS_0 {R : jR} {h : Nat} (H : SH R h) : jrotS R h 0 = R := by
  rw [jrotS, jrotK_0, ← H.at (show 0 < 4 by decide)]
  funext x j
  simp only [jup]
  split
  · rename_i q
    rw [q.1, q.2]
  · rfl
theorem jrotS_s {R : jR} {h k : Nat} (H : SH R h) (hk : k < 3) : jup (jup (jrotS R h k) (h + 1) k (some (sa R h (k + 1)))) (h + 1) (k + 1) (some (sa R h 0)) = jrotS R h (k + 1) := by
  rw [jrotS, jup_jup, jrotK_s R h k (H.at (show k + 1 < 4 by omega))]
  rfl
