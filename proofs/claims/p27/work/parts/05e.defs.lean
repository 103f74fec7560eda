theorem j_mem {X : jX} {ω : jW} {γ : jG} {M : jM} {R : jR} {cells slots pc : Nat} {l : List (Nat × Value)} {st : List Value} (M' : jM) (h : M = M') (k : J X ω γ M' R cells slots pc l st) : J X ω γ M R cells slots pc l st := h ▸ k
theorem rPut_o (M : jM) {b x : Nat} {r w v : Int32} (h : x ≠ b + 1) : rPut M b r w v x = M x := by
  unfold rPut
  split
  · rfl
  · split
    · rfl
    · exact jup_row _ _ h
theorem rPutV_o (M : jM) {b v x : Nat} {r : Int32} (h : x ≠ b + 1) : ∀ k, rPutV M b v r k x = M x
  | 0 => rfl
  | k + 1 => by rw [rPutV, rPut_o _ h, rPutV_o M h k]
theorem rAddM_o (M : jM) {b x : Nat} {c v w : Int32} (h : x ≠ b + 1) : rAddM M b c v w x = M x := by
  unfold rAddM
  split
  · rfl
  · split
    · rfl
    · exact jup_row _ _ h
theorem rATS_o (M : jM) {b x : Nat} {r w : Int32} (h : x ≠ b + 3) : ∀ k, rATS M b r w k x = M x
  | 0 => rfl
  | k + 1 => by rw [rATS, rAddM_o _ (by omega), rATS_o M h k]
theorem rAddTo_o (M : jM) {b x : Nat} {r w : Int32} (h : x ≠ b + 2) (h3 : x ≠ b + 3) : rAddTo M b r w x = M x := by
  rw [rAddTo, jup_row _ _ h, rATS_o _ h3]
theorem rShift_0 (M : jM) (b r : Nat) : rShift M b r (r * 5) = M := by
  funext x j
  simp only [rShift]
  rw [if_neg (by omega)]
theorem rShift_o (M : jM) {b r p x : Nat} (h : x ≠ b + 1) : rShift M b r p x = M x := funext fun j => if_neg fun q => h q.1
theorem rShift_s (M : jM) {b r p : Nat} (h : r * 5 ≤ p) : jup (rShift M b r p) (b + 1) p (rShift M b r p (b + 1) (p + 5)) = rShift M b r (p + 1) := by
  have e : rShift M b r p (b + 1) (p + 5) = M (b + 1) (p + 5) := if_neg (by omega)
  rw [e]
  funext x j
  simp only [jup, rShift]
  by_cases hx : x = b + 1
  · subst hx
    by_cases hj : j = p
    · subst hj
      simp [h]
    · by_cases h2 : r * 5 ≤ j ∧ j < p
      · simp [hj, h2, show j < p + 1 by omega]
      · rw [if_neg (by omega), if_neg (by omega), if_neg (by omega)]
  · simp [hx]
def rNewP (M : jM) (R : jR) (b : Nat) (cap : Int32) (n : Nat) : Nat := if cap ≤ M b 2 then b + 2 else if M b 2 < nI 8 then pa R b n else b + 2
def rNewM (M : jM) (R : jR) (b : Nat) (s c cap : Int32) (n : Nat) : jM :=
  if cap ≤ M b 2 then rPBegin M (b + 2) (-4) s c
  else if M b 2 < nI 8 then
    jup (jup (rPBegin M (pa R b n) (M b 3) s c) b 2 (rPBegin M (pa R b n) (M b 3) s c b 2 + nI 1)) b 3 (jup (rPBegin M (pa R b n) (M b 3) s c) b 2 (rPBegin M (pa R b n) (M b 3) s c b 2 + nI 1) b 3 + nI 1)
  else rPBegin M (b + 2) (-4) s c
