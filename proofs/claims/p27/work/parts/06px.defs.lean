theorem zCl_stop {cap : Int32} {m n : Nat} {N : jM} {f : Int32} (h : nI n < cap ∨ zLast (zDrp (N (m + 1)) n (nI 0)) n < 0) : zCl cap m n N f = (N, f, n) := by
  cases n with
  | zero => rfl
  | succ w =>
    simp only [zCl]
    by_cases h1 : cap ≤ nI (w + 1)
    · rw [if_pos h1]
      rcases h with h | h
      · exact absurd h (Int32.not_lt.mpr h1)
      · rw [if_neg (Int32.not_le.mpr h)]
    · rw [if_neg h1]
theorem zCl_go {cap : Int32} {m w q : Nat} {N : jM} {f : Int32} (h1 : ¬ nI (w + 1) < cap) (h2 : zLast (zDrp (N (m + 1)) (w + 1) (nI 0)) (w + 1) = nI q) (hq : q < 2 ^ 31) : zCl cap m (w + 1) N f = zCl cap m w (jup (mOut N m (w + 1) q) (m + 1) 8 (mOut N m (w + 1) q (m + 1) 8 + nI 1)) (if 0 ≤ f then f else N (m + 1) (367 + 9 * q + 0)) := by
  rw [zCl, if_pos (Int32.not_lt.mp h1), h2, if_pos (Int32.not_lt.mp (nI_pos hq)), nI_clamp hq]
/-- what is asked of the plans' words -/
def zPl (N : jM) (m n : Nat) : Prop := ∀ q, q < n → ∃ t w, t < 6 ∧ (w = 9 ∨ w < 4) ∧ N (m + 1) (367 + 9 * q + 1) = nI t ∧ N (m + 1) (367 + 9 * q + 3) = nI w
theorem zPl_out {N : jM} {m n p : Nat} (h : zPl N m n) (hp : p < n) : zPl (mOut N m n p) m (n - 1) := by
  intro q hq
  by_cases hqp : q < p
  · obtain ⟨t, w, h1, h2, h3, h4⟩ := h q (by omega)
    refine ⟨t, w, h1, h2, ?_, ?_⟩
    · simp only [mOut, zTo]
      rw [if_pos trivial, if_neg (by omega), if_neg (by omega), h3]
    · simp only [mOut, zTo]
      rw [if_pos trivial, if_neg (by omega), if_neg (by omega), h4]
  · obtain ⟨t, w, h1, h2, h3, h4⟩ := h (q + 1) (by omega)
    refine ⟨t, w, h1, h2, ?_, ?_⟩
    · simp only [mOut, zTo]
      rw [if_pos trivial, if_neg (by omega), if_pos (by omega), ← h3]
      congr 1
    · simp only [mOut, zTo]
      rw [if_pos trivial, if_neg (by omega), if_pos (by omega), ← h4]
      congr 1
def zGo (N : jM) (m : Nat) (c w : Int32) (p : Nat) : Bool := !decide (N (m + 1) (367 + 9 * p + 3) = nI 9) && decide (N (m + 1) (307 + 10 * (N (m + 1) (367 + 9 * p + 1)).toNatClampNeg + 1 + (N (m + 1) (367 + 9 * p + 3)).toNatClampNeg) = c) && decide (w = 0)
def zIx (m : Nat) (c w : Int32) : Nat → Nat → jM → Nat → jM × Nat × Nat
  | 0, n, N, k => (N, n, k)
  | p + 1, n, N, k => if zGo N m c w p = true then zIx m c w p (n - 1) (mOut N m n p) (k + 1) else zIx m c w p n N k
def zIxM (M : jM) (m np : Nat) (c : Int32) : jM := jup (mChg M m np) (m + 1) 1 (M (m + 1) 1 ^^^ (nI 1 <<< (c &&& 31)))
def zIxR (M : jM) (m np n : Nat) (c w : Int32) : jM × Nat × Nat := zIx m c w n n (zIxM M m np c) 0
def zfIndex (M : jM) (m np n : Nat) (c w : Int32) : Int32 := if rIn c (nI 0) (nI 3) = 0 then -1 else if rIn w (nI 0) (nI 1) = 0 then -1 else if zIdx (M (m + 1)) c = (if w = nI 1 then nI 1 else nI 0) then -2 else nI (zIxR M m np n c w).2.2
def zmIndex (M : jM) (m np n : Nat) (c w : Int32) : jM := if rIn c (nI 0) (nI 3) = 0 then M else if rIn w (nI 0) (nI 1) = 0 then M else if zIdx (M (m + 1)) c = (if w = nI 1 then nI 1 else nI 0) then M else jup (zIxR M m np n c w).1 (m + 1) 10 ((zIxR M m np n c w).1 (m + 1) 10 + nI (zIxR M m np n c w).2.2)
theorem zGo_t {N : jM} {m p t y : Nat} {c w : Int32} (h1 : N (m + 1) (367 + 9 * p + 1) = nI t) (h3 : N (m + 1) (367 + 9 * p + 3) = nI y) (ht : t < 6) (hy : y < 4) (h9 : ¬ nI y = nI 9) (hc : N (m + 1) (307 + 10 * t + 1 + y) = c) (hw : w = 0) : zGo N m c w p = true := by
  unfold zGo
  rw [h1, h3, nI_clamp (by omega), nI_clamp (by omega), decide_eq_false h9, decide_eq_true hc, decide_eq_true hw]
  rfl
theorem zGo_f1 {N : jM} {m p y : Nat} {c w : Int32} (h3 : N (m + 1) (367 + 9 * p + 3) = nI y) (h9 : nI y = nI 9) : ¬ zGo N m c w p = true := by
  unfold zGo
  rw [h3, decide_eq_true h9]
  simp
theorem zGo_f2 {N : jM} {m p t y : Nat} {c w : Int32} (h1 : N (m + 1) (367 + 9 * p + 1) = nI t) (h3 : N (m + 1) (367 + 9 * p + 3) = nI y) (ht : t < 6) (hy : y < 4) (hc : ¬ N (m + 1) (307 + 10 * t + 1 + y) = c) : ¬ zGo N m c w p = true := by
  unfold zGo
  rw [h1, h3, nI_clamp (by omega), nI_clamp (by omega), decide_eq_false hc]
  simp
theorem zGo_f3 {N : jM} {m p : Nat} {c w : Int32} (hw : ¬ w = 0) : ¬ zGo N m c w p = true := by
  unfold zGo
  rw [decide_eq_false hw]
  simp
