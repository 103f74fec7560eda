def gT1 (N : jM) (m t : Nat) (b : Int32) : jM :=
  jup (jup (jup N (m + 1) 6 (N (m + 1) 6 + nI 1)) (m + 1) (307 + 10 * t + 9) (jup N (m + 1) 6 (N (m + 1) 6 + nI 1) (m + 1) (307 + 10 * t + 9) + nI 1)) (m + 1) 7
    (jup (jup N (m + 1) 6 (N (m + 1) 6 + nI 1)) (m + 1) (307 + 10 * t + 9) (jup N (m + 1) 6 (N (m + 1) 6 + nI 1) (m + 1) (307 + 10 * t + 9) + nI 1) (m + 1) 7 + b)
def gCo (N : jM) (m t r w : Nat) (b : Int32) : Int32 := zC1 (gT1 N m t b (m + 1)) (gT1 N m t b (m + 4)) t r w
def gT2 (N : jM) (m t r w : Nat) (o e b num how : Int32) : jM := mTl (gT1 N m t b) m o num (nI w) e (gCo N m t r w b) how
def gS (T : jM) (m : Nat) (c e : Int32) : Int32 := if c ≤ T (m + 1) 13 * e then nI 0 else nI 1
def gT3 (T : jM) (m : Nat) (s : Int32) : jM := jup (jup T (m + 1) 27 s) (m + 1) 9 (jup T (m + 1) 27 s (m + 1) 9 + s)
def gU1 (T : jM) (m q : Nat) : jM := jup T (m + 1) (367 + 9 * q + 5) (T (m + 1) (367 + 9 * q + 5) + nI 1)
def gU2 (T : jM) (m q : Nat) : jM := jup T (m + 1) (367 + 9 * q + 8) (T (m + 1) 6)
def gU3 (T : jM) (m q : Nat) (s : Int32) : jM := jup T (m + 1) (367 + 9 * q + 6) (T (m + 1) (367 + 9 * q + 6) + s)
def gT4 (T : jM) (m q : Nat) (s : Int32) : jM := gU3 (gU2 (gU1 T m q) m q) m q s
def gT5 (T : jM) (m n q : Nat) : jM := if T (m + 1) (367 + 9 * q + 6) < T (m + 1) 14 then T else jup (mOut T m n q) (m + 1) 10 (mOut T m n q (m + 1) 10 + nI 1)
def gEnd (T : jM) (m n q : Nat) (s : Int32) : jM := if s = nI 0 then gT4 (gT3 T m s) m q s else gT5 (gT4 (gT3 T m s) m q s) m n q
/-- behind a run with a kept plan at place q -/
def gTA (N : jM) (m t r w n q : Nat) (o e b num how : Int32) : jM := gEnd (gT2 N m t r w o e b num how) m n q (gS (gT2 N m t r w o e b num how) m (gCo N m t r w b) e)
/-- behind a run with no kept plan -/
def gTB (N : jM) (m t r w : Nat) (o e b num how : Int32) : jM := gT3 (gT2 N m t r w o e b num how) m (gS (gT2 N m t r w o e b num how) m (gCo N m t r w b) e)
theorem gT1_s (N : jM) {m t j : Nat} {b : Int32} (h6 : j ≠ 6) (h7 : j ≠ 7) (ht : j ≠ 307 + 10 * t + 9) : gT1 N m t b (m + 1) j = N (m + 1) j := by
  unfold gT1
  rw [jup_nk _ _ h7, jup_nk _ _ ht, jup_nk _ _ h6]
theorem gT2_s (N : jM) {m t r w j : Nat} {o e b num how : Int32} (h6 : j ≠ 6) (h7 : j ≠ 7) (ht : j ≠ 307 + 10 * t + 9) (h21 : j < 21 ∨ 26 < j) : gT2 N m t r w o e b num how (m + 1) j = N (m + 1) j := by
  unfold gT2 mTl
  rw [jup_nk _ _ (by omega), jup_nk _ _ (by omega), jup_nk _ _ (by omega), jup_nk _ _ (by omega), jup_nk _ _ (by omega), jup_nk _ _ (by omega), gT1_s N h6 h7 ht]
theorem gT34_4 {T : jM} {m q : Nat} {s : Int32} : gT4 (gT3 T m s) m q s (m + 1) 4 = T (m + 1) 4 := by
  unfold gT4 gU3 gU2 gU1 gT3
  rw [jup_nk _ _ (by omega), jup_nk _ _ (by omega), jup_nk _ _ (by omega), jup_nk _ _ (by omega), jup_nk _ _ (by omega)]
theorem zSt_cong {S S' : Nat → Int32} {t n : Nat} (h : zSt S t n) (e : ∀ j, 307 + 10 * t ≤ j → j < 307 + 10 * t + 9 → S' j = S j) : zSt S' t n := by
  obtain ⟨h1, h2, h3, h4, h5⟩ := h
  refine ⟨h1, by rw [e _ (by omega) (by omega)]; exact h2, h3, h4, fun k hk => ?_⟩
  have e1 : S' (307 + 10 * t + 1 + k) = S (307 + 10 * t + 1 + k) := e _ (by omega) (by omega)
  have e2 : zCol S' t k = zCol S t k := by unfold zCol; rw [e1]
  rw [e1, e2]
  exact h5 k hk
