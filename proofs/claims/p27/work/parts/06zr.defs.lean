section USE
variable {A Z : jM} {RA : jR} {a u v n k p m t r w q : Nat} {f : Nat → Nat} {o e b num how C : Int32}
theorem use7_eq (hp : a + 13 ≤ p) (hp2 : p < a + 22) (hC : ∀ W : jM, (∀ x, x ≠ p → x ≠ a + 22 → W x = A x) → rCost W (a + 3) u v (A p 3) = C) :
    rUse7 A a p u v = jup (jup (jup (jup (jup (jup (jup A p 5 (A p 5 + nI 1)) p 8 (A a 9)) (a + 22) 4 (A p 0)) (a + 22) 5 (A p 3)) (a + 22) 6 (A p 4)) (a + 22) 7 C) (a + 22) 9 (if C ≤ A (a + 24) 2 * A p 4 then nI 0 else nI 1) := by
  have a1 : jup A p 5 (A p 5 + nI 1) a 9 = A a 9 := jup_na _ _ (by omega)
  have a2 : jup (jup A p 5 (A p 5 + nI 1)) p 8 (A a 9) p 0 = A p 0 := by rw [jup_nk _ _ (by decide), jup_nk _ _ (by decide)]
  have a3 : jup (jup (jup A p 5 (A p 5 + nI 1)) p 8 (A a 9)) (a + 22) 4 (A p 0) p 3 = A p 3 := by rw [jup_na _ _ (by omega), jup_nk _ _ (by decide), jup_nk _ _ (by decide)]
  have a4 : jup (jup (jup (jup A p 5 (A p 5 + nI 1)) p 8 (A a 9)) (a + 22) 4 (A p 0)) (a + 22) 5 (A p 3) p 4 = A p 4 := by rw [jup_na _ _ (by omega), jup_na _ _ (by omega), jup_nk _ _ (by decide), jup_nk _ _ (by decide)]
  have a5 : jup (jup (jup (jup (jup A p 5 (A p 5 + nI 1)) p 8 (A a 9)) (a + 22) 4 (A p 0)) (a + 22) 5 (A p 3)) (a + 22) 6 (A p 4) p 3 = A p 3 := by rw [jup_na _ _ (by omega), jup_na _ _ (by omega), jup_na _ _ (by omega), jup_nk _ _ (by decide), jup_nk _ _ (by decide)]
  have a6 := hC (jup (jup (jup (jup (jup A p 5 (A p 5 + nI 1)) p 8 (A a 9)) (a + 22) 4 (A p 0)) (a + 22) 5 (A p 3)) (a + 22) 6 (A p 4)) (fun x h1 h2 => by rw [jup_row _ _ h2, jup_row _ _ h2, jup_row _ _ h2, jup_row _ _ h1, jup_row _ _ h1])
  have a7 : jup (jup (jup (jup (jup (jup A p 5 (A p 5 + nI 1)) p 8 (A a 9)) (a + 22) 4 (A p 0)) (a + 22) 5 (A p 3)) (a + 22) 6 (A p 4)) (a + 22) 7 C (a + 22) 7 = C := jup_eq _ _ _ _
  have a8 : jup (jup (jup (jup (jup (jup A p 5 (A p 5 + nI 1)) p 8 (A a 9)) (a + 22) 4 (A p 0)) (a + 22) 5 (A p 3)) (a + 22) 6 (A p 4)) (a + 22) 7 C (a + 24) 2 = A (a + 24) 2 := by rw [jup_na _ _ (by omega), jup_na _ _ (by omega), jup_na _ _ (by omega), jup_na _ _ (by omega), jup_na _ _ (by omega), jup_na _ _ (by omega)]
  have a9 : jup (jup (jup (jup (jup (jup A p 5 (A p 5 + nI 1)) p 8 (A a 9)) (a + 22) 4 (A p 0)) (a + 22) 5 (A p 3)) (a + 22) 6 (A p 4)) (a + 22) 7 C p 4 = A p 4 := by rw [jup_na _ _ (by omega), jup_na _ _ (by omega), jup_na _ _ (by omega), jup_na _ _ (by omega), jup_nk _ _ (by decide), jup_nk _ _ (by decide)]
  unfold rUse7
  simp only [a1, a2, a3, a4, a5, a6, a7, a8, a9]
/-- what a use lays down, ahead of a surprise -/
theorem use7_at (hp : a + 13 ≤ p) (hp2 : p < a + 22) (hC : ∀ W : jM, (∀ x, x ≠ p → x ≠ a + 22 → W x = A x) → rCost W (a + 3) u v (A p 3) = C) :
    rUse7 A a p u v p 5 = A p 5 + nI 1 ∧ rUse7 A a p u v p 8 = A a 9 ∧ (∀ j, j ≠ 5 → j ≠ 8 → rUse7 A a p u v p j = A p j) ∧ rUse7 A a p u v (a + 22) 4 = A p 0 ∧ rUse7 A a p u v (a + 22) 5 = A p 3 ∧ rUse7 A a p u v (a + 22) 6 = A p 4 ∧ rUse7 A a p u v (a + 22) 7 = C ∧
      rUse7 A a p u v (a + 22) 9 = (if C ≤ A (a + 24) 2 * A p 4 then nI 0 else nI 1) ∧ (∀ j, j < 4 ∨ j = 8 ∨ j = 10 → rUse7 A a p u v (a + 22) j = A (a + 22) j) ∧ ∀ x, x ≠ p → x ≠ a + 22 → rUse7 A a p u v x = A x := by
  rw [use7_eq hp hp2 hC]
  refine ⟨?_, ?_, fun j h1 h2 => ?_, ?_, ?_, ?_, ?_, ?_, fun j hj => ?_, fun x h1 h2 => ?_⟩
  · rw [jup_na _ _ (by omega), jup_na _ _ (by omega), jup_na _ _ (by omega), jup_na _ _ (by omega), jup_na _ _ (by omega), jup_nk _ _ (by decide), jup_eq]
  · rw [jup_na _ _ (by omega), jup_na _ _ (by omega), jup_na _ _ (by omega), jup_na _ _ (by omega), jup_na _ _ (by omega), jup_eq]
  · rw [jup_na _ _ (by omega), jup_na _ _ (by omega), jup_na _ _ (by omega), jup_na _ _ (by omega), jup_na _ _ (by omega), jup_nk _ _ h2, jup_nk _ _ h1]
  · rw [jup_nk _ _ (by decide), jup_nk _ _ (by decide), jup_nk _ _ (by decide), jup_nk _ _ (by decide), jup_eq]
  · rw [jup_nk _ _ (by decide), jup_nk _ _ (by decide), jup_nk _ _ (by decide), jup_eq]
  · rw [jup_nk _ _ (by decide), jup_nk _ _ (by decide), jup_eq]
  · rw [jup_nk _ _ (by decide), jup_eq]
  · rw [jup_eq]
  · rw [jup_nk _ _ (by omega), jup_nk _ _ (by omega), jup_nk _ _ (by omega), jup_nk _ _ (by omega), jup_nk _ _ (by omega), jup_na _ _ (by omega), jup_na _ _ (by omega)]
  · rw [jup_row _ _ h2, jup_row _ _ h2, jup_row _ _ h2, jup_row _ _ h2, jup_row _ _ h2, jup_row _ _ h1, jup_row _ _ h1]
/-- the model's telling -/
theorem gT2_at (ht : t < 6) : gT2 Z m t r w o e b num how (m + 1) 6 = Z (m + 1) 6 + nI 1 ∧ gT2 Z m t r w o e b num how (m + 1) 7 = Z (m + 1) 7 + b ∧ gT2 Z m t r w o e b num how (m + 1) (307 + 10 * t + 9) = Z (m + 1) (307 + 10 * t + 9) + nI 1 ∧
    gT2 Z m t r w o e b num how (m + 1) 21 = o ∧ gT2 Z m t r w o e b num how (m + 1) 22 = num ∧ gT2 Z m t r w o e b num how (m + 1) 23 = nI w ∧ gT2 Z m t r w o e b num how (m + 1) 24 = e ∧ gT2 Z m t r w o e b num how (m + 1) 25 = gCo Z m t r w b ∧ gT2 Z m t r w o e b num how (m + 1) 26 = how := by
  refine ⟨?_, ?_, ?_, ?_, ?_, ?_, ?_, ?_, ?_⟩
  · unfold gT2 mTl gT1
    rw [jup_nk _ _ (by decide), jup_nk _ _ (by decide), jup_nk _ _ (by decide), jup_nk _ _ (by decide), jup_nk _ _ (by decide), jup_nk _ _ (by decide), jup_nk _ _ (by decide), jup_nk _ _ (by omega), jup_eq]
  · unfold gT2 mTl gT1
    rw [jup_nk _ _ (by decide), jup_nk _ _ (by decide), jup_nk _ _ (by decide), jup_nk _ _ (by decide), jup_nk _ _ (by decide), jup_nk _ _ (by decide), jup_eq, jup_nk _ _ (by omega), jup_nk _ _ (by decide)]
  · unfold gT2 mTl gT1
    rw [jup_nk _ _ (by omega), jup_nk _ _ (by omega), jup_nk _ _ (by omega), jup_nk _ _ (by omega), jup_nk _ _ (by omega), jup_nk _ _ (by omega), jup_nk _ _ (by omega), jup_eq, jup_nk _ _ (by omega)]
  · unfold gT2 mTl
    rw [jup_nk _ _ (by decide), jup_nk _ _ (by decide), jup_nk _ _ (by decide), jup_nk _ _ (by decide), jup_nk _ _ (by decide), jup_eq]
  · unfold gT2 mTl
    rw [jup_nk _ _ (by decide), jup_nk _ _ (by decide), jup_nk _ _ (by decide), jup_nk _ _ (by decide), jup_eq]
  · unfold gT2 mTl
    rw [jup_nk _ _ (by decide), jup_nk _ _ (by decide), jup_nk _ _ (by decide), jup_eq]
  · unfold gT2 mTl
    rw [jup_nk _ _ (by decide), jup_nk _ _ (by decide), jup_eq]
  · unfold gT2 mTl
    rw [jup_nk _ _ (by decide), jup_eq]
  · unfold gT2 mTl
    rw [jup_eq]
theorem gT3_at (T : jM) (s : Int32) : gT3 T m s (m + 1) 27 = s ∧ gT3 T m s (m + 1) 9 = T (m + 1) 9 + s ∧ ∀ j, j ≠ 27 → j ≠ 9 → gT3 T m s (m + 1) j = T (m + 1) j := by
  unfold gT3
  exact ⟨by rw [jup_nk _ _ (by decide), jup_eq], by rw [jup_eq, jup_nk _ _ (by decide)], fun j h1 h2 => by rw [jup_nk _ _ h2, jup_nk _ _ h1]⟩
theorem gT4_at (T : jM) (s : Int32) : gT4 T m q s (m + 1) (367 + 9 * q + 5) = T (m + 1) (367 + 9 * q + 5) + nI 1 ∧ gT4 T m q s (m + 1) (367 + 9 * q + 8) = T (m + 1) 6 ∧ gT4 T m q s (m + 1) (367 + 9 * q + 6) = T (m + 1) (367 + 9 * q + 6) + s ∧ ∀ j, j ≠ 367 + 9 * q + 5 → j ≠ 367 + 9 * q + 8 → j ≠ 367 + 9 * q + 6 → gT4 T m q s (m + 1) j = T (m + 1) j := by
  unfold gT4 gU3 gU2 gU1
  refine ⟨?_, ?_, ?_, fun j h1 h2 h3 => ?_⟩
  · rw [jup_nk _ _ (by omega), jup_nk _ _ (by omega), jup_eq]
  · rw [jup_nk _ _ (by omega), jup_eq, jup_nk _ _ (by omega)]
  · rw [jup_eq, jup_nk _ _ (by omega), jup_nk _ _ (by omega)]
  · rw [jup_nk _ _ h3, jup_nk _ _ h2, jup_nk _ _ h1]
/-- a kept plan is used: class and model -/
def uRes (A : jM) (RA : jR) (a n p m q : Nat) (Z F : jM) (RF : jR) (G : jM) (C : Int32) : Prop :=
  ∃ (n2 : Nat) (f2 g2 : Nat → Nat) (s d : Int32), n2 ≤ n ∧ eBij f2 n2 ∧ eWds F RF (a + 11) (G (m + 1)) n2 f2 ∧ (∀ j, j < n2 → g2 j < n) ∧ (∀ i j, i < n2 → j < n2 → g2 i = g2 j → i = j) ∧
    (∀ j, j < n2 → (∀ y, (y < 5 ∨ y = 7) → G (m + 1) (367 + 9 * j + y) = Z (m + 1) (367 + 9 * g2 j + y)) ∧ (g2 j ≠ q → G (m + 1) (367 + 9 * j + 5) = Z (m + 1) (367 + 9 * g2 j + 5) ∧ G (m + 1) (367 + 9 * j + 8) = Z (m + 1) (367 + 9 * g2 j + 8)) ∧ (g2 j = q → G (m + 1) (367 + 9 * j + 5) = Z (m + 1) (367 + 9 * g2 j + 5) + nI 1 ∧ G (m + 1) (367 + 9 * j + 8) = Z (m + 1) 6 + nI 1)) ∧
    F (a + 11) 2 = nI n2 ∧ G (m + 1) 4 = nI n2 ∧ F (a + 11) 5 = A (a + 11) 5 + d ∧ G (m + 1) 10 = Z (m + 1) 10 + d ∧ isB s ∧ F a 11 = A a 11 + s ∧ G (m + 1) 9 = Z (m + 1) 9 + s ∧ F (a + 22) 9 = s ∧ G (m + 1) 27 = s ∧
    (∀ x, x ≠ p → x ≠ a → x ≠ a + 11 → x ≠ a + 22 → F x = A x) ∧ (∀ j, j ≠ 11 → F a j = A a j) ∧ (∀ j, j ≠ 2 → j ≠ 5 → F (a + 11) j = A (a + 11) j) ∧ F p 7 = A p 7 ∧ F (a + 22) 4 = A p 0 ∧ F (a + 22) 5 = A p 3 ∧ F (a + 22) 6 = A p 4 ∧ F (a + 22) 7 = C ∧ (∀ j, j < 4 ∨ j = 8 ∨ j = 10 → F (a + 22) j = A (a + 22) j) ∧
    SR RF (a + 11) ∧ (∀ x, x ≠ a + 12 → RF x = RA x)
theorem gTA_f {j : Nat} (hj : j < 367) (h4 : j ≠ 4) (h9 : j ≠ 9) (h10 : j ≠ 10) (h27 : j ≠ 27) : gTA Z m t r w n q o e b num how (m + 1) j = gT2 Z m t r w o e b num how (m + 1) j := by
  have key : ∀ T : jM, ∀ s : Int32, gT4 (gT3 T m s) m q s (m + 1) j = T (m + 1) j := fun T s => by
    rw [(gT4_at _ _).2.2.2 j (by omega) (by omega) (by omega), (gT3_at _ _).2.2 j h27 h9]
  unfold gTA gEnd
  split
  · exact key _ _
  · unfold gT5
    split
    · exact key _ _
    · rw [jup_nk _ _ h10, mOut_l _ hj h4, key]
theorem use_k (hn : n ≤ 8) (hk : k < n) (hR : SR RA (a + 11)) (hf : eBij f n) (hp : pa RA (a + 11) k = p) (hq : f k = q) (h2 : A (a + 11) 2 = nI n) (h4 : Z (m + 1) 4 = nI n) (hw : ∀ i, i < n → ∀ y, y < 9 → (i = k → y ≠ 8) → A (pa RA (a + 11) i) y = Z (m + 1) (367 + 9 * f i + y)) (hnum : ∀ i j, i < n → j < n → Z (m + 1) (367 + 9 * i) = Z (m + 1) (367 + 9 * j) → i = j)
    (hC : ∀ W : jM, (∀ x, x ≠ p → x ≠ a + 22 → W x = A x) → rCost W (a + 3) u v (A p 3) = C) (hC2 : gCo Z m t r w b = C) (g2 : A (a + 24) 2 = Z (m + 1) 13) (g3 : A (a + 24) 3 = Z (m + 1) 14) (g9 : A a 9 = Z (m + 1) 6 + nI 1) (he : A p 4 = e) (ht : t < 6) :
    uRes A RA a n p m q Z (rUseM A RA a p u v n) (rUseR A RA a p u v n) (gTA Z m t r w n q o e b num how) C := by
  have hrg : ∀ i, i < 8 → a + 14 ≤ pa RA (a + 11) i ∧ pa RA (a + 11) i < a + 22 := fun i hi => by
    obtain ⟨j, hj, e⟩ := hR.rg hi
    omega
  have hpr := hrg k (by omega)
  rw [hp] at hpr
  have hqn : q < n := by rw [← hq]; exact hf.1 k hk
  obtain ⟨u1, u2, u3, u4, u5, u6, u7, u8, u9, u10⟩ := use7_at (u := u) (v := v) (by omega) hpr.2 hC
  obtain ⟨t1, t2, t3, t4, t5, t6, t7, t8, t9⟩ := gT2_at (Z := Z) (m := m) (r := r) (w := w) (o := o) (e := e) (b := b) (num := num) (how := how) ht
  have tz : ∀ j, j ≠ 6 → j ≠ 7 → j ≠ 307 + 10 * t + 9 → (j < 21 ∨ 26 < j) → gT2 Z m t r w o e b num how (m + 1) j = Z (m + 1) j := fun j a1 a2 a3 a4 => gT2_s Z a1 a2 a3 a4
  generalize hT : gT2 Z m t r w o e b num how = T at *
  generalize hU : rUse7 A a p u v = U at *
  have eG : gTA Z m t r w n q o e b num how = gEnd T m n q (gS T m C e) := by unfold gTA; rw [hT, hC2]
  have es : gS T m C e = U (a + 22) 9 := by
    unfold gS
    rw [u8, tz 13 (by decide) (by decide) (by omega) (by decide), g2, he]
  have sB : isB (gS T m C e) := by
    unfold gS
    split
    · exact Or.inl rfl
    · exact Or.inr rfl
  generalize gS T m C e = s at *
  -- the model ahead of a throw
  obtain ⟨x1, x2, x3⟩ := gT3_at (m := m) T s
  obtain ⟨w1, w2, w3, w4⟩ := gT4_at (m := m) (q := q) (gT3 T m s) s
  have W5 : gT4 (gT3 T m s) m q s (m + 1) (367 + 9 * q + 5) = Z (m + 1) (367 + 9 * q + 5) + nI 1 := by rw [w1, x3 _ (by omega) (by omega), tz _ (by omega) (by omega) (by omega) (by omega)]
  have W8 : gT4 (gT3 T m s) m q s (m + 1) (367 + 9 * q + 8) = Z (m + 1) 6 + nI 1 := by rw [w2, x3 _ (by decide) (by decide), t1]
  have W6 : gT4 (gT3 T m s) m q s (m + 1) (367 + 9 * q + 6) = Z (m + 1) (367 + 9 * q + 6) + s := by rw [w3, x3 _ (by omega) (by omega), tz _ (by omega) (by omega) (by omega) (by omega)]
  have Wo : ∀ i y, y < 9 → (i ≠ q ∨ (y ≠ 5 ∧ y ≠ 6 ∧ y ≠ 8)) → gT4 (gT3 T m s) m q s (m + 1) (367 + 9 * i + y) = Z (m + 1) (367 + 9 * i + y) := fun i y hy h => by rw [w4 _ (by omega) (by omega) (by omega), x3 _ (by omega) (by omega), tz _ (by omega) (by omega) (by omega) (by omega)]
  have Ws : ∀ j, j < 367 → j ≠ 27 → j ≠ 9 → gT4 (gT3 T m s) m q s (m + 1) j = T (m + 1) j := fun j h1 h2 h3 => by rw [w4 _ (by omega) (by omega) (by omega), x3 _ h2 h3]
  have W27 : gT4 (gT3 T m s) m q s (m + 1) 27 = s := by rw [w4 _ (by omega) (by omega) (by omega), x1]
  have W9 : gT4 (gT3 T m s) m q s (m + 1) 9 = Z (m + 1) 9 + s := by rw [w4 _ (by omega) (by omega) (by omega), x2, tz _ (by decide) (by decide) (by omega) (by decide)]
  have Wz : ∀ j, j ≠ 6 → j ≠ 7 → j ≠ 307 + 10 * t + 9 → (j < 21 ∨ 27 < j) → j < 367 → j ≠ 9 → gT4 (gT3 T m s) m q s (m + 1) j = Z (m + 1) j := fun j a1 a2 a3 a4 a5 a6 => by rw [Ws j a5 (by omega) a6, tz j a1 a2 a3 (by omega)]
  -- the class ahead of a throw
  have key : ∃ X : jM, (∀ n', s = 0 → rUseM A RA a p u v n' = X ∧ rUseR A RA a p u v n' = RA) ∧ (∀ n', ¬ s = 0 → rUseM A RA a p u v n' = (if X p 6 < X (a + 24) 3 then X else rThrM X (a + 11) n' (rFirst (qNum X RA (a + 11) (X p 0)) n')) ∧ rUseR A RA a p u v n' = (if X p 6 < X (a + 24) 3 then RA else rThrR RA (a + 11) n' (rFirst (qNum X RA (a + 11) (X p 0)) n'))) ∧
      X p 5 = A p 5 + nI 1 ∧ X p 8 = A a 9 ∧ X p 6 = A p 6 + s ∧ (∀ j, j ≠ 5 → j ≠ 6 → j ≠ 8 → X p j = A p j) ∧ (∀ j, X (a + 22) j = U (a + 22) j) ∧ X a 11 = A a 11 + s ∧ (∀ j, j ≠ 11 → X a j = A a j) ∧ ∀ x, x ≠ p → x ≠ a → x ≠ a + 22 → X x = A x := by
    by_cases c : s = 0
    · refine ⟨U, fun n' _ => ⟨?_, ?_⟩, fun _ h => absurd c h, u1, u2, ?_, fun j a1 a2 a3 => u3 j a1 a3, fun _ => rfl, ?_, fun j _ => by rw [u10 a (by omega) (by omega)], fun x a1 a2 a3 => u10 x a1 a3⟩
      · unfold rUseM
        rw [hU, ← es, if_pos c]
      · unfold rUseR
        rw [hU, ← es, if_pos c]
      · rw [u3 _ (by decide) (by decide), c, Int32.add_zero]
      · rw [u10 a (by omega) (by omega), c, Int32.add_zero]
    · have s1 : s = nI 1 := sB.n1 c
      refine ⟨rSur2 U a p, fun _ h => absurd h c, fun n' _ => ⟨?_, ?_⟩, ?_, ?_, ?_, fun j a1 a2 a3 => ?_, fun j => ?_, ?_, fun j a1 => ?_, fun x a1 a2 a3 => ?_⟩
      · unfold rUseM
        rw [hU, ← es, if_neg c]
        rfl
      · unfold rUseR
        rw [hU, ← es, if_neg c]
        rfl
      · unfold rSur2
        rw [jup_nk _ _ (by decide), jup_na _ _ (by omega), u1]
      · unfold rSur2
        rw [jup_nk _ _ (by decide), jup_na _ _ (by omega), u2]
      · unfold rSur2
        rw [jup_eq, jup_na _ _ (by omega), u3 _ (by decide) (by decide), s1]
      · unfold rSur2
        rw [jup_nk _ _ a2, jup_na _ _ (by omega), u3 _ a1 a3]
      · unfold rSur2
        rw [jup_na _ _ (by omega), jup_na _ _ (by omega)]
      · unfold rSur2
        rw [jup_na _ _ (by omega), jup_eq, u10 a (by omega) (by omega), s1]
      · unfold rSur2
        rw [jup_na _ _ (by omega), jup_nk _ _ a1, u10 a (by omega) (by omega)]
      · unfold rSur2
        rw [jup_row _ _ a1, jup_row _ _ a2, u10 x a1 a3]
  obtain ⟨X, k0, k1, y5, y8, y6, yp, yl, y11, ya, yx⟩ := key
  have hwd : eWds X RA (a + 11) (gT4 (gT3 T m s) m q s (m + 1)) n f := fun i hi y hy => by
    have hl := hrg i (by omega)
    by_cases d : i = k
    · subst d
      rw [hp, hq]
      have ho := fun y' (h1 : y' < 9) (h2 : y' ≠ 8) => hw i hi y' h1 (fun _ => h2)
      rw [hp, hq] at ho
      by_cases d5 : y = 5
      · subst d5
        rw [y5, W5, ho 5 (by decide) (by decide)]
      · by_cases d8 : y = 8
        · subst d8
          rw [y8, W8, g9]
        · by_cases d6 : y = 6
          · subst d6
            rw [y6, W6, ho 6 (by decide) (by decide)]
          · rw [yp y d5 d6 d8, Wo q y hy (Or.inr ⟨d5, d6, d8⟩), ho y hy d8]
    · have dp : pa RA (a + 11) i ≠ p := fun e => d (hR.inj (by omega) (by omega) (by rw [e, hp]))
      have dq : f i ≠ q := fun e => d (hf.2 i k hi hk (by rw [e, hq]))
      rw [yx _ dp (by omega) (by omega), Wo _ y hy (Or.inl dq)]
      exact hw i hi y hy (fun e => absurd e d)
  by_cases hth : s = 0 ∨ X p 6 < X (a + 24) 3
  · have eF : rUseM A RA a p u v n = X ∧ rUseR A RA a p u v n = RA := by
      by_cases c : s = 0
      · exact k0 n c
      · have := k1 n c
        rw [if_pos (hth.resolve_left c), if_pos (hth.resolve_left c)] at this
        exact this
    have eG2 : gTA Z m t r w n q o e b num how = gT4 (gT3 T m s) m q s := by
      rw [eG, gEnd, nI_0]
      by_cases c : s = 0
      · rw [if_pos c]
      · rw [if_neg c, gT5, if_pos]
        have := hth.resolve_left c
        rw [W6, Wz 14 (by decide) (by decide) (by omega) (by decide) (by decide) (by decide), ← g3]
        rw [y6, yx _ (by omega) (by omega) (by omega)] at this
        have h6 := hw k hk 6 (by decide) (fun _ => by decide)
        rw [hp, hq] at h6
        rw [h6] at this
        exact this
    rw [eF.1, eF.2, eG2]
    refine ⟨n, f, id, s, 0, Nat.le_refl n, hf, hwd, fun j hj => hj, fun _ _ _ _ e => e, fun j hj => ⟨fun y hy => Wo j y (by omega) (by omega), fun h => ⟨Wo j 5 (by decide) (Or.inl h), Wo j 8 (by decide) (Or.inl h)⟩, fun h => ?_⟩, ?_, ?_, ?_, ?_, sB, y11, W9, ?_, W27, fun x h1 h2 h3 h4 => yx x h1 h2 h4, ya, fun j h1 h2 => ?_, yp 7 (by decide) (by decide) (by decide), ?_, ?_, ?_, ?_, fun j hj => ?_, hR, fun _ _ => rfl⟩
    · have h' : j = q := h
      subst h'
      exact ⟨W5, W8⟩
    · rw [yx _ (by omega) (by omega) (by omega)]; exact h2
    · rw [Wz 4 (by decide) (by decide) (by omega) (by decide) (by decide) (by decide)]; exact h4
    · rw [yx _ (by omega) (by omega) (by omega), Int32.add_zero]
    · rw [Wz 10 (by decide) (by decide) (by omega) (by decide) (by decide) (by decide), Int32.add_zero]
    · rw [yl, es]
    · rw [yx _ (by omega) (by omega) (by omega)]
    · rw [yl, u4]
    · rw [yl, u5]
    · rw [yl, u6]
    · rw [yl, u7]
    · rw [yl, u9 j hj]
  · have c : ¬ s = 0 := fun e => hth (Or.inl e)
    have c2 : ¬ X p 6 < X (a + 24) 3 := fun e => hth (Or.inr e)
    have eF := k1 n c
    rw [if_neg c2, if_neg c2] at eF
    have ne : ∀ i, i < n → X (pa RA (a + 11) i) 0 = Z (m + 1) (367 + 9 * f i) := fun i hi => by
      have := hwd i hi 0 (by decide)
      rw [Wo _ 0 (by decide) (Or.inr ⟨by decide, by decide, by decide⟩)] at this
      exact this
    have e0 : rFirst (qNum X RA (a + 11) (X p 0)) n = nI k := rFirst_yes hk (by rw [qNum, hp]; exact decide_eq_true rfl) (fun j hj => by
      rw [qNum, ← hp]
      refine decide_eq_false (fun e => ?_)
      rw [ne j (by omega), ne k hk] at e
      have := hf.2 j k (by omega) hk (hnum _ _ (hf.1 j (by omega)) (hf.1 k hk) e)
      omega)
    rw [e0] at eF
    have eF1 : rUseM A RA a p u v n = rThr X (a + 11) n := by rw [eF.1, rThrM, if_neg (nI_pos (by omega)), if_neg (nI_ge hk (by omega))]
    have eF2 : rUseR A RA a p u v n = jswap RA (a + 11) k (n - 1) := by rw [eF.2, rThrR, if_neg (nI_pos (by omega)), if_neg (nI_ge hk (by omega)), nI_clamp (by omega)]
    have eG2 : gTA Z m t r w n q o e b num how = jup (mOut (gT4 (gT3 T m s) m q s) m n q) (m + 1) 10 (mOut (gT4 (gT3 T m s) m q s) m n q (m + 1) 10 + nI 1) := by
      rw [eG, gEnd, nI_0, if_neg c, gT5, if_neg]
      intro h
      apply c2
      rw [W6, Wz 14 (by decide) (by decide) (by omega) (by decide) (by decide) (by decide), ← g3] at h
      rw [y6, yx _ (by omega) (by omega) (by omega)]
      have h6 := hw k hk 6 (by decide) (fun _ => by decide)
      rw [hp, hq] at h6
      rw [h6]
      exact h
    have Fo : ∀ x, x ≠ a + 11 → rThr X (a + 11) n x = X x := fun x hx => by rw [rThr, jup_row _ _ hx, rRem, jup_row _ _ hx]
    have sw : ∀ j, j < n - 1 → ∀ y, y < 9 → jup (mOut (gT4 (gT3 T m s) m q s) m n q) (m + 1) 10 (mOut (gT4 (gT3 T m s) m q s) m n q (m + 1) 10 + nI 1) (m + 1) (367 + 9 * j + y) = gT4 (gT3 T m s) m q s (m + 1) (367 + 9 * outG q j + y) := fun j hj y hy => by rw [jup_nk _ _ (by omega), mOut_w hqn hj hy, outG]
    have Gz : ∀ j, j < 367 → j ≠ 4 → j ≠ 10 → jup (mOut (gT4 (gT3 T m s) m q s) m n q) (m + 1) 10 (mOut (gT4 (gT3 T m s) m q s) m n q (m + 1) 10 + nI 1) (m + 1) j = gT4 (gT3 T m s) m q s (m + 1) j := fun j h1 h2 h3 => by rw [jup_nk _ _ h3, mOut_l _ h1 h2]
    rw [eF1, eF2, eG2]
    have og : ∀ j, outG q j ≠ q := fun j => by unfold outG; split <;> omega
    refine ⟨n - 1, remF f n k, outG q, s, nI 1, by omega, rem_bij hf hk, ?_, fun j hj => outG_lt hqn hj, fun _ _ _ _ e => outG_inj e, fun j hj => ⟨fun y hy => by rw [sw j hj y (by omega), Wo _ y (by omega) (Or.inl (og j))], fun h => ⟨by rw [sw j hj 5 (by decide), Wo _ 5 (by decide) (Or.inl (og j))], by rw [sw j hj 8 (by decide), Wo _ 8 (by decide) (Or.inl (og j))]⟩, fun h => absurd h (og j)⟩, rThr_k _ _ _, ?_, ?_, ?_, sB, ?_, ?_, ?_, ?_, fun x h1 h2 h3 h4 => by rw [Fo x h3, yx x h1 h2 h4], fun j hj => by rw [Fo _ (by omega), ya j hj], fun j h1 h2 => ?_, ?_, ?_, ?_, ?_, ?_, fun j hj => ?_, SR_swap hR (by omega) (by omega), fun x hx => ?_⟩
    · refine rem_wds hf hk hwd (fun i hi y hy => ?_) (fun j hj y hy => by rw [sw j hj y hy, hq]; rfl)
      have hl := hrg i (by omega)
      rw [Fo _ (by omega)]
    · rw [jup_nk _ _ (by decide), mOut_n]
    · rw [rThr, jup_eq, yx _ (by omega) (by omega) (by omega)]
    · rw [jup_eq, mOut_l _ (by decide) (by decide), Wz 10 (by decide) (by decide) (by omega) (by decide) (by decide) (by decide)]
    · rw [Fo _ (by omega), y11]
    · rw [Gz 9 (by decide) (by decide) (by decide), W9]
    · rw [Fo _ (by omega), yl, es]
    · rw [Gz 27 (by decide) (by decide) (by decide), W27]
    · rw [rThr, jup_nk _ _ h2, rRem, jup_nk _ _ h1, yx _ (by omega) (by omega) (by omega)]
    · rw [Fo _ (by omega), yp 7 (by decide) (by decide) (by decide)]
    · rw [Fo _ (by omega), yl, u4]
    · rw [Fo _ (by omega), yl, u5]
    · rw [Fo _ (by omega), yl, u6]
    · rw [Fo _ (by omega), yl, u7]
    · rw [Fo _ (by omega), yl, u9 j hj]
    · rw [jswap, jup_row _ _ (by omega), jup_row _ _ (by omega)]
end USE
