/-- the class's state block against the model's words: table and its sums -/
def eTab (M : jM) (a : Nat) (S : Nat → Int32) (r : Nat) : Prop := M (a + 1) 2 = nI r ∧ S 0 = nI r ∧ r ≤ 30 ∧ (∀ k, k < r → ∀ w, w < 5 → M (a + 2) (5 * k + w) = S (29 + 5 * k + w)) ∧
  zRows S r ∧ (∀ k, k < r → ∃ v, 1 ≤ v ∧ v ≤ 999 ∧ S (29 + 5 * k + 4) = nI v)
def eOne (S : Nat → Int32) (c v k : Nat) : Int32 := if S (29 + 5 * k + c) = nI v then S (29 + 5 * k + 4) else nI 0
def eSum (M : jM) (a : Nat) (S : Nat → Int32) (r : Nat) : Prop := (∀ c, c < 4 → ∀ v, v < 32 → M (a + 4) (32 * c + v) = sI (eOne S c v) r) ∧ M (a + 3) 1 = sI (zRowW S) r
def eKno (M : jM) (a : Nat) (S : Nat → Int32) : Prop := (∀ i, i < 128 → M (a + 6) i = S (179 + i)) ∧ M (a + 5) 1 = S 2
def eStm (M : jM) (a : Nat) (S : Nat → Int32) (c : Nat) : Prop := M a 8 = nI c ∧ S 3 = nI c ∧ c ≤ 6 ∧ ∀ t, t < c → zSt S t (zN S t) ∧ (∀ k, k < zN S t → ∃ o, o < 3 ∧ S (307 + 10 * t + 5 + k) = nI o) ∧
  M (a + 25 + 3 * t) 2 = S (307 + 10 * t) ∧ M (a + 25 + 3 * t) 3 = S (307 + 10 * t + 9) ∧ ∀ k, k < zN S t → M (a + 25 + 3 * t + 1) k = S (307 + 10 * t + 1 + k) ∧ M (a + 25 + 3 * t + 2) k = S (307 + 10 * t + 5 + k)
def eSet (M : jM) (a : Nat) (S : Nat → Int32) : Prop := (∀ k, k < 5 → M (a + 24) k = S (11 + k)) ∧ ∃ cap, cap ≤ 8 ∧ 1 ≤ cap ∧ S 15 = nI cap
def eCnt (M : jM) (a : Nat) (S : Nat → Int32) : Prop := M a 7 = S 1 ∧ M a 9 = S 6 ∧ M a 10 = S 7 ∧ M a 11 = S 9 ∧ M (a + 11) 3 = S 5 ∧ M (a + 11) 4 = S 8 ∧ M (a + 11) 5 = S 10
/-- whether value k may be given to a statement of n conditions -/
def zTkF (V : Nat → Int32) (n k : Nat) : Int32 := if k < n then rIn (V k) (nI 0) (nI 31) else if V k = 0 then nI 1 else nI 0
def eLst (M : jM) (a : Nat) (S : Nat → Int32) (c : Nat) : Prop := (M (a + 22) 1 = 0 ∧ S 16 = -4) ∨ (M (a + 22) 1 = nI 1 ∧ (∃ t, t < c ∧ S 16 = nI t ∧ ∀ k, k < 4 → ¬ zTkF (fun k => S (17 + k)) (zN S t) k = 0) ∧ M (a + 22) 2 = S 16 ∧ (∀ k, k < 4 → M (a + 23) k = S (17 + k)) ∧ ∀ w, w < 8 → M (a + 22) (3 + w) = S (21 + w))
def eBij (f : Nat → Nat) (n : Nat) : Prop := (∀ k, k < n → f k < n) ∧ ∀ i j, i < n → j < n → f i = f j → i = j
/-- the shelf: the kept rows are the model's plans in some order -/
def eShf (M : jM) (R : jR) (a : Nat) (S : Nat → Int32) (n c : Nat) (f : Nat → Nat) : Prop := M (a + 11) 2 = nI n ∧ S 4 = nI n ∧ n ≤ 8 ∧ eBij f n ∧
  (∀ k, k < n → ∀ w, w < 9 → M (pa R (a + 11) k) w = S (367 + 9 * f k + w)) ∧
  (∀ q, q < n → isB (S (367 + 9 * q + 7)) ∧ ∃ t, t < c ∧ S (367 + 9 * q + 1) = nI t ∧ ∃ w, (w = 9 ∨ w < zN S t) ∧ S (367 + 9 * q + 3) = nI w)
/-- what holds of the model's plans alone: numbers, classes of a statement and last uses tell them apart; b bounds the counts -/
def eDis (S : Nat → Int32) (n b : Nat) : Prop := (∃ x z, x ≤ b ∧ z ≤ b ∧ S 5 = nI x ∧ S 6 = nI z ∧ ∀ q, q < n → ∃ y u l, S (367 + 9 * q) = nI y ∧ S (367 + 9 * q + 5) = nI u ∧ S (367 + 9 * q + 8) = nI l ∧ y < x ∧ u ≤ b ∧ l ≤ z) ∧
  ∀ p q, p < n → q < n → (S (367 + 9 * p) = S (367 + 9 * q) ∨ (S (367 + 9 * p + 1) = S (367 + 9 * q + 1) ∧ S (367 + 9 * p + 2) = S (367 + 9 * q + 2)) ∨ S (367 + 9 * p + 8) = S (367 + 9 * q + 8)) → p = q
def eRep (M : jM) (R : jR) (a : Nat) (S : Nat → Int32) (b : Nat) : Prop := ∃ r n c f, eTab M a S r ∧ eSum M a S r ∧ eKno M a S ∧ eStm M a S c ∧ eSet M a S ∧ eCnt M a S ∧ eLst M a S c ∧ eShf M R a S n c f ∧ eDis S n b
/-- all of it: now, the history, the text; at most b calls so far -/
def eAll (M : jM) (R : jR) (a h T m b : Nat) : Prop := eRep M R a (M (m + 1)) b ∧ (∃ np, np ≤ 4 ∧ M h 1 = nI np ∧ M m 2 = nI np ∧ ∀ i, i < np → eRep M R (sa R h i) (fun k => M (m + 2) (439 * i + k)) b) ∧
  (∃ len, len ≤ 30 ∧ M T 1 = nI len ∧ M m 4 = nI len ∧ ∀ k, k < len → M (T + 1) k = M (m + 3) k)
section ST
variable {ω : jW} {γ : jG} {M : jM} {R : jR} {b m : Nat}
theorem eAll_of (h : ∀ i, i < 221 → row γ M R (b + i) = dFace b i) (hm : ∀ i, i < 5 → row γ M R (m + i) = dMod m i) : eAll M R (b + 1) (b + 44) (b + 218) m 0 := by
  have hs : ∀ i, i < 43 → row γ M R (b + 1 + i) = dState (b + 1) i := fun i hi => by
    rw [show b + 1 + i = b + (1 + i) by omega, h (1 + i) (by omega), dFace, if_neg (by omega), if_pos (by omega), show 1 + i - 1 = i by omega]
  have hS : ∀ j, M (m + 1) j = dS0.2.2.2.1 j := fun j => rowM (hm 1 (by decide)) j
  have hz : ∀ j, (j < 11 ∨ 16 < j) → M (m + 1) j = nI 0 := fun j hj => by
    rw [hS j]
    simp only [dS0, wM, wN, pu]
    rw [if_neg (by omega), if_neg (by omega), if_neg (by omega), if_neg (by omega), if_neg (by omega), if_neg (by omega)]
    rfl
  refine ⟨⟨0, 0, 0, id, ⟨rowM (hs 1 (by decide)) 2, hz 0 (by decide), by decide, fun k hk => absurd hk (Nat.not_lt_zero k), fun k hk => absurd hk (Nat.not_lt_zero k), fun k hk => absurd hk (Nat.not_lt_zero k)⟩, ⟨fun c hc v hv => rowM (hs 4 (by decide)) _, rowM (hs 3 (by decide)) 1⟩,
    ⟨fun i hi => (rowM (hs 6 (by decide)) i).trans (hz _ (by omega)).symm, (rowM (hs 5 (by decide)) 1).trans (hz 2 (by decide)).symm⟩, ⟨rowM (hs 0 (by decide)) 8, hz 3 (by decide), by decide, fun t ht => absurd ht (Nat.not_lt_zero t)⟩, ⟨fun k hk => ?_, 4, by decide, by decide, hS 15⟩,
    ⟨(rowM (hs 0 (by decide)) 7).trans (hz 1 (by decide)).symm, (rowM (hs 0 (by decide)) 9).trans (hz 6 (by decide)).symm, (rowM (hs 0 (by decide)) 10).trans (hz 7 (by decide)).symm, (rowM (hs 0 (by decide)) 11).trans (hz 9 (by decide)).symm, (rowM (hs 11 (by decide)) 3).trans (hz 5 (by decide)).symm, (rowM (hs 11 (by decide)) 4).trans (hz 8 (by decide)).symm, (rowM (hs 11 (by decide)) 5).trans (hz 10 (by decide)).symm⟩,
    Or.inl ⟨rowM (hs 22 (by decide)) 1, hS 16⟩, ⟨rowM (hs 11 (by decide)) 2, hz 4 (by decide), by decide, ⟨fun k hk => absurd hk (Nat.not_lt_zero k), fun i j hi _ _ => absurd hi (Nat.not_lt_zero i)⟩, fun k hk => absurd hk (Nat.not_lt_zero k), fun k hk => absurd hk (Nat.not_lt_zero k)⟩,
    ⟨0, 0, by decide, by decide, hz 5 (by decide), hz 6 (by decide), fun k hk => absurd hk (Nat.not_lt_zero k)⟩, fun p q hp _ _ => absurd hp (Nat.not_lt_zero p)⟩, ⟨0, by decide, ?_, rowM (hm 0 (by decide)) 2, fun i hi => absurd hi (Nat.not_lt_zero i)⟩, ⟨0, by decide, rowM (h 218 (by decide)) 1, rowM (hm 0 (by decide)) 4, fun i hi => absurd hi (Nat.not_lt_zero i)⟩⟩
  · rw [rowM (hs 24 (by decide)) k, hS (11 + k)]
    match k, hk with
    | 0, _ => rfl
    | 1, _ => rfl
    | 2, _ => rfl
    | 3, _ => rfl
    | 4, _ => rfl
  · exact rowM (h 44 (by decide)) 1
end ST
