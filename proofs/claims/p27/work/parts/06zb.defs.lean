theorem rCnt_s (p : Nat → Bool) (k : Nat) : rCnt p (k + 1) = rCnt p k + (if p k = true then 1 else 0) := by
  simp only [rCnt]
  split <;> rfl
theorem rCnt_congr {p q : Nat → Bool} {n : Nat} (h : ∀ k, k < n → p k = q k) : rCnt p n = rCnt q n := by
  induction n with
  | zero => rfl
  | succ n ih => rw [rCnt_s, rCnt_s, ih (fun k hk => h k (by omega)), h n (by omega)]
theorem rCnt_le (p : Nat → Bool) (n : Nat) : rCnt p n ≤ n := by
  induction n with
  | zero => exact Nat.le_refl 0
  | succ n ih =>
    rw [rCnt_s]
    split <;> omega
theorem rCnt_upd {p q : Nat → Bool} {n y : Nat} (hy : y < n) (h : ∀ k, k < n → k ≠ y → p k = q k) : rCnt p n + (if q y = true then 1 else 0) = rCnt q n + (if p y = true then 1 else 0) := by
  induction n with
  | zero => exact absurd hy (Nat.not_lt_zero y)
  | succ n ih =>
    rw [rCnt_s, rCnt_s]
    by_cases e : y = n
    · subst e
      rw [rCnt_congr (fun k hk => h k (by omega) (by omega))]
      omega
    · have := ih (by omega) (fun k hk hk2 => h k (by omega) hk2)
      rw [h n (by omega) (fun q => e q.symm)]
      omega
theorem rCnt_zero {p : Nat → Bool} {n : Nat} (h : ∀ k, k < n → p k = false) : rCnt p n = 0 := by
  induction n with
  | zero => rfl
  | succ n ih =>
    rw [rCnt_s, ih (fun k hk => h k (by omega)), h n (by omega)]
    rfl
theorem rCnt_pos {p : Nat → Bool} {n k : Nat} (hk : k < n) (h : p k = true) : 0 < rCnt p n := by
  induction n with
  | zero => exact absurd hk (Nat.not_lt_zero k)
  | succ n ih =>
    rw [rCnt_s]
    by_cases e : k = n
    · subst e
      rw [if_pos h]
      omega
    · have := ih (by omega)
      omega
theorem rCnt_lt {p q : Nat → Bool} {n j : Nat} (hj : j < n) (hp : p j = false) (hq : q j = true) (h : ∀ k, k < n → p k = true → q k = true) : rCnt p n < rCnt q n := by
  have mono : ∀ n, (∀ k, k < n → p k = true → q k = true) → rCnt p n ≤ rCnt q n := by
    intro n
    induction n with
    | zero => intro _; exact Nat.le_refl _
    | succ n ih =>
      intro h
      have := ih (fun k hk => h k (by omega))
      rw [rCnt_s, rCnt_s]
      by_cases e : p n = true
      · rw [if_pos e, if_pos (h n (by omega) e)]
        omega
      · rw [if_neg e]
        omega
  induction n with
  | zero => exact absurd hj (Nat.not_lt_zero j)
  | succ n ih =>
    rw [rCnt_s, rCnt_s]
    by_cases e : j = n
    · subst e
      have := mono j (fun k hk => h k (by omega))
      rw [if_pos hq, hp]
      have e2 : (if false = true then 1 else 0) = 0 := rfl
      omega
    · have h1 := ih (by omega) (fun k hk => h k (by omega))
      by_cases e2 : p n = true
      · rw [if_pos e2, if_pos (h n (by omega) e2)]
        omega
      · rw [if_neg e2]
        omega
theorem rCnt_bij : ∀ (n : Nat) (f : Nat → Nat) (p : Nat → Bool), eBij f n → rCnt (fun k => p (f k)) n = rCnt p n := by
  intro n
  induction n with
  | zero => intro f p _; rfl
  | succ n ih =>
    intro f p hf
    obtain ⟨hr, hi⟩ := hf
    have hy := hr n (by omega)
    have hne : ∀ k, k < n → f k ≠ f n := fun k hk e => absurd (hi k n (by omega) (by omega) e) (by omega)
    have h1 := ih (fun k => if f k = n then f n else f k) (fun x => p (if x = f n then n else if x = n then f n else x)) ⟨fun k hk => by
      have a1 := hr k (by omega)
      have a2 := hne k hk
      show (if f k = n then f n else f k) < n
      split <;> omega, fun i j hi2 hj2 e => by
      have a1 := hne i hi2
      have a2 := hne j hj2
      refine hi i j (by omega) (by omega) ?_
      simp only at e
      split at e <;> split at e <;> omega⟩
    have h2 : rCnt (fun k => (fun x => p (if x = f n then n else if x = n then f n else x)) ((fun k => if f k = n then f n else f k) k)) n = rCnt (fun k => p (f k)) n := rCnt_congr (fun k hk => by
      have a2 := hne k hk
      show p (if (if f k = n then f n else f k) = f n then n else if (if f k = n then f n else f k) = n then f n else (if f k = n then f n else f k)) = p (f k)
      by_cases e : f k = n
      · rw [if_pos e, if_pos rfl, e]
      · rw [if_neg e, if_neg a2, if_neg e])
    rw [rCnt_s, ← h2, h1, rCnt_s]
    show rCnt _ n + (if p (f n) = true then 1 else 0) = _
    by_cases e : f n = n
    · rw [e]
      congr 1
      refine rCnt_congr (fun k hk => ?_)
      rw [if_neg (by omega), if_neg (by omega)]
    · have h3 := rCnt_upd (p := fun x => p (if x = f n then n else if x = n then f n else x)) (q := p) (n := n) (y := f n) (by omega) (fun k hk hk2 => by
        show p (if k = f n then n else if k = n then f n else k) = p k
        rw [if_neg hk2, if_neg (by omega)])
      simp only [if_true] at h3
      exact h3
theorem eBij.sur {f : Nat → Nat} {n q : Nat} (h : eBij f n) (hq : q < n) : ∃ k, k < n ∧ f k = q := by
  by_cases e : ∃ k, k < n ∧ f k = q
  · exact e
  · have h1 := rCnt_bij n f (fun x => decide (x = q)) h
    have h2 : rCnt (fun k => (fun x => decide (x = q)) (f k)) n = 0 := rCnt_zero (fun k hk => decide_eq_false (fun e2 => e ⟨k, hk, e2⟩))
    have h3 : 0 < rCnt (fun x => decide (x = q)) n := rCnt_pos hq (decide_eq_true rfl)
    have h4 := h2.symm.trans h1
    rw [← h4] at h3
    exact absurd h3 (Nat.lt_irrefl 0)
theorem sI_cnt (P : Nat → Bool) (f : Nat → Int32) (n : Nat) (h : ∀ k, k < n → f k = if P k = true then nI 1 else nI 0) : sI f n = nI (rCnt P n) := by
  induction n with
  | zero => rfl
  | succ n ih =>
    rw [rCnt_s]
    show sI f n + f n = _
    rw [ih (fun k hk => h k (by omega)), h n (by omega)]
    split
    · exact nI_add _ _
    · exact nI_add _ _
theorem sh_find {f : Nat → Nat} {n : Nat} (hf : eBij f n) {p P : Nat → Bool} (h : ∀ k, k < n → p k = P (f k)) (hu : ∀ q q', q < n → q' < n → P q = true → P q' = true → q = q') :
    (∃ k, k < n ∧ rFirst p n = nI k ∧ zLast P n = nI (f k) ∧ P (f k) = true) ∨ (rFirst p n = -1 ∧ zLast P n = -4 ∧ ∀ q, q < n → P q = false) := by
  rcases zLast_cases P n with ⟨q, hq, hP, hz⟩ | ⟨hn, hz⟩
  · obtain ⟨k, hk, rfl⟩ := hf.sur hq
    refine Or.inl ⟨k, hk, rFirst_yes hk (by rw [h k hk]; exact hP) (fun j hj => ?_), hz, hP⟩
    by_cases e : p j = true
    · rw [h j (by omega)] at e
      exact absurd (hf.2 j k (by omega) hk (hu _ _ (hf.1 j (by omega)) hq e hP)) (by omega)
    · exact Bool.eq_false_iff.mpr e
  · exact Or.inr ⟨rFirst_no (fun j hj => by rw [h j hj]; exact hn _ (hf.1 j hj)), hz, hn⟩
/-- the kept plans' words -/
def eWds (M : jM) (R : jR) (b : Nat) (S : Nat → Int32) (n : Nat) (f : Nat → Nat) : Prop := ∀ k, k < n → ∀ w, w < 9 → M (pa R b k) w = S (367 + 9 * f k + w)
section SHF
variable {M : jM} {R : jR} {b n : Nat} {S : Nat → Int32} {f : Nat → Nat}
theorem sh_plc (hf : eBij f n) (hw : eWds M R b S n f) (hu : ∀ p q, p < n → q < n → S (367 + 9 * p) = S (367 + 9 * q) → p = q) (x : Int32) :
    (∃ k, k < n ∧ rFirst (qNum M R b x) n = nI k ∧ zLast (zPlc S x) n = nI (f k) ∧ S (367 + 9 * f k) = x) ∨ (rFirst (qNum M R b x) n = -1 ∧ zLast (zPlc S x) n = -4 ∧ ∀ q, q < n → ¬ S (367 + 9 * q) = x) := by
  rcases sh_find hf (p := qNum M R b x) (P := zPlc S x) (fun k hk => by simp only [qNum, zPlc, hw k hk 0 (by decide)]) (fun q q' h1 h2 h3 h4 => hu q q' h1 h2 ((of_decide_eq_true h3).trans (of_decide_eq_true h4).symm)) with ⟨k, h1, h2, h3, h4⟩ | ⟨h1, h2, h3⟩
  · exact Or.inl ⟨k, h1, h2, h3, of_decide_eq_true h4⟩
  · exact Or.inr ⟨h1, h2, fun q hq => of_decide_eq_false (h3 q hq)⟩
theorem sh_for (hf : eBij f n) (hw : eWds M R b S n f) (hu : ∀ p q, p < n → q < n → S (367 + 9 * p + 1) = S (367 + 9 * q + 1) → S (367 + 9 * p + 2) = S (367 + 9 * q + 2) → p = q) (s c : Int32) :
    (∃ k, k < n ∧ rFirst (qFor M R b s c) n = nI k ∧ zLast (zFor S s c) n = nI (f k) ∧ S (367 + 9 * f k + 1) = s ∧ S (367 + 9 * f k + 2) = c) ∨ (rFirst (qFor M R b s c) n = -1 ∧ zLast (zFor S s c) n = -4 ∧ ∀ q, q < n → ¬ (S (367 + 9 * q + 1) = s ∧ S (367 + 9 * q + 2) = c)) := by
  have hz : ∀ q, zFor S s c q = true → S (367 + 9 * q + 1) = s ∧ S (367 + 9 * q + 2) = c := fun q h => by
    simp only [zFor, Bool.and_eq_true, decide_eq_true_eq] at h
    exact h
  rcases sh_find hf (p := qFor M R b s c) (P := zFor S s c) (fun k hk => by simp only [qFor, zFor, hw k hk 1 (by decide), hw k hk 2 (by decide)]) (fun q q' h1 h2 h3 h4 => hu q q' h1 h2 ((hz q h3).1.trans (hz q' h4).1.symm) ((hz q h3).2.trans (hz q' h4).2.symm)) with ⟨k, h1, h2, h3, h4⟩ | ⟨h1, h2, h3⟩
  · exact Or.inl ⟨k, h1, h2, h3, hz _ h4⟩
  · refine Or.inr ⟨h1, h2, fun q hq h => ?_⟩
    have := h3 q hq
    simp only [zFor, h.1, h.2, decide_true, Bool.and_self] at this
    exact absurd this (by decide)
theorem ahead_eq {p q P Q u u' : Nat} (h5 : M p 5 = S (367 + 9 * P + 5)) (h8 : M p 8 = S (367 + 9 * P + 8)) (h5' : M q 5 = S (367 + 9 * Q + 5)) (h8' : M q 8 = S (367 + 9 * Q + 8)) (hu : S (367 + 9 * P + 5) = nI u) (hu' : S (367 + 9 * Q + 5) = nI u') (hb : u < 2 ^ 20) (hb' : u' < 2 ^ 20) : rAhead M p q = zAhead S P Q := by
  unfold rAhead zAhead
  rw [h5, h8, h5', h8', hu, hu']
  rcases Nat.lt_trichotomy u u' with h | h | h
  · rw [if_neg (show ¬ nI u = nI u' from fun e => absurd ((nI_eq (by omega) (by omega)).mp e) (by omega)), if_neg (show ¬ nI u' ≤ nI u from fun e => absurd ((nI_leI (by omega) (by omega)).mp e) (by omega)), if_pos (pk_sneg (by omega) h)]
  · subst h
    rw [if_pos rfl, pk_sub (Nat.le_refl u), Nat.sub_self, if_neg (nI_pos (by decide)), if_pos nI_0]
  · rw [if_neg (show ¬ nI u = nI u' from fun e => absurd ((nI_eq (by omega) (by omega)).mp e) (by omega)), if_pos (show nI u' ≤ nI u from (nI_leI (by omega) (by omega)).mpr (by omega)), pk_sub (by omega), if_neg (nI_pos (by omega)), if_neg (nI_ne0 (by omega) (by omega))]
theorem zAhead_iff {P Q u u' l l' : Nat} (hu : S (367 + 9 * P + 5) = nI u) (hu' : S (367 + 9 * Q + 5) = nI u') (hl : S (367 + 9 * P + 8) = nI l) (hl' : S (367 + 9 * Q + 8) = nI l') (hb : u < 2 ^ 20) (hb' : u' < 2 ^ 20) (lb : l < 2 ^ 20) (lb' : l' < 2 ^ 20) : ¬ zAhead S P Q = 0 ↔ (u < u' ∨ (u = u' ∧ l < l')) := by
  unfold zAhead
  rw [hl, hl', hu, hu']
  rcases Nat.lt_trichotomy u u' with h | h | h
  · rw [if_pos (pk_sneg (by omega) h)]
    exact ⟨fun _ => Or.inl h, fun _ => by decide⟩
  · subst h
    rw [pk_sub (Nat.le_refl u), Nat.sub_self, if_neg (nI_pos (by decide)), if_pos nI_0]
    by_cases e : l' ≤ l
    · rw [if_pos ((nI_leI (by omega) (by omega)).mpr e)]
      exact ⟨fun q => absurd nI_0 q, fun q => absurd q (by omega)⟩
    · rw [if_neg (fun q => e ((nI_leI (by omega) (by omega)).mp q))]
      exact ⟨fun _ => Or.inr ⟨rfl, by omega⟩, fun _ => by decide⟩
  · rw [pk_sub (by omega), if_neg (nI_pos (by omega)), if_neg (nI_ne0 (by omega) (by omega))]
    exact ⟨fun q => absurd nI_0 q, fun q => absurd q (by omega)⟩
def zAhB (S : Nat → Int32) (p k : Nat) : Bool := decide (S (367 + 9 * k + 7) = 0) && decide (¬ zAhead S k p = 0)
theorem zAhF_cnt (p : Nat) : sI (zAhF S p) n = nI (rCnt (zAhB S p) n) := sI_cnt _ _ _ (fun k _ => by
  unfold zAhF zAhB
  by_cases h1 : S (367 + 9 * k + 7) = 0
  · rw [if_pos h1, decide_eq_true h1]
    by_cases h2 : zAhead S k p = 0
    · rw [if_pos h2, decide_eq_false (fun q => q h2)]
      rfl
    · rw [if_neg h2, decide_eq_true h2]
      rfl
  · rw [if_neg h1, decide_eq_false h1]
    rfl)
/-- uses and last uses are small, last uses apart -/
def eOrd (S : Nat → Int32) (n : Nat) : Prop := (∀ q, q < n → ∃ u l, u < 2 ^ 20 ∧ l < 2 ^ 20 ∧ S (367 + 9 * q + 5) = nI u ∧ S (367 + 9 * q + 8) = nI l) ∧ ∀ p q, p < n → q < n → S (367 + 9 * p + 8) = S (367 + 9 * q + 8) → p = q
theorem sh_drp (hf : eBij f n) (hw : eWds M R b S n f) (hn : n ≤ 8) (ho : eOrd S n) (x : Int32) :
    (∃ k, k < n ∧ rFirst (qDrp M R b n x) n = nI k ∧ zLast (zDrp S n x) n = nI (f k) ∧ S (367 + 9 * f k + 7) = 0) ∨ (rFirst (qDrp M R b n x) n = -1 ∧ zLast (zDrp S n x) n = -4) := by
  have hz : ∀ q, zDrp S n x q = true → S (367 + 9 * q + 7) = 0 ∧ nI (rCnt (zAhB S q) n) = x := fun q h => by
    simp only [zDrp, Bool.and_eq_true, decide_eq_true_eq] at h
    exact ⟨h.1, by rw [← zAhF_cnt]; exact h.2⟩
  have key : ∀ q q', q < n → q' < n → S (367 + 9 * q + 7) = 0 → ¬ zAhead S q q' = 0 → rCnt (zAhB S q) n < rCnt (zAhB S q') n := fun q q' h1 h2 h3 h4 => by
    obtain ⟨u, l, b1, b2, b3, b4⟩ := ho.1 q h1
    obtain ⟨u', l', c1, c2, c3, c4⟩ := ho.1 q' h2
    refine rCnt_lt h1 ?_ ?_ (fun k hk hh => ?_)
    · have : zAhead S q q = 0 := Decidable.byContradiction fun e => absurd ((zAhead_iff b3 b3 b4 b4 b1 b1 b2 b2).mp e) (by omega)
      simp only [zAhB, this, not_true_eq_false, decide_false, Bool.and_false]
    · simp only [zAhB, h3, h4, not_false_eq_true, decide_true, Bool.and_true]
    · simp only [zAhB, Bool.and_eq_true, decide_eq_true_eq] at hh ⊢
      obtain ⟨d, e, d1, d2, d3, d4⟩ := ho.1 k hk
      have a1 := (zAhead_iff d3 b3 d4 b4 d1 b1 d2 b2).mp hh.2
      have a2 := (zAhead_iff b3 c3 b4 c4 b1 c1 b2 c2).mp h4
      exact ⟨hh.1, (zAhead_iff d3 c3 d4 c4 d1 c1 d2 c2).mpr (by omega)⟩
  rcases sh_find hf (p := qDrp M R b n x) (P := zDrp S n x) (fun k hk => by
      simp only [qDrp, zDrp, hw k hk 7 (by decide)]
      rw [zAhF_cnt, ← rCnt_bij n f (zAhB S (f k)) hf]
      congr 3
      congr 1
      refine rCnt_congr (fun j hj => ?_)
      obtain ⟨u, l, b1, b2, b3, b4⟩ := ho.1 _ (hf.1 k hk)
      obtain ⟨u', l', c1, c2, c3, c4⟩ := ho.1 _ (hf.1 j hj)
      simp only [qAhd, zAhB, hw j hj 7 (by decide)]
      rw [ahead_eq (hw j hj 5 (by decide)) (hw j hj 8 (by decide)) (hw k hk 5 (by decide)) (hw k hk 8 (by decide)) c3 b3 c1 b1]) (fun q q' h1 h2 h3 h4 => by
      have a1 := hz q h3
      have a2 := hz q' h4
      obtain ⟨u, l, b1, b2, b3, b4⟩ := ho.1 q h1
      obtain ⟨u', l', c1, c2, c3, c4⟩ := ho.1 q' h2
      have e : rCnt (zAhB S q) n = rCnt (zAhB S q') n := (nI_eq (by have := rCnt_le (zAhB S q) n; omega) (by have := rCnt_le (zAhB S q') n; omega)).mp (a1.2.trans a2.2.symm)
      by_cases e2 : q = q'
      · exact e2
      · have hl : l ≠ l' := fun e3 => e2 (ho.2 q q' h1 h2 (by rw [b4, c4, e3]))
        by_cases e4 : u < u' ∨ (u = u' ∧ l < l')
        · have := key q q' h1 h2 a1.1 ((zAhead_iff b3 c3 b4 c4 b1 c1 b2 c2).mpr e4)
          omega
        · have := key q' q h2 h1 a2.1 ((zAhead_iff c3 b3 c4 b4 c1 b1 c2 b2).mpr (by omega))
          omega) with ⟨k, h1, h2, h3, h4⟩ | ⟨h1, h2, h3⟩
  · exact Or.inl ⟨k, h1, h2, h3, (hz _ h4).1⟩
  · exact Or.inr ⟨h1, h2⟩
theorem sh_of (hf : eBij f n) (hw : eWds M R b S n f) (s : Int32) : nI (rCnt (qOf M R b s) n) = sI (zOfF S s) n := by
  rw [sI_cnt (fun q => decide (S (367 + 9 * q + 1) = s)) (zOfF S s) n (fun k _ => by
    unfold zOfF
    by_cases e : S (367 + 9 * k + 1) = s
    · rw [if_pos e, if_pos (decide_eq_true e)]
    · rw [if_neg e, if_neg (by rw [decide_eq_false e]; decide)]), ← rCnt_bij n f (fun q => decide (S (367 + 9 * q + 1) = s)) hf]
  congr 1
  refine rCnt_congr (fun k hk => ?_)
  simp only [qOf, hw k hk 1 (by decide)]
theorem sh_pin (hf : eBij f n) (hw : eWds M R b S n f) (hb : ∀ q, q < n → isB (S (367 + 9 * q + 7))) : nI (rCnt (qPin M R b) n) = sI (zPinF S) n := by
  rw [sI_cnt (fun q => decide (¬ S (367 + 9 * q + 7) = 0)) (zPinF S) n (fun k hk => by
    unfold zPinF
    rcases hb k hk with e | e
    · rw [e]; rfl
    · rw [e]; rfl), ← rCnt_bij n f (fun q => decide (¬ S (367 + 9 * q + 7) = 0)) hf]
  congr 1
  refine rCnt_congr (fun k hk => ?_)
  simp only [qPin, hw k hk 7 (by decide)]
end SHF
