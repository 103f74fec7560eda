/-! what the law keeps in its rows, against the model's words S -/
def lPk (S : Nat → Int32) (k : Nat) : Nat := zV S k 0 + 32 * zV S k 1 + 1024 * zV S k 2 + 32768 * zV S k 3 + 1048576 * zV S k 4
def zOp (S : Nat → Int32) (t k : Nat) : Nat := (S (307 + 10 * t + 5 + k)).toNatClampNeg
def lCd (S : Nat → Int32) (t k : Nat) : Nat := 3 * zCol S t k + zOp S t k
def lCs (S : Nat → Int32) (t : Nat) : Nat → Nat
  | 0 => 0
  | k + 1 => lCs S t k + 12 ^ k * lCd S t k
def lCode (S : Nat → Int32) (t : Nat) : Nat := zN S t + 10 * lCs S t (zN S t)
/-- what the model's words are, for a reader -/
def zRd (S : Nat → Int32) (r c : Nat) : Prop := S 0 = nI r ∧ r ≤ 30 ∧ zRows S r ∧ (∀ k, k < r → zV S k 4 ≤ 999 ∧ S (29 + 5 * k + 4) = nI (zV S k 4)) ∧ c ≤ 6 ∧
  (∀ t, t < c → zSt S t (zN S t) ∧ ∀ k, k < zN S t → S (307 + 10 * t + 5 + k) = nI (zOp S t k) ∧ zOp S t k < 3) ∧ ∀ i, i < 128 → ∃ j, j < 2 ^ 20 ∧ S (179 + i) = nI j
/-- what the law's readers ask of its rows -/
def lRd (M : jM) (d : Nat) (S : Nat → Int32) (r c : Nat) : Prop := (∀ k, (k < 3 ∨ 11 ≤ k ∧ k < 16) → M d k = S k) ∧ (∀ k, k < r → M (d + 1) k = nI (lPk S k)) ∧ (∀ i, i < 128 → M (d + 2) i = S (179 + i)) ∧ ∀ t, t < c → M (d + 3) (2 * t) = nI (lCode S t)
/-- where the law's rows lie -/
def gD (ω : jW) (γ : jG) (d : Nat) : Prop := jArr ω γ d 12 16 ∧ jArr ω γ (d + 1) 12 30 ∧ jArr ω γ (d + 2) 16 64 ∧ jArr ω γ (d + 3) 12 12 ∧ jArr ω γ (d + 4) 12 64 ∧ jArr ω γ (d + 5) 12 13
section LD
variable {S : Nat → Int32} {r c k t : Nat}
theorem lPk_lt (Z : zRd S r c) (hk : k < r) : lPk S k < 2 ^ 30 := by
  obtain ⟨-, -, h, h4, -⟩ := Z
  have e := h k hk
  have h0 := (e 0 (by decide)).2
  have h1 := (e 1 (by decide)).2
  have h2 := (e 2 (by decide)).2
  have h3 := (e 3 (by decide)).2
  have h5 := (h4 k hk).1
  unfold lPk
  omega
theorem lPk_of (Z : zRd S r c) (hk : k < r) {j : Nat} (hj : j < 4) : nI (lPk S k / 2 ^ (5 * j) % 32) = S (29 + 5 * k + j) := by
  obtain ⟨-, -, h, h4, -⟩ := Z
  have e := h k hk
  have h0 := (e 0 (by decide)).2
  have h1 := (e 1 (by decide)).2
  have h2 := (e 2 (by decide)).2
  have h3 := (e 3 (by decide)).2
  rw [(e j hj).1]
  congr 1
  match j, hj with
  | 0, _ =>
    show lPk S k / 1 % 32 = _
    unfold lPk
    omega
  | 1, _ =>
    show lPk S k / 32 % 32 = _
    unfold lPk
    omega
  | 2, _ =>
    show lPk S k / 1024 % 32 = _
    unfold lPk
    omega
  | 3, _ =>
    show lPk S k / 32768 % 32 = _
    unfold lPk
    omega
theorem lPk_w (Z : zRd S r c) (hk : k < r) : nI (lPk S k / 2 ^ 20) = S (29 + 5 * k + 4) := by
  obtain ⟨-, -, h, h4, -⟩ := Z
  have e := h k hk
  have h0 := (e 0 (by decide)).2
  have h1 := (e 1 (by decide)).2
  have h2 := (e 2 (by decide)).2
  have h3 := (e 3 (by decide)).2
  rw [(h4 k hk).2]
  congr 1
  show lPk S k / 1048576 = _
  unfold lPk
  omega
theorem lCd_lt (Z : zRd S r c) (ht : t < c) (hk : k < zN S t) : lCd S t k < 12 := by
  obtain ⟨-, -, -, -, -, h, -⟩ := Z
  have h1 := ((h t ht).1.2.2.2.2 k hk).2
  have h2 := ((h t ht).2 k hk).2
  unfold lCd
  omega
theorem lN4 (Z : zRd S r c) (ht : t < c) : 1 ≤ zN S t ∧ zN S t ≤ 4 ∧ S (307 + 10 * t) = nI (zN S t) := by
  obtain ⟨-, -, -, -, -, h, -⟩ := Z
  exact ⟨(h t ht).1.2.2.1, (h t ht).1.2.2.2.1, (h t ht).1.2.1⟩
theorem lCs_lt {S : Nat → Int32} {t : Nat} : ∀ n, (∀ k, k < n → lCd S t k < 12) → lCs S t n < 12 ^ n
  | 0, _ => Nat.lt_succ_self 0
  | n + 1, h => by
    have h1 := lCs_lt n (fun k hk => h k (by omega))
    have h2 : 12 ^ n * lCd S t n ≤ 12 ^ n * 11 := Nat.mul_le_mul_left _ (by have := h n (by omega); omega)
    have e : lCs S t (n + 1) = lCs S t n + 12 ^ n * lCd S t n := rfl
    have e2 : 12 ^ (n + 1) = 12 ^ n * 11 + 12 ^ n := by rw [Nat.pow_succ]; omega
    omega
theorem lCs_of {S : Nat → Int32} {t n : Nat} (h : ∀ k, k < n → lCd S t k < 12) (hn : n ≤ 4) {k : Nat} (hk : k < n) : lCs S t n / 12 ^ k % 12 = lCd S t k := by
  match n, hn with
  | 0, _ => omega
  | 1, _ =>
    have h0 := h 0 (by omega)
    rw [show k = 0 by omega]
    show (0 + 1 * lCd S t 0) / 1 % 12 = _
    omega
  | 2, _ =>
    have h0 := h 0 (by omega)
    have h1 := h 1 (by omega)
    have e : lCs S t 2 = lCd S t 0 + 12 * lCd S t 1 := by show 0 + 1 * lCd S t 0 + 12 * lCd S t 1 = _; omega
    rw [e]
    match k, hk with
    | 0, _ => show _ / 1 % 12 = _; omega
    | 1, _ => show _ / 12 % 12 = _; omega
  | 3, _ =>
    have h0 := h 0 (by omega)
    have h1 := h 1 (by omega)
    have h2 := h 2 (by omega)
    have e : lCs S t 3 = lCd S t 0 + 12 * lCd S t 1 + 144 * lCd S t 2 := by show 0 + 1 * lCd S t 0 + 12 * lCd S t 1 + 144 * lCd S t 2 = _; omega
    rw [e]
    match k, hk with
    | 0, _ => show _ / 1 % 12 = _; omega
    | 1, _ => show _ / 12 % 12 = _; omega
    | 2, _ => show _ / 144 % 12 = _; omega
  | 4, _ =>
    have h0 := h 0 (by omega)
    have h1 := h 1 (by omega)
    have h2 := h 2 (by omega)
    have h3 := h 3 (by omega)
    have e : lCs S t 4 = lCd S t 0 + 12 * lCd S t 1 + 144 * lCd S t 2 + 1728 * lCd S t 3 := by show 0 + 1 * lCd S t 0 + 12 * lCd S t 1 + 144 * lCd S t 2 + 1728 * lCd S t 3 = _; omega
    rw [e]
    match k, hk with
    | 0, _ => show _ / 1 % 12 = _; omega
    | 1, _ => show _ / 12 % 12 = _; omega
    | 2, _ => show _ / 144 % 12 = _; omega
    | 3, _ => show _ / 1728 % 12 = _; omega
theorem lCd_of (Z : zRd S r c) (ht : t < c) (hk : k < zN S t) : lCs S t (zN S t) / 12 ^ k % 12 = lCd S t k := lCs_of (fun j hj => lCd_lt Z ht hj) (lN4 Z ht).2.1 hk
theorem lCs_20 (Z : zRd S r c) (ht : t < c) : lCs S t (zN S t) < 20736 := by
  have h1 := lCs_lt (S := S) (t := t) (zN S t) (fun j hj => lCd_lt Z ht hj)
  have h2 := (lN4 Z ht).2.1
  have h3 : 12 ^ zN S t ≤ 12 ^ 4 := Nat.pow_le_pow_right (by decide) h2
  have : (12 : Nat) ^ 4 = 20736 := rfl
  omega
theorem lCode_m (Z : zRd S r c) (ht : t < c) : lCode S t % 10 = zN S t ∧ lCode S t / 10 = lCs S t (zN S t) ∧ lCode S t < 2 ^ 20 := by
  have h1 := (lN4 Z ht).2.1
  have h2 := lCs_20 Z ht
  unfold lCode
  omega
theorem lh0 (x v : Int32) : rHolds x (nI 0) v = if x = v then nI 1 else nI 0 := rfl
theorem lh1 (x v : Int32) : rHolds x (nI 1) v = if v ≤ x then nI 0 else nI 1 := rfl
theorem lh2 (x v : Int32) : rHolds x (nI 2) v = if x ≤ v then nI 0 else nI 1 := rfl
theorem zHold_l (Z : zRd S r c) (ht : t < c) (hk : k < zN S t) (V : Nat → Int32) (x : Int32) : rHolds x (nI (zOp S t k)) (V k) = zHold S V t k x := by
  obtain ⟨-, -, -, -, -, h, -⟩ := Z
  have h1 := (h t ht).2 k hk
  exact (q_hold h1.2 h1.1 x).symm
end LD
/-- the last place of n at which p holds, or -1 -/
def lLast (p : Nat → Bool) : Nat → Int32
  | 0 => -1
  | k + 1 => if p k then nI k else lLast p k
theorem lLast_z (p : Nat → Bool) (n : Nat) : (∃ k, k < n ∧ p k = true ∧ lLast p n = nI k ∧ zLast p n = nI k) ∨ ((∀ k, k < n → p k = false) ∧ lLast p n = -1 ∧ zLast p n = -4) := by
  induction n with
  | zero => exact Or.inr ⟨fun k h => absurd h (Nat.not_lt_zero k), rfl, rfl⟩
  | succ n ih =>
    by_cases h : p n = true
    · exact Or.inl ⟨n, by omega, h, by simp [lLast, h], by simp [zLast, h]⟩
    · rcases ih with ⟨k, h1, h2, h3, h4⟩ | ⟨h1, h2, h3⟩
      · exact Or.inl ⟨k, by omega, h2, by simp [lLast, h, h3], by simp [zLast, h, h4]⟩
      · refine Or.inr ⟨fun k hk => ?_, by simp [lLast, h, h2], by simp [zLast, h, h3]⟩
        by_cases e : k = n
        · rw [e]; simpa using h
        · exact h1 k (by omega)
/-- the plans of the law, n of them -/
def lPl (M : jM) (d : Nat) (S : Nat → Int32) (n : Nat) : Prop := ∀ q, q < n → (∀ j, j < 6 → M (d + 4) (8 * q + j) = S (367 + 9 * q + j)) ∧ M (d + 4) (8 * q + 6) = S (367 + 9 * q + 7) + nI 2 * S (367 + 9 * q + 6) ∧ M (d + 4) (8 * q + 7) = S (367 + 9 * q + 8)
/-- pinned or not, surprises: small numbers -/
def zPn (S : Nat → Int32) (n : Nat) : Prop := ∀ q, q < n → isB (S (367 + 9 * q + 7)) ∧ ∃ s, s < 2 ^ 20 ∧ S (367 + 9 * q + 6) = nI s
/-- a plan leaves the law's rows -/
def lOut (M : jM) (d n p : Nat) : jM := fun b i => if b = d then (if i = 4 then nI (n - 1) else M b i) else if b = d + 4 then (if 8 * p ≤ i ∧ i < 8 * (n - 1) then M b (i + 8) else M b i) else M b i
def lOutK (M : jM) (d n p j : Nat) : jM := fun b i => if b = d then (if i = 4 then nI (n - 1) else M b i) else if b = d + 4 then (if 8 * p ≤ i ∧ i < 8 * p + j then M b (i + 8) else M b i) else M b i
theorem lOutK_0 (M : jM) (d n p : Nat) : jup M d 4 (nI (n - 1)) = lOutK M d n p 0 := by
  funext b i
  simp only [lOutK, jup]
  by_cases h : b = d
  · subst h
    by_cases h2 : i = 4
    · simp [h2]
    · simp [h2]
  · rw [if_neg (fun q => h q.1), if_neg h, if_neg (show ¬ (8 * p ≤ i ∧ i < 8 * p + 0) by omega)]
    split <;> rfl
theorem lOutK_s (M : jM) (d n p j : Nat) : jup (lOutK M d n p j) (d + 4) (8 * p + j) (lOutK M d n p j (d + 4) (8 * p + j + 8)) = lOutK M d n p (j + 1) := by
  have e : lOutK M d n p j (d + 4) (8 * p + j + 8) = M (d + 4) (8 * p + j + 8) := by
    simp only [lOutK]
    rw [if_neg (by omega), if_pos trivial, if_neg (by omega)]
  rw [e]
  funext b i
  simp only [lOutK, jup]
  by_cases h : b = d + 4
  · subst h
    by_cases h2 : i = 8 * p + j
    · subst h2
      rw [if_pos ⟨rfl, rfl⟩, if_neg (by omega), if_pos rfl, if_pos (by omega)]
    · rw [if_neg (fun q => h2 q.2)]
      simp only [if_neg (show ¬ d + 4 = d by omega), if_true]
      by_cases h3 : 8 * p ≤ i ∧ i < 8 * p + j
      · rw [if_pos h3, if_pos (by omega)]
      · rw [if_neg h3, if_neg (by omega)]
  · rw [if_neg (fun q => h q.1), if_neg h, if_neg h]
theorem lOutK_e (M : jM) {d n p : Nat} (h : p < n) : lOutK M d n p (8 * (n - 1 - p)) = lOut M d n p := by
  unfold lOutK lOut
  rw [show 8 * p + 8 * (n - 1 - p) = 8 * (n - 1) by omega]
theorem lOutK_4 (M : jM) (d n p j : Nat) : lOutK M d n p j d 4 = nI (n - 1) := by
  simp only [lOutK]
  rw [if_pos trivial, if_pos trivial]
theorem lOut_o (M : jM) {d n p b : Nat} (h : b ≠ d) (h4 : b ≠ d + 4) : lOut M d n p b = M b := by
  funext i
  simp only [lOut]
  rw [if_neg h, if_neg h4]
theorem lOut_g (M : jM) {d n p k : Nat} (h : k ≠ 4) : lOut M d n p d k = M d k := by
  simp only [lOut]
  rw [if_pos trivial, if_neg h]
theorem lOut_4 (M : jM) (d n p : Nat) : lOut M d n p d 4 = nI (n - 1) := by
  simp only [lOut]
  rw [if_pos trivial, if_pos trivial]
/-- whether plan k is dropped ahead of plan f -/
def zLess (S : Nat → Int32) (k f : Nat) : Prop := S (367 + 9 * k + 5) < S (367 + 9 * f + 5) ∨ (S (367 + 9 * k + 5) = S (367 + 9 * f + 5) ∧ S (367 + 9 * k + 8) < S (367 + 9 * f + 8))
noncomputable def zMin (S : Nat → Int32) : Nat → Option Nat
  | 0 => none
  | k + 1 => match zMin S k with
    | none => if S (367 + 9 * k + 7) = 0 then some k else none
    | some f => if S (367 + 9 * k + 7) = 0 ∧ (S (367 + 9 * k + 5) < S (367 + 9 * f + 5) ∨ (S (367 + 9 * k + 5) = S (367 + 9 * f + 5) ∧ S (367 + 9 * k + 8) < S (367 + 9 * f + 8))) then some k else some f
def zMI : Option Nat → Int32
  | none => -1
  | some k => nI k
theorem zMin_lt {S : Nat → Int32} : ∀ {n k : Nat}, zMin S n = some k → k < n
  | 0, k, h => by cases h
  | n + 1, k, h => by
    unfold zMin at h
    split at h
    · split at h
      · cases h; omega
      · cases h
    · rename_i f hf
      have := zMin_lt hf
      split at h
      · cases h; omega
      · cases h; omega
theorem zMin_none {S : Nat → Int32} {k : Nat} (h : zMin S k = none) : zMin S (k + 1) = if S (367 + 9 * k + 7) = 0 then some k else none := by
  simp only [zMin, h]
theorem zMin_some {S : Nat → Int32} {k f : Nat} (h : zMin S k = some f) : zMin S (k + 1) = if S (367 + 9 * k + 7) = 0 ∧ (S (367 + 9 * k + 5) < S (367 + 9 * f + 5) ∨ (S (367 + 9 * k + 5) = S (367 + 9 * f + 5) ∧ S (367 + 9 * k + 8) < S (367 + 9 * f + 8))) then some k else some f := by
  simp only [zMin, h]
theorem lPl_6 {M : jM} {d n q : Nat} {S : Nat → Int32} (P : lPl M d S n) (Q : zPn S n) (hq : q < n) : ∃ u s, u < 2 ∧ s < 2 ^ 20 ∧ S (367 + 9 * q + 7) = nI u ∧ S (367 + 9 * q + 6) = nI s ∧ M (d + 4) (8 * q + 6) = nI (u + 2 * s) := by
  obtain ⟨hb, s, hs, es⟩ := Q q hq
  rcases hb with hb | hb
  · exact ⟨0, s, by decide, hs, hb, es, by rw [(P q hq).2.1, hb, es, pk_mul, nI_add]⟩
  · exact ⟨1, s, by decide, hs, hb, es, by rw [(P q hq).2.1, hb, es, pk_mul, nI_add]⟩
theorem kn_lt {x y : Nat} (hx : x < 2 ^ 20) (hy : y < 2 ^ 20) {z : Nat} : (x + 2 ^ 32 * y) / z < 2 ^ 64 := Nat.lt_of_le_of_lt (Nat.div_le_self _ _) (by omega)
theorem kn_val {S : Nat → Int32} {x y v j : Nat} (hx : x < 2 ^ 20) (hy : y < 2 ^ 20) (hv : v < 32) (ex : S (179 + (32 * j + v - v % 2)) = nI x) (ey : S (179 + (32 * j + v - v % 2 + 1)) = nI y) : nI ((x + 2 ^ 32 * y) / 2 ^ (32 * (v % 2)) % 2 ^ 31) = S (179 + (32 * j + v)) := by
  rcases (show v % 2 = 0 ∨ v % 2 = 1 by omega) with h | h
  · rw [h] at ex ⊢
    rw [Nat.sub_zero] at ex
    rw [ex]
    congr 1
    show (x + 4294967296 * y) / 1 % 2147483648 = x
    omega
  · rw [h] at ey ⊢
    rw [show 32 * j + v - 1 + 1 = 32 * j + v by omega] at ey
    rw [ey]
    congr 1
    show (x + 4294967296 * y) / 4294967296 % 2147483648 = y
    omega
