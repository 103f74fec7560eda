/-! all of the relation, and what the readers answer -/
def xKn (S : Nat → Int32) : Prop := (∀ i, i < 128 → ∃ j, j < 2 ^ 20 ∧ S (179 + i) = nI j) ∧ sI (fun i => S (179 + i)) 128 = nI 4 * S 2
def xRn (S : Nat → Int32) (c : Nat) : Prop := sI (fun t => S (307 + 10 * t + 9)) c = S 6 ∧ ∃ u, u < 16 ∧ S 1 = nI u
def xSp (S : Nat → Int32) (n b : Nat) : Prop := ∀ q, q < n → (∃ s, s ≤ b ∧ S (367 + 9 * q + 6) = nI s) ∧ ∃ z, z ≤ 80 ∧ S (367 + 9 * q + 2) = nI z
def lLs (M : jM) (d : Nat) (S : Nat → Int32) : Prop := M (d + 5) 0 = S 16 ∧ ∀ w, w < 8 → M (d + 5) (5 + w) = S (21 + w)
def lSt (M : jM) (d : Nat) (S : Nat → Int32) (c : Nat) : Prop := ∀ t, t < c → M (d + 3) (2 * t) = nI (lCode S t) ∧ M (d + 3) (2 * t + 1) = S (307 + 10 * t + 9)
def lA (M : jM) (d : Nat) (S : Nat → Int32) (r n c b : Nat) : Prop := (∀ k, k < 16 → M d k = S k) ∧ (∀ k, k < r → M (d + 1) k = nI (lPk S k)) ∧ (∀ i, i < 128 → M (d + 2) i = S (179 + i)) ∧ lSt M d S c ∧ lPl M d S n ∧ lLs M d S ∧ xKn S ∧ xRn S c ∧ xSp S n b
def LI (ω : jW) (γ : jG) (M : jM) (R : jR) (x a h T v m d b nh r n c : Nat) (f : Nat → Nat) : Prop := gX ω γ x a h T v ∧ gD ω γ d ∧ v < d ∧ d + 6 ≤ m ∧ jlo ω + jn γ ≤ m ∧ eInv M R a h T v m b nh ∧ eR M R a (M (m + 1)) b r n c f ∧ eTxt M T m 0 ∧ lA M d (M (m + 1)) r n c b
theorem lIn_y {k lo hi : Nat} (h1 : lo ≤ k) (h2 : k ≤ hi) (hh : hi < 2 ^ 31) : rIn (nI k) (nI lo) (nI hi) = nI 1 := by
  unfold rIn
  rw [if_neg (nI_nlt h1 (by omega)), if_neg (nI_nlt h2 hh)]
theorem lIn_n {k lo hi : Nat} (h : k < lo ∨ hi < k) (h1 : lo < 2 ^ 31) (h2 : k < 2 ^ 31) : rIn (nI k) (nI lo) (nI hi) = nI 0 := by
  unfold rIn
  rcases h with h | h
  · rw [if_pos (nI_lt h h1)]
  · by_cases c : nI k < nI lo
    · rw [if_pos c]
    · rw [if_neg c, if_pos (nI_lt h h2)]
theorem lIs_y {k n : Nat} {x : Int32} (e : x = nI n) (h : k < n) (hn : n < 2 ^ 31) : zIs x (nI k) = nI 1 := by
  subst e
  unfold zIs
  rw [if_neg (nI_pos (by omega)), if_neg (nI_ge h hn)]
theorem lIs_n {k n : Nat} {x : Int32} (e : x = nI n) (h : n ≤ k) (hn : k < 2 ^ 31) : zIs x (nI k) = nI 0 := by
  subst e
  unfold zIs
  rw [if_neg (nI_pos (by omega)), if_pos (nI_le h hn)]
theorem n10 : ¬ nI 1 = 0 := by decide
section ZV
variable {S : Nat → Int32} {r n c k j t b : Nat}
theorem zv_row (Z : zRd S r c) (hk : k < r) (hj : j ≤ 4) : zRowOf S (nI k) (nI j) = S (29 + 5 * k + j) := by
  have hr := Z.2.1
  unfold zRowOf
  rw [lIs_y Z.1 hk (by omega), if_neg n10, lIn_y (Nat.zero_le j) hj (by decide), if_neg n10, nI_clamp (by omega), nI_clamp (by omega)]
theorem zv_row5 (S : Nat → Int32) (p : Int32) : zRowOf S p (nI 5) = -1 := by
  unfold zRowOf
  split
  · rfl
  · rfl
theorem zv_rowN (Z : zRd S r c) : zRowOf S (nI r) (nI 0) = -1 := by
  have hr := Z.2.1
  unfold zRowOf
  rw [lIs_n Z.1 (Nat.le_refl r) (by omega)]
  rfl
theorem zv_kn (S : Nat → Int32) (hj : j < 4) (ht : t < 32) : zKnown S (nI j) (nI t) = S (179 + 32 * j + t) := by
  unfold zKnown
  rw [lIn_y (Nat.zero_le j) (show j ≤ 3 by omega) (by decide), if_neg n10, lIn_y (Nat.zero_le t) (show t ≤ 31 by omega) (by decide), if_neg n10, nI_clamp (by omega), nI_clamp (by omega)]
theorem zv_kn1 (S : Nat → Int32) : zKnown S (nI 4) (nI 0) = -1 := rfl
theorem zv_kn2 (S : Nat → Int32) : zKnown S (nI 0) (nI 32) = -1 := rfl
theorem zv_stN (Z : zRd S r c) (e : S 3 = nI c) : zStOf S n (nI c) (nI 0) = -1 := by
  have hc := Z.2.2.2.2.1
  unfold zStOf
  rw [lIs_n e (Nat.le_refl c) (by omega)]
  rfl
theorem zv_st0 (Z : zRd S r c) (e : S 3 = nI c) (ht : t < c) : zStOf S n (nI t) (nI 0) = nI (zN S t) := by
  have hc := Z.2.2.2.2.1
  unfold zStOf
  rw [lIs_y e ht (by omega), if_neg n10, lIn_y (Nat.zero_le 0) (show 0 ≤ 2 by decide) (by decide), if_neg n10, if_pos (by decide), nI_clamp (by omega)]
  exact (lN4 Z ht).2.2
theorem zv_st1 (Z : zRd S r c) (e : S 3 = nI c) (ht : t < c) : zStOf S n (nI t) (nI 1) = sI (zOfF S (nI t)) n := by
  have hc := Z.2.2.2.2.1
  unfold zStOf
  rw [lIs_y e ht (by omega), if_neg n10, lIn_y (show 0 ≤ 1 by decide) (show 1 ≤ 2 by decide) (by decide), if_neg n10, if_neg (by decide), if_pos rfl]
theorem zv_st2 (Z : zRd S r c) (e : S 3 = nI c) (ht : t < c) : zStOf S n (nI t) (nI 2) = S (307 + 10 * t + 9) := by
  have hc := Z.2.2.2.2.1
  unfold zStOf
  rw [lIs_y e ht (by omega), if_neg n10, lIn_y (show 0 ≤ 2 by decide) (show 2 ≤ 2 by decide) (by decide), if_neg n10, if_neg (by decide), if_neg (by decide), nI_clamp (by omega)]
theorem zv_st3 (S : Nat → Int32) (s : Int32) : zStOf S n s (nI 3) = -1 := by
  unfold zStOf
  split
  · rfl
  · rfl
theorem zv_st14 (S : Nat → Int32) (s : Int32) : zStOf S n s (nI 14) = -1 := by
  unfold zStOf
  split
  · rfl
  · rfl
theorem zv_stC (Z : zRd S r c) (e : S 3 = nI c) (ht : t < c) (hj : j < 4) : zStOf S n (nI t) (nI (10 + j)) = if j < zN S t then S (307 + 10 * t + 1 + j) else -4 := by
  have hc := Z.2.2.2.2.1
  have h4 := lN4 Z ht
  have er : zRm (nI (10 + j)) = nI j := by
    unfold zRm
    rw [pk_rem (by omega) (by decide) (by decide)]
    congr 1
    omega
  unfold zStOf
  rw [lIs_y e ht (by omega), if_neg n10, lIn_n (Or.inr (by omega)) (by decide) (by omega), if_pos (by decide), lIn_y (show 10 ≤ 10 + j by omega) (show 10 + j ≤ 29 by omega) (by decide), if_neg n10, er, if_pos (nI_le (by omega) (by decide)), nI_clamp (by omega), h4.2.2]
  by_cases hh : j < zN S t
  · rw [if_pos hh, if_pos (nI_lt hh (by omega)), if_neg (nI_ge (by omega) (by decide)), nI_clamp (by omega)]
  · rw [if_neg hh, if_neg (nI_nlt (by omega) (by omega))]
theorem zv_stO (Z : zRd S r c) (e : S 3 = nI c) (ht : t < c) (hj : j < 4) : zStOf S n (nI t) (nI (20 + j)) = if j < zN S t then S (307 + 10 * t + 5 + j) else -4 := by
  have hc := Z.2.2.2.2.1
  have h4 := lN4 Z ht
  have er : zRm (nI (20 + j)) = nI j := by
    unfold zRm
    rw [pk_rem (by omega) (by decide) (by decide)]
    congr 1
    omega
  unfold zStOf
  rw [lIs_y e ht (by omega), if_neg n10, lIn_n (Or.inr (by omega)) (by decide) (by omega), if_pos (by decide), lIn_y (show 10 ≤ 20 + j by omega) (show 20 + j ≤ 29 by omega) (by decide), if_neg n10, er, if_pos (nI_le (by omega) (by decide)), nI_clamp (by omega), h4.2.2]
  by_cases hh : j < zN S t
  · rw [if_pos hh, if_pos (nI_lt hh (by omega)), if_pos (nI_le (by omega) (by omega)), nI_clamp (by omega)]
  · rw [if_neg hh, if_neg (nI_nlt (by omega) (by omega))]
/-- the plan of a number is found at its place -/
theorem zv_at (hd : eDis S n b) {q : Nat} (hq : q < n) : zLast (zPlc S (S (367 + 9 * q + 0))) n = nI q := by
  rcases zLast_cases (zPlc S (S (367 + 9 * q + 0))) n with ⟨k, h1, h2, h3⟩ | ⟨h1, -⟩
  · have e : S (367 + 9 * k + 0) = S (367 + 9 * q + 0) := by simpa [zPlc] using h2
    rw [h3, hd.num k q h1 hq e]
  · have := h1 q hq
    simp [zPlc] at this
theorem zv_plan (hd : eDis S n b) (hn : n ≤ 8) {q : Nat} (hq : q < n) (hj : j < 7) : zPlanOf S n (S (367 + 9 * q + 0)) (nI j) = S (367 + 9 * q + 1 + j) := by
  unfold zPlanOf
  rw [zv_at hd hq, if_neg (nI_pos (by omega)), lIn_y (Nat.zero_le j) (show j ≤ 7 by omega) (by decide), if_neg n10, if_neg (nI_ge hj (by decide)), nI_clamp (by omega), nI_clamp (by omega)]
  congr 1
  omega
theorem zv_plan7 (hd : eDis S n b) (hn : n ≤ 8) {q : Nat} (hq : q < n) : zPlanOf S n (S (367 + 9 * q + 0)) (nI 7) = S 6 - S (367 + 9 * q + 8) := by
  unfold zPlanOf
  rw [zv_at hd hq, if_neg (nI_pos (by omega)), lIn_y (Nat.zero_le 7) (show 7 ≤ 7 by omega) (by decide), if_neg n10, if_pos (by decide), nI_clamp (by omega)]
theorem zv_plan8 (S : Nat → Int32) (p : Int32) : zPlanOf S n p (nI 8) = -1 := by
  unfold zPlanOf
  split
  · rfl
  · rfl
theorem zv_none (hd : eDis S n b) (hb : b ≤ 100000) : zLast (zPlc S (S 5)) n = -4 := by
  obtain ⟨⟨x, z, h1, h2, h1', h2', h3⟩, h4⟩ := hd
  rcases zLast_cases (zPlc S (S 5)) n with ⟨k, g1, g2, g3⟩ | ⟨-, g2⟩
  · obtain ⟨y, u, l, e1, -, -, e4, -, -⟩ := h3 k g1
    have e : S (367 + 9 * k + 0) = S 5 := by simpa [zPlc] using g2
    rw [show 367 + 9 * k + 0 = 367 + 9 * k from rfl, e1, h1'] at e
    exact absurd (nI_inj e (by omega) (by omega)) (by omega)
  · exact g2
theorem zv_planN (hd : eDis S n b) (hb : b ≤ 100000) : zPlanOf S n (S 5) (nI 0) = -1 := by
  unfold zPlanOf
  rw [zv_none hd hb]
  rfl
theorem zv_for (hd : eDis S n b) {q : Nat} (hq : q < n) : zLast (zFor S (S (367 + 9 * q + 1)) (S (367 + 9 * q + 2))) n = nI q := by
  rcases zLast_cases (zFor S (S (367 + 9 * q + 1)) (S (367 + 9 * q + 2))) n with ⟨k, h1, h2, h3⟩ | ⟨h1, -⟩
  · simp only [zFor, Bool.and_eq_true, decide_eq_true_eq] at h2
    rw [h3, hd.cls k q h1 hq h2.1 h2.2]
  · have := h1 q hq
    simp [zFor] at this
theorem zv_planF (hd : eDis S n b) (hn : n ≤ 8) (e : S 3 = nI c) (hc : c ≤ 6) {q z : Nat} (hq : q < n) (ht : t < c) (e1 : S (367 + 9 * q + 1) = nI t) (hz : z ≤ 80) (e2 : S (367 + 9 * q + 2) = nI z) : zPlanFor S n (S (367 + 9 * q + 1)) (S (367 + 9 * q + 2)) = S (367 + 9 * q + 0) := by
  unfold zPlanFor
  rw [zv_for hd hq, e1, e2, lIs_y e ht (by omega), if_neg n10, lIn_y (Nat.zero_le z) hz (by decide), if_neg n10, if_pos (nI_pos' (by omega)), nI_clamp (by omega)]
end ZV
section LR
variable {ω : jW} {γ : jG} {M : jM} {R : jR} {x a h T v m d b nh r n c : Nat} {f : Nat → Nat} {S : Nat → Int32}
theorem zRd_of (e : eR M R a S b r n c f) (k : xKn S) : zRd S r c := by
  obtain ⟨h1, h2, h3, h4, -⟩ := e
  refine ⟨h1.2.1, h1.2.2.1, h1.2.2.2.2.1, fun i hi => ?_, h4.2.2.1, fun t ht => ⟨(h4.2.2.2 t ht).1, fun k hk => ?_⟩, k.1⟩
  · obtain ⟨w, w1, w2, w3⟩ := h1.2.2.2.2.2 i hi
    have e : zV S i 4 = w := by unfold zV; rw [w3, nI_clamp (by omega)]
    rw [e]
    exact ⟨w2, w3⟩
  · obtain ⟨o, o1, o2⟩ := (h4.2.2.2 t ht).2.1 k hk
    have e : zOp S t k = o := by unfold zOp; rw [o2, nI_clamp (by omega)]
    rw [e]
    exact ⟨o2, o1⟩
theorem lRd_of (A : lA M d S r n c b) : lRd M d S r c := ⟨fun k hk => A.1 k (by omega), A.2.1, A.2.2.1, fun t ht => (A.2.2.2.1 t ht).1⟩
theorem zPn_of {M' : jM} {R' : jR} (e : eR M' R' a S b r n c f) (x : xSp S n b) (hb : b ≤ 100000) : zPn S n := fun q hq => by
  obtain ⟨⟨s, s1, s2⟩, -⟩ := x q hq
  exact ⟨(e.2.2.2.2.2.2.2.1.2.2.2.2.2 q hq).1, s, by omega, s2⟩
end LR
theorem zv_set (M : jM) (m r n : Nat) {q : Nat} (hq : q < 5) : zCount M m r n (nI (20 + q)) = M (m + 1) (11 + q) := by
  match q, hq with
  | 0, _ => rfl
  | 1, _ => rfl
  | 2, _ => rfl
  | 3, _ => rfl
  | 4, _ => rfl
theorem zv_lat (S : Nat → Int32) {q : Nat} (hq : q < 8) : zLatest S (nI q) = if 0 ≤ S 16 then S (21 + q) else -4 := by
  unfold zLatest
  rw [lIn_y (Nat.zero_le q) (show q ≤ 7 by omega) (by decide), if_neg n10, nI_clamp (by omega)]
