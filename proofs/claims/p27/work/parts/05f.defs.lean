theorem rFirst_cases (p : Nat → Bool) (n : Nat) : (∃ k, k < n ∧ (List.range n).find? p = some k ∧ rFirst p n = nI k ∧ p k = true ∧ ∀ j, j < k → p j = false) ∨ ((List.range n).find? p = none ∧ rFirst p n = -1 ∧ ∀ j, j < n → p j = false) := by
  cases h : (List.range n).find? p with
  | none =>
    right
    refine ⟨rfl, by simp only [rFirst, h], fun j hj => ?_⟩
    have := List.find?_eq_none.mp h j (List.mem_range.mpr hj)
    simpa using this
  | some k =>
    left
    rw [List.find?_range_eq_some] at h
    obtain ⟨h1, h2, h3⟩ := h
    refine ⟨k, List.mem_range.mp h2, rfl, ?_, h1, fun j hj => by simpa using h3 j hj⟩
    exact rFirst_yes (List.mem_range.mp h2) h1 (fun j hj => by simpa using h3 j hj)
theorem nI_nem1 {k : Nat} (h : k < 2 ^ 31) : ¬ nI k = -1 := by
  intro e
  have h1 := nI_pos h
  rw [e] at h1
  exact h1 (by decide)
theorem rNum_N {M : jM} {R : jR} {b n k : Nat} (hk : k < n) (hn : n ≤ 8) (h : M b 2 = nI n) : rNum M R b (nI k) = M (pa R b k) 0 := by
  simp only [rNum, if_neg (nI_pos (show k < 2 ^ 31 by omega)), h, if_pos (nI_lt hk (by omega)), rPA_N R b (show k < 8 by omega)]
def rMk (cap : Int32) (b : Nat) : Nat → jM → jR → Int32 → jM × jR × Int32 × Nat
  | 0, M, R, f => (M, R, f, 0)
  | n + 1, M, R, f => if nI (n + 1) < cap then (M, R, f, n + 1) else
    match (List.range (n + 1)).find? (qDrp M R b (n + 1) (nI 0)) with
    | none => (M, R, f, n + 1)
    | some k => rMk cap b n (jup (rRem M b (n + 1)) b 4 (M b 4 + nI 1)) (jswap R b k n) (if f = -4 then M (pa R b k) 0 else f)
theorem rMk_stop {cap : Int32} {b n : Nat} {M : jM} {R : jR} {f : Int32} (h : nI n < cap ∨ (List.range n).find? (qDrp M R b n (nI 0)) = none) : rMk cap b n M R f = (M, R, f, n) := by
  cases n with
  | zero => rfl
  | succ m =>
    rcases h with h | h
    · simp only [rMk, if_pos h]
    · simp only [rMk, h, ite_self]
theorem rMk_go {cap : Int32} {b n k : Nat} {M : jM} {R : jR} {f : Int32} (h : ¬ nI (n + 1) < cap) (hf : (List.range (n + 1)).find? (qDrp M R b (n + 1) (nI 0)) = some k) : rMk cap b (n + 1) M R f = rMk cap b n (jup (rRem M b (n + 1)) b 4 (M b 4 + nI 1)) (jswap R b k n) (if f = -4 then M (pa R b k) 0 else f) := by
  simp only [rMk, if_neg h, hf]
theorem rRem_k (M : jM) (b n : Nat) (v : Int32) : jup (rRem M b (n + 1)) b 4 v b 2 = nI n := by
  rw [jup_nk _ _ (by decide), rRem, jup_eq]
  rfl
theorem rMk_inv (cap : Int32) (b : Nat) : ∀ (n : Nat) (M : jM) (R : jR) (f : Int32), n ≤ 8 → SR R b → M b 2 = nI n →
    SR (rMk cap b n M R f).2.1 b ∧ (rMk cap b n M R f).2.2.2 ≤ n ∧ (rMk cap b n M R f).1 b 2 = nI (rMk cap b n M R f).2.2.2 ∧ (∀ x, x ≠ b → (rMk cap b n M R f).1 x = M x) ∧ ((rMk cap b n M R f).1 b 3 = M b 3 ∧ (rMk cap b n M R f).1 b 5 = M b 5) ∧ ∀ x, x ≠ b + 1 → (rMk cap b n M R f).2.1 x = R x := by
  intro n
  induction n with
  | zero => intro M R f _ h1 h2; exact ⟨h1, Nat.le_refl _, h2, fun _ _ => rfl, ⟨rfl, rfl⟩, fun _ _ => rfl⟩
  | succ n ih =>
    intro M R f hn h1 h2
    by_cases hc : nI (n + 1) < cap
    · rw [rMk_stop (Or.inl hc)]
      exact ⟨h1, Nat.le_refl _, h2, fun _ _ => rfl, ⟨rfl, rfl⟩, fun _ _ => rfl⟩
    · rcases rFirst_cases (qDrp M R b (n + 1) (nI 0)) (n + 1) with ⟨k, hk, hf, -, -, -⟩ | ⟨hf, -, -⟩
      · rw [rMk_go hc hf]
        obtain ⟨a1, a2, a3, a4, a5, a6⟩ := ih (jup (rRem M b (n + 1)) b 4 (M b 4 + nI 1)) (jswap R b k n) (if f = -4 then M (pa R b k) 0 else f) (by omega) (SR_swap h1 (by omega) (by omega)) (rRem_k _ _ _ _)
        refine ⟨a1, by omega, a3, fun x hx => ?_, ⟨?_, ?_⟩, fun x hx => ?_⟩
        · rw [a4 x hx, jup_row _ _ hx, rRem, jup_row _ _ hx]
        · rw [a5.1, jup_nk _ _ (by decide), rRem, jup_nk _ _ (by decide)]
        · rw [a5.2, jup_nk _ _ (by decide), rRem, jup_nk _ _ (by decide)]
        · rw [a6 x hx, jswap, jup_row _ _ hx, jup_row _ _ hx]
      · rw [rMk_stop (Or.inr hf)]
        exact ⟨h1, Nat.le_refl _, h2, fun _ _ => rfl, ⟨rfl, rfl⟩, fun _ _ => rfl⟩
def rHitM (M : jM) (a : Nat) : jM := jup (jup M a 10 (M a 10 + nI 1)) (a + 22) 8 (nI 0)
def rMisK (M : jM) (R : jR) (a n : Nat) : jM × jR × Int32 × Nat := rMk (M (a + 24) 4) (a + 11) n M R (-4)
def rMis2 (M : jM) (R : jR) (a n : Nat) : jM := jup (rMisK M R a n).1 (a + 22) 10 (rMisK M R a n).2.2.1
def rMisP (M : jM) (R : jR) (a n : Nat) : Nat := rNewP (rMis2 M R a n) (rMisK M R a n).2.1 (a + 11) (rMis2 M R a n (a + 24) 4) (rMisK M R a n).2.2.2
def rMis3 (M : jM) (R : jR) (a n : Nat) : jM := rNewM (rMis2 M R a n) (rMisK M R a n).2.1 (a + 11) (rMis2 M R a n (a + 22) 2) (rMis2 M R a n (a + 22) 3) (rMis2 M R a n (a + 24) 4) (rMisK M R a n).2.2.2
def rMis4 (M : jM) (R : jR) (a t v n nc : Nat) : jM := jup (rMis3 M R a n) (rMisP M R a n) 3 (rBest (rMis3 M R a n) a (a + 5) t v nc)
def rMis5 (M : jM) (R : jR) (a t v n nc : Nat) : jM := jup (rMis4 M R a t v n nc) (rMisP M R a n) 4 (rCost (rMis4 M R a t v n nc) (a + 5) t v (rMis4 M R a t v n nc (rMisP M R a n) 3))
def rMisM (M : jM) (R : jR) (a t v n nc : Nat) : jM := jup (rMis5 M R a t v n nc) (a + 22) 8 (if rMis5 M R a t v n nc (rMisP M R a n) 0 = -4 then nI 2 else nI 1)
def rPlc (M : jM) (R : jR) (a n : Nat) : Int32 := rFirst (qFor M R (a + 11) (M (a + 22) 2) (M (a + 22) 3)) n
def rPFM (M : jM) (R : jR) (a t v n nc : Nat) : jM := if rPlc M R a n = -1 then rMisM M R a t v n nc else rHitM M a
def rPFR (M : jM) (R : jR) (a n : Nat) : jR := if rPlc M R a n = -1 then (rMisK M R a n).2.1 else R
def rPFP (M : jM) (R : jR) (a n : Nat) : Nat := if rPlc M R a n = -1 then rMisP M R a n else rPA R (a + 11) (rPlc M R a n)
theorem rNewM_o {M : jM} {R : jR} {b n x : Nat} {s c cap : Int32} (h : SR R b) (hn : n ≤ 8) (hk : M b 2 = nI n) (hx : x < b ∨ b + 11 ≤ x) : rNewM M R b s c cap n x = M x := by
  have e1 : ∀ p (n s c : Int32), x ≠ p → rPBegin M p n s c x = M x := fun p n s c hp => by
    simp only [rPBegin]
    rw [jup_row _ _ hp, jup_row _ _ hp, jup_row _ _ hp, jup_row _ _ hp, jup_row _ _ hp, jup_row _ _ hp]
  unfold rNewM
  split
  · exact e1 _ _ _ _ (by omega)
  · split
    · rename_i h1 h2
      rw [hk] at h2
      have h8 : n < 8 := (nI_ltI (by omega) (by decide)).mp h2
      obtain ⟨j, hj, e⟩ := h.rg h8
      rw [jup_row _ _ (by omega), jup_row _ _ (by omega), e1 _ _ _ _ (by omega)]
    · exact e1 _ _ _ _ (by omega)
theorem rNewP_at {ω : jW} {γ : jG} {M : jM} {R : jR} {b n : Nat} {cap : Int32} (h : SR R b) (g : gShelf ω γ b) (hn : n ≤ 8) (hk : M b 2 = nI n) : jAt ω γ (rNewP M R b cap n) 2 := by
  unfold rNewP
  split
  · exact g.2.2.2.2.1
  · split
    · rename_i h1 h2
      rw [hk] at h2
      exact h.pl g ((nI_ltI (by omega) (by decide)).mp h2)
    · exact g.2.2.2.2.1
theorem rNewP_rg {M : jM} {R : jR} {b n : Nat} {cap : Int32} (h : SR R b) (hn : n ≤ 8) (hk : M b 2 = nI n) : b + 2 ≤ rNewP M R b cap n ∧ rNewP M R b cap n < b + 11 := by
  unfold rNewP
  split
  · omega
  · split
    · rename_i h1 h2
      rw [hk] at h2
      obtain ⟨j, hj, e⟩ := h.rg ((nI_ltI (by omega) (by decide)).mp h2)
      omega
    · omega
/-- plans by an index on column c leave the shelf, from place k down -/
def rTB (a : Nat) (c : Int32) : Nat → Nat → jM → jR → jM × jR × Nat
  | 0, n, M, R => (M, R, n)
  | k + 1, n, M, R => if M (pa R (a + 11) k) 3 = nI 9 then rTB a c k n M R else if rCol M (rSA a (M (pa R (a + 11) k) 1)) (M (pa R (a + 11) k) 3) = c then rTB a c k (n - 1) (rThr M (a + 11) n) (jswap R (a + 11) k (n - 1)) else rTB a c k n M R
def gHist (ω : jW) (γ : jG) (h : Nat) : Prop := jAt ω γ h 0 ∧ jP γ h 0 = some (h + 1) ∧ jArr ω γ (h + 1) 14 4 ∧ ∀ i, i < 4 → gState ω γ (h + 2 + 43 * i)
def sa (R : jR) (h k : Nat) : Nat := (R (h + 1) k).getD 0
def SH (R : jR) (h : Nat) : Prop := (∀ k, k < 4 → ∃ j, j < 4 ∧ R (h + 1) k = some (h + 2 + 43 * j)) ∧ ∀ i j, i < 4 → j < 4 → R (h + 1) i = R (h + 1) j → i = j
theorem SH.at {R : jR} {h k : Nat} (H : SH R h) (hk : k < 4) : R (h + 1) k = some (sa R h k) := by
  obtain ⟨j, -, e⟩ := H.1 k hk
  simp [sa, e]
theorem SH.rg {R : jR} {h k : Nat} (H : SH R h) (hk : k < 4) : ∃ j, j < 4 ∧ sa R h k = h + 2 + 43 * j := by
  obtain ⟨j, hj, e⟩ := H.1 k hk
  exact ⟨j, hj, by simp [sa, e]⟩
theorem SH.st {ω : jW} {γ : jG} {R : jR} {h k : Nat} (H : SH R h) (g : gHist ω γ h) (hk : k < 4) : gState ω γ (sa R h k) := by
  obtain ⟨j, hj, e⟩ := H.rg hk
  rw [e]
  exact g.2.2.2 j hj
/-- the states move down by one place, k of them -/
def jrotK (R : jR) (h k : Nat) : jR := fun x j => if x = h + 1 ∧ j < k then R x (j + 1) else R x j
theorem jrotK_0 (R : jR) (h : Nat) : jrotK R h 0 = R := by
  funext x j
  simp [jrotK]
theorem jrotK_s (R : jR) (h k : Nat) {v : Nat} (hv : R (h + 1) (k + 1) = some v) : jup (jrotK R h k) (h + 1) k (some v) = jrotK R h (k + 1) := by
  funext x j
  simp only [jup, jrotK]
  by_cases hx : x = h + 1
  · subst hx
    by_cases hj : j = k
    · subst hj
      simp [hv]
    · by_cases h2 : j < k
      · simp [hj, h2, show j < k + 1 by omega]
      · simp [hj, h2, show ¬ j < k + 1 by omega]
  · simp [hx]
def jrot (R : jR) (h : Nat) : jR := jup (jrotK R h 3) (h + 1) 3 (some (sa R h 0))
def rPuM (M : jM) (R : jR) (h a n : Nat) : jM := if n = 4 then jup (kState (jup M h 1 (nI 3)) (jrot R h) a (sa (jrot R h) h 3)) h 1 (nI 4) else jup (kState M R a (sa R h n)) h 1 (nI (n + 1))
def rPuR (R : jR) (h n : Nat) : jR := if n = 4 then jrot R h else R
theorem kState_o (M : jM) {R : jR} {e a x : Nat} (hb : SR R (a + 11)) (h : x < a ∨ a + 43 ≤ x) : kState M R e a x = M x := by
  rw [kState, jcopyF_o _ (by omega), jcopy_o _ (by omega), kSt5, kLast_o _ (by omega), kShelf_o _ hb (by omega), kStms_o _ 6 (by omega), kSums_o _ (by omega), kTable_o _ (by omega)]
theorem jrot_o (R : jR) {h x : Nat} (hx : x ≠ h + 1) : jrot R h x = R x := by
  rw [jrot, jup_row _ _ hx]
  exact funext fun j => if_neg fun q => hx q.1
theorem SH_rot {R : jR} {h : Nat} (H : SH R h) : SH (jrot R h) h ∧ sa (jrot R h) h 3 = sa R h 0 ∧ ∀ k, k < 3 → sa (jrot R h) h k = sa R h (k + 1) := by
  have e3 : jrot R h (h + 1) 3 = R (h + 1) 0 := by rw [jrot, jup_eq, H.at (by decide)]
  have ek : ∀ k, k < 3 → jrot R h (h + 1) k = R (h + 1) (k + 1) := fun k hk => by
    rw [jrot, jup_nk _ _ (by omega)]
    exact if_pos ⟨rfl, hk⟩
  refine ⟨⟨fun k hk => ?_, fun i j hi hj e => ?_⟩, by simp only [sa, e3], fun k hk => by simp only [sa, ek k hk]⟩
  · rcases Nat.lt_or_ge k 3 with q | q
    · rw [ek k q]; exact H.1 _ (by omega)
    · have : k = 3 := by omega
      subst this
      rw [e3]; exact H.1 0 (by decide)
  · rcases Nat.lt_or_ge i 3 with q | q <;> rcases Nat.lt_or_ge j 3 with r | r
    · rw [ek i q, ek j r] at e
      have := H.2 _ _ (by omega) (by omega) e
      omega
    · have : j = 3 := by omega
      subst this
      rw [ek i q, e3] at e
      have := H.2 _ _ (by omega) (by decide) e
      omega
    · have : i = 3 := by omega
      subst this
      rw [ek j r, e3] at e
      have := H.2 _ _ (by decide) (by omega) e
      omega
    · omega
/-- what a state's rows of references hold, and its truth values -/
def SA (M : jM) (R : jR) (a : Nat) : Prop := SS R a ∧ SR R (a + 11) ∧ (∀ i, i < 8 → isB (M (pa R (a + 11) i) 7)) ∧ isB (M (a + 22) 1) ∧ isB (M (a + 22) 9)
