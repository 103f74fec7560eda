abbrev jRow : Type := Nat × Nat × (Nat → Option Nat) × (Nat → Int32) × (Nat → Option Nat)
def row (γ : jG) (M : jM) (R : jR) (b : Nat) : jRow := (jK γ b, jL γ b, jP γ b, M b, R b)
def pu {α : Type} (f : Nat → α) (k : Nat) (v : α) : Nat → α := fun j => if j = k then v else f j
def wN (kd len : Nat) : jRow := (kd, len, fun _ => none, fun _ => 0, fun _ => none)
def wP (r : jRow) (k : Nat) (v : Option Nat) : jRow := (r.1, r.2.1, pu r.2.2.1 k v, r.2.2.2.1, r.2.2.2.2)
def wM (r : jRow) (k : Nat) (v : Int32) : jRow := (r.1, r.2.1, r.2.2.1, pu r.2.2.2.1 k v, r.2.2.2.2)
def wR (r : jRow) (k : Nat) (v : Option Nat) : jRow := (r.1, r.2.1, r.2.2.1, r.2.2.2.1, pu r.2.2.2.2 k v)
theorem jup_pu {α : Type} (M : Nat → Nat → α) (a k : Nat) (v : α) : jup M a k v a = pu (M a) k v := by
  funext j
  by_cases h : j = k
  · rw [h, jup_eq]; simp [pu]
  · rw [jup_nk M v h]; simp [pu, h]
section RW
variable {ω : jW} {γ : jG} {M : jM} {R : jR}
theorem row_new {kd len b : Nat} : row (jnew ω γ kd len) (jz M (jlo ω + jn γ) 0) (jz R (jlo ω + jn γ) none) b = if b = jlo ω + jn γ then wN kd len else row γ M R b := by
  by_cases h : b = jlo ω + jn γ
  · rw [if_pos h, h]
    simp only [row, jnew, wN, jK, jL, jP, jva_up_self, jz_at]
  · rw [if_neg h]
    simp only [row, jnew, jK, jL, jP, jva_up_other _ _ h, jz_row _ _ h]
theorem row_P {a k b : Nat} {v : Option Nat} : row (jset_P γ a k v) M R b = if b = a then wP (row γ M R a) k v else row γ M R b := by
  by_cases h : b = a
  · rw [if_pos h, h]
    simp only [row, jset_P, wP, jK, jL, jP, jup_pu]
  · rw [if_neg h]
    simp only [row, jset_P, jK, jL, jP, jup_row _ _ h]
theorem row_M {a k b : Nat} {v : Int32} : row γ (jup M a k v) R b = if b = a then wM (row γ M R a) k v else row γ M R b := by
  by_cases h : b = a
  · rw [if_pos h, h]
    simp only [row, wM, jup_pu]
  · rw [if_neg h]
    simp only [row, jup_row _ _ h]
theorem row_R {a k b : Nat} {v : Option Nat} : row γ M (jup R a k v) b = if b = a then wR (row γ M R a) k v else row γ M R b := by
  by_cases h : b = a
  · rw [if_pos h, h]
    simp only [row, wR, jup_pu]
  · rw [if_neg h]
    simp only [row, jup_row _ _ h]
theorem row_self {kd len : Nat} : row (jnew ω γ kd len) (jz M (jlo ω + jn γ) 0) (jz R (jlo ω + jn γ) none) (jlo ω + jn γ) = wN kd len := by rw [row_new, if_pos rfl]
theorem jAt_row {a ci : Nat} {r : jRow} (h1 : jlo ω ≤ a) (h2 : a < jlo ω + jn γ) (h : row γ M R a = r) (e : r.1 = ci) : jAt ω γ a ci := ⟨h1, h2, by rw [← e, ← h]; rfl⟩
theorem jArr_row {a kd len : Nat} {r : jRow} (h1 : jlo ω ≤ a) (h2 : a < jlo ω + jn γ) (h : row γ M R a = r) (e : r.1 = kd) (e' : r.2.1 = len) : jArr ω γ a kd len := ⟨jAt_row h1 h2 h e, by rw [← e', ← h]; rfl⟩
theorem jP_row {a k : Nat} {r : jRow} {v : Option Nat} (h : row γ M R a = r) (e : r.2.2.1 k = v) : jP γ a k = v := by rw [← e, ← h]; rfl
/-- a block of cells is built from its first one on -/
def wF (ρ : Nat → jRow) (a q : Nat) (D : Nat → jRow) (rA rB : jRow) (k b : Nat) : jRow := if b = a then rA else if b = a + q then rB else if a < b ∧ b < a + k then D (b - a) else ρ b
def jSt (ω : jW) (ρ : Nat → jRow) (a q : Nat) (D : Nat → jRow) (rA rB : jRow) (k : Nat) (γ : jG) (M : jM) (R : jR) : Prop := jlo ω ≤ a ∧ 1 ≤ k ∧ jlo ω + jn γ = a + k ∧ ∀ b, row γ M R b = wF ρ a q D rA rB k b
variable {ρ : Nat → jRow} {a q k : Nat} {D : Nat → jRow} {rA rB : jRow}
theorem jSt_0 {kd : Nat} (h1 : jlo ω ≤ a) (h2 : jlo ω + jn γ = a + 1) (h3 : row γ M R a = wN kd 0) (hq : 1 ≤ q) : jSt ω (row γ M R) a q D (wN kd 0) (row γ M R (a + q)) 1 γ M R := ⟨h1, Nat.le_refl 1, h2, fun b => by
  unfold wF
  by_cases e : b = a
  · rw [if_pos e, e, h3]
  · rw [if_neg e]
    by_cases e2 : b = a + q
    · rw [if_pos e2, e2]
    · rw [if_neg e2, if_neg (by omega)]⟩
theorem jSt_arr {kd len : Nat} (h : jSt ω ρ a q D rA rB k γ M R) (hq : k ≠ q) (hD : D k = wN kd len) : jSt ω ρ a q D rA rB (k + 1) (jnew ω γ kd len) (jz M (jlo ω + jn γ) 0) (jz R (jlo ω + jn γ) none) := by
  obtain ⟨h1, h0, h2, h3⟩ := h
  refine ⟨h1, by omega, by show _ + (jn γ + 1) = _; omega, fun b => ?_⟩
  rw [row_new, h3 b, h2]
  unfold wF
  by_cases e : b = a + k
  · subst e
    rw [if_pos rfl, if_neg (by omega), if_neg (by omega), if_pos (by omega), show a + k - a = k by omega, hD]
  · rw [if_neg e]
    by_cases e1 : b = a
    · rw [if_pos e1, if_pos e1]
    · rw [if_neg e1, if_neg e1]
      by_cases e2 : b = a + q
      · rw [if_pos e2, if_pos e2]
      · rw [if_neg e2, if_neg e2]
        by_cases e3 : a < b ∧ b < a + k
        · rw [if_pos e3, if_pos (by omega)]
        · rw [if_neg e3, if_neg (by omega)]
theorem jSt_arrq {kd len : Nat} (h : jSt ω ρ a q D rA rB k γ M R) (hq : k = q) : jSt ω ρ a q D rA (wN kd len) (k + 1) (jnew ω γ kd len) (jz M (jlo ω + jn γ) 0) (jz R (jlo ω + jn γ) none) := by
  obtain ⟨h1, h0, h2, h3⟩ := h
  refine ⟨h1, by omega, by show _ + (jn γ + 1) = _; omega, fun b => ?_⟩
  rw [row_new, h3 b, h2]
  unfold wF
  by_cases e : b = a + k
  · subst e
    rw [if_pos rfl, if_neg (by omega), if_pos (by omega)]
  · rw [if_neg e]
    by_cases e1 : b = a
    · rw [if_pos e1, if_pos e1]
    · have e2 : ¬ b = a + q := by omega
      rw [if_neg e1, if_neg e1, if_neg e2, if_neg e2]
      by_cases e3 : a < b ∧ b < a + k
      · rw [if_pos e3, if_pos (by omega)]
      · rw [if_neg e3, if_neg (by omega)]
theorem jSt_put {j : Nat} {v : Option Nat} (h : jSt ω ρ a q D rA rB k γ M R) : jSt ω ρ a q D (wP rA j v) rB k (jset_P γ a j v) M R := by
  obtain ⟨h1, h0, h2, h3⟩ := h
  refine ⟨h1, h0, h2, fun b => ?_⟩
  rw [row_P, h3 b, h3 a]
  unfold wF
  rw [if_pos rfl]
  by_cases e1 : b = a
  · rw [if_pos e1, if_pos e1]
  · rw [if_neg e1, if_neg e1, if_neg e1]
theorem jSt_putR {j : Nat} {v : Option Nat} (h : jSt ω ρ a q D rA rB k γ M R) (hq : 1 ≤ q) : jSt ω ρ a q D rA (wR rB j v) k γ M (jup R (a + q) j v) := by
  obtain ⟨h1, h0, h2, h3⟩ := h
  refine ⟨h1, h0, h2, fun b => ?_⟩
  rw [row_R, h3 b, h3 (a + q)]
  unfold wF
  rw [if_neg (show a + q ≠ a by omega), if_pos rfl]
  by_cases e1 : b = a + q
  · rw [if_pos e1, if_neg (by omega), if_pos e1]
  · rw [if_neg e1, if_neg e1, if_neg e1]
theorem jSt_ext {s : Nat} {γ' : jG} {M' : jM} {R' : jR} (h : jSt ω ρ a q D rA rB k γ M R) (hq : k + s ≤ q ∨ q < k) (hn : jlo ω + jn γ' = a + (k + s)) (hr : ∀ b, row γ' M' R' b = if a + k ≤ b ∧ b < a + (k + s) then D (b - a) else row γ M R b) : jSt ω ρ a q D rA rB (k + s) γ' M' R' := by
  obtain ⟨h1, h0, h2, h3⟩ := h
  refine ⟨h1, by omega, hn, fun b => ?_⟩
  rw [hr b, h3 b]
  unfold wF
  by_cases e : a + k ≤ b ∧ b < a + (k + s)
  · rw [if_pos e, if_neg (by omega), if_neg (by omega), if_pos (by omega)]
  · rw [if_neg e]
    by_cases e1 : b = a
    · rw [if_pos e1, if_pos e1]
    · rw [if_neg e1, if_neg e1]
      by_cases e2 : b = a + q
      · rw [if_pos e2, if_pos e2]
      · rw [if_neg e2, if_neg e2]
        by_cases e3 : a < b ∧ b < a + k
        · rw [if_pos e3, if_pos (by omega)]
        · rw [if_neg e3, if_neg (by omega)]
/-- what a constructor leaves -/
def jIn (ω : jW) (a s : Nat) (D : Nat → jRow) (γ : jG) (M : jM) (R : jR) : jPost := fun v γ' M' R' => v = none ∧ jlo ω + jn γ' = a + s ∧ ∀ b, row γ' M' R' b = if a ≤ b ∧ b < a + s then D (b - a) else row γ M R b
theorem jSt_kid {kd s : Nat} {Dc : Nat → jRow} {v : Option Value} {γ' : jG} {M' : jM} {R' : jR} (h : jSt ω ρ a q D rA rB k γ M R) (hq : k + s ≤ q ∨ q < k) (hs : 1 ≤ s) (hi : jIn ω (jlo ω + jn γ) s Dc (jnew ω γ kd 0) (jz M (jlo ω + jn γ) 0) (jz R (jlo ω + jn γ) none) v γ' M' R') (hD : ∀ i, i < s → D (k + i) = Dc i) : jSt ω ρ a q D rA rB (k + s) γ' M' R' := by
  obtain ⟨-, i2, i3⟩ := hi
  have h2 := h.2.2.1
  refine jSt_ext h hq (by rw [i2, h2]; omega) fun b => ?_
  rw [i3 b]
  by_cases e : a + k ≤ b ∧ b < a + (k + s)
  · rw [if_pos e, if_pos (by omega), ← hD _ (by omega)]
    congr 1
    omega
  · rw [if_neg e, if_neg (by omega), row_new, if_neg (by omega)]
theorem jSt_end (h : jSt ω ρ a q D rA rB k γ M R) (hA : rA = D 0) (hq : q < k) (hB : rB = D q) (γ0 : jG) (M0 : jM) (R0 : jR) (hρ : ρ = row γ0 M0 R0) : jIn ω a k D γ0 M0 R0 none γ M R := by
  obtain ⟨h1, h0, h2, h3⟩ := h
  refine ⟨rfl, h2, fun b => ?_⟩
  rw [h3 b]
  unfold wF
  by_cases e1 : b = a
  · rw [if_pos e1, if_pos (by omega), hA, e1, Nat.sub_self]
  · rw [if_neg e1]
    by_cases e2 : b = a + q
    · rw [if_pos e2, if_pos (by omega), hB, e2, show a + q - a = q by omega]
    · rw [if_neg e2]
      by_cases e3 : a < b ∧ b < a + k
      · rw [if_pos e3, if_pos (by omega)]
      · rw [if_neg e3, if_neg (by omega), hρ]
theorem jSt.atA (h : jSt ω ρ a q D rA rB k γ M R) {ci : Nat} (e : rA.1 = ci) : jAt ω γ a ci := jAt_row h.1 (by have := h.2.1; have := h.2.2.1; omega) ((h.2.2.2 a).trans (if_pos rfl)) e
theorem jSt.rowB (h : jSt ω ρ a q D rA rB k γ M R) (hq : 1 ≤ q) : row γ M R (a + q) = rB := (h.2.2.2 _).trans (by unfold wF; rw [if_neg (by omega), if_pos rfl])
theorem jSt.arB (h : jSt ω ρ a q D rA rB k γ M R) (hq : 1 ≤ q) (hk : q < k) {kd len : Nat} (e : rB.1 = kd) (e' : rB.2.1 = len) : jArr ω γ (a + q) kd len := jArr_row (M := M) (R := R) (by have := h.1; omega) (by have := h.2.2.1; omega) (h.rowB hq) e e'
theorem jSt.pA (h : jSt ω ρ a q D rA rB k γ M R) {j : Nat} {v : Option Nat} (e : rA.2.2.1 j = v) : jP γ a j = v := jP_row ((h.2.2.2 a).trans (if_pos rfl)) e
theorem jSt.atD (h : jSt ω ρ a q D rA rB k γ M R) {i ci : Nat} (h1 : 1 ≤ i) (h2 : i < k) (h3 : i ≠ q) (e : (D i).1 = ci) : jAt ω γ (a + i) ci := jAt_row (M := M) (R := R) (by have := h.1; omega) (by have := h.2.2.1; omega) ((h.2.2.2 _).trans (by unfold wF; rw [if_neg (by omega), if_neg (by omega), if_pos (by omega), show a + i - a = i by omega])) e
end RW
section JG
variable {X : jX} {ω : jW} {γ : jG} {M : jM} {R : jR} {cells slots pc : Nat} {l : List (Nat × Value)} {st : List Value}
theorem j_gen {P : jG → jM → jR → Prop} (h : P γ M R) (kk : ∀ γ' M' R', P γ' M' R' → J X ω γ' M' R' cells slots pc l st) : J X ω γ M R cells slots pc l st := kk _ _ _ h
theorem j_loopP (N : Nat) (L : Nat → List (Nat × Value)) (cs ss : Nat → Nat) (I : Nat → jG → jM → jR → Prop)
    (hs : ∀ k γ M R, k < N → I k γ M R → (∀ γ' M' R', I (k + 1) γ' M' R' → J X ω γ' M' R' (cs (k + 1)) (ss (k + 1)) pc (L (k + 1)) st) → J X ω γ M R (cs k) (ss k) pc (L k) st)
    (hx : ∀ γ M R, I N γ M R → J X ω γ M R (cs N) (ss N) pc (L N) st) (h0 : I 0 γ M R) : J X ω γ M R (cs 0) (ss 0) pc (L 0) st := by
  have key : ∀ n k γ M R, k + n = N → I k γ M R → J X ω γ M R (cs k) (ss k) pc (L k) st := by
    intro n
    induction n with
    | zero =>
      intro k γ M R hk hI
      have e : k = N := by omega
      subst e
      exact hx _ _ _ hI
    | succ n ih =>
      intro k γ M R hk hI
      exact hs k γ M R (by omega) hI (fun γ' M' R' hI' => ih (k + 1) γ' M' R' (by omega) hI')
  exact key N 0 γ M R (by omega) h0
end JG
/-- the cells of the class -/
def dPlan : jRow := wM (wN 2 0) 0 (-4)
def dLast (a i : Nat) : jRow := if i = 0 then wP (wN 1 0) 0 (some (a + 1)) else wN 12 4
def dSums (a i : Nat) : jRow := if i = 0 then wP (wN 6 0) 0 (some (a + 1)) else wN 12 128
def dStm (a i : Nat) : jRow := if i = 0 then wP (wP (wN 5 0) 0 (some (a + 1))) 1 (some (a + 2)) else wN 12 4
def dTable (a i : Nat) : jRow := if i = 0 then wP (wP (wN 7 0) 0 (some (a + 1))) 1 (some (a + 2)) else if i = 1 then wN 12 150 else dSums (a + 2) (i - 2)
def dText (a i : Nat) : jRow := if i = 0 then wP (wN 8 0) 0 (some (a + 1)) else wN 11 30
def dRefs (kd len a s k : Nat) : jRow := (kd, len, fun _ => none, fun _ => 0, fun j => if j < k then some (a + s * j) else none)
theorem dRefs_0 (kd len a s : Nat) : dRefs kd len a s 0 = wN kd len := by simp [dRefs, wN]
theorem dRefs_s (kd len a s k : Nat) : wR (dRefs kd len a s k) k (some (a + s * k)) = dRefs kd len a s (k + 1) := by
  simp only [dRefs, wR, Prod.mk.injEq, true_and]
  funext j
  simp only [pu]
  by_cases h : j = k
  · rw [if_pos h, if_pos (by omega), h]
  · rw [if_neg h]
    by_cases h2 : j < k
    · rw [if_pos h2, if_pos (by omega)]
    · rw [if_neg h2, if_neg (by omega)]
def dShelf (a i : Nat) : jRow := if i = 0 then wP (wP (wN 3 0) 0 (some (a + 1))) 1 (some (a + 2)) else if i = 1 then dRefs 13 8 (a + 3) 1 8 else dPlan
def dSet : jRow := wM (wM (wM (wM (wM (wN 12 5) 0 (nI 50)) 1 (nI 300)) 2 (nI 4)) 3 (nI 2)) 4 (nI 4)
def dState (a i : Nat) : jRow :=
  if i = 0 then wP (wP (wP (wP (wP (wP (wP (wN 4 0) 0 (some (a + 1))) 1 (some (a + 5))) 2 (some (a + 7))) 3 (some (a + 8))) 4 (some (a + 11))) 5 (some (a + 22))) 6 (some (a + 24))
  else if i < 5 then dTable (a + 1) (i - 1) else if i < 7 then dSums (a + 5) (i - 5) else if i < 8 then dRefs 15 6 (a + 25) 3 6 else if i < 11 then dStm (a + 8) (i - 8)
  else if i < 22 then dShelf (a + 11) (i - 11) else if i < 24 then dLast (a + 22) (i - 22) else if i < 25 then dSet else dStm (a + 25 + 3 * ((i - 25) / 3)) ((i - 25) % 3)
def dHist (a i : Nat) : jRow := if i = 0 then wP (wN 0 0) 0 (some (a + 1)) else if i = 1 then dRefs 14 4 (a + 2) 43 4 else dState (a + 2 + 43 * ((i - 2) / 43)) ((i - 2) % 43)
def dFace (a i : Nat) : jRow :=
  if i = 0 then wP (wP (wP (wP (wN 9 0) 0 (some (a + 1))) 1 (some (a + 44))) 2 (some (a + 218))) 3 (some (a + 220))
  else if i < 44 then dState (a + 1) (i - 1) else if i < 218 then dHist (a + 44) (i - 44) else if i < 220 then dText (a + 218) (i - 218) else wN 12 4
def dS0 : jRow := wM (wM (wM (wM (wM (wM (wN 12 439) 11 (nI 50)) 12 (nI 300)) 13 (nI 4)) 14 (nI 2)) 15 (nI 4)) 16 (-4)
def dMod (a i : Nat) : jRow :=
  if i = 0 then wP (wP (wP (wP (wN 10 0) 0 (some (a + 1))) 1 (some (a + 2))) 3 (some (a + 3))) 7 (some (a + 4))
  else if i = 1 then dS0 else if i = 2 then wN 12 1756 else if i = 3 then wN 12 30 else wN 12 4
section JH
variable {X : jX} {ω : jW} {γ : jG} {M : jM} {R : jR} {cells slots pc : Nat} {l : List (Nat × Value)} {st : List Value} {ρ : Nat → jRow} {a q : Nat} {D : Nat → jRow} {rA : jRow}
theorem j_cells {c' s' : Nat} (hc : cells = c') (hs : slots = s') (k : J X ω γ M R c' s' pc l st) : J X ω γ M R cells slots pc l st := by subst hc hs; exact k
theorem jSt_aast {kd len s k0 i : Nat} (h : jSt ω ρ a q D rA (dRefs kd len (a + k0) s i) (k0 + s * i + s) γ M R) (hq : 1 ≤ q) : jSt ω ρ a q D rA (dRefs kd len (a + k0) s (i + 1)) (k0 + s * (i + 1)) γ M (jup R (a + q) i (some (a + (k0 + s * i)))) := by
  have h' := jSt_putR (j := i) (v := some (a + k0 + s * i)) h hq
  rw [dRefs_s] at h'
  rw [show a + (k0 + s * i) = a + k0 + s * i by omega, show k0 + s * (i + 1) = k0 + s * i + s by rw [Nat.mul_succ]; omega]
  exact h'
end JH
def dPl (_a _i : Nat) : jRow := dPlan
theorem settle {ω : jW} {γ : jG} {M : jM} {R : jR} {a b : Nat} (h : jlo ω + jn γ = a + 24) : row (jnew ω γ 12 5) (jup (jup (jup (jup (jup (jz M (jlo ω + jn γ) 0) (jlo ω + jn γ) 0 (nI 50)) (jlo ω + jn γ) 1 (nI 300)) (jlo ω + jn γ) 2 (nI 4)) (jlo ω + jn γ) 3 (nI 2)) (jlo ω + jn γ) 4 (nI 4)) (jz R (jlo ω + jn γ) none) b = if a + 24 ≤ b ∧ b < a + (24 + 1) then dState a (b - a) else row γ M R b := by
  simp only [row_M, row_new, if_pos]
  by_cases e : b = jlo ω + jn γ
  · rw [if_pos e, if_pos (by omega), show b - a = 24 by omega]
    rfl
  · simp only [if_neg e]
    rw [if_neg (by omega)]
theorem one_row {α : Type} (r r' : α) {a b : Nat} : (if b = a then r else r') = if a ≤ b ∧ b < a + 1 then r else r' := by
  by_cases e : b = a
  · rw [if_pos e, if_pos (by omega)]
  · rw [if_neg e, if_neg (by omega)]
theorem jSt_putM {ω : jW} {γ : jG} {M : jM} {R : jR} {ρ : Nat → jRow} {a q k : Nat} {D : Nat → jRow} {rA rB : jRow} {j : Nat} {v : Int32} (h : jSt ω ρ a q D rA rB k γ M R) (hq : 1 ≤ q) : jSt ω ρ a q D rA (wM rB j v) k γ (jup M (a + q) j v) R := by
  obtain ⟨h1, h0, h2, h3⟩ := h
  refine ⟨h1, h0, h2, fun b => ?_⟩
  rw [row_M, h3 b, h3 (a + q)]
  unfold wF
  rw [if_neg (show a + q ≠ a by omega), if_pos rfl]
  by_cases e1 : b = a + q
  · rw [if_pos e1, if_neg (by omega), if_pos e1]
  · rw [if_neg e1, if_neg e1, if_neg e1]
