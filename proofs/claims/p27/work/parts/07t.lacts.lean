/-! acts: what it rests on -/
def lQ1 (ω : jW) (γ : jG) (x a h T v m d b : Nat) : jPost := fun v' γ' M' R' => v' = some (.int (nI 1)) ∧ jLe ω γ γ' ∧ jn γ' ≤ jn γ + 1 ∧ ∃ b' nh r n c f, b' ≤ b + 70 ∧ LI ω γ' M' R' x a h T v m d b' nh r n c f
theorem jLe_r (ω : jW) (γ : jG) : jLe ω γ γ := ⟨Nat.le_refl _, fun _ _ => ⟨rfl, rfl, rfl⟩⟩
theorem lQ_1 {ω : jW} {γ γ' : jG} {M' : jM} {R' : jR} {x a h T v m d b : Nat} {v' : Option Value} (H : lQ ω γ x a h T v m d b v' γ' M' R') : lQ1 ω γ x a h T v m d b v' γ' M' R' := by
  obtain ⟨rfl, rfl, b', nh, r, n, c, f, hb, L⟩ := H
  exact ⟨rfl, jLe_r ω γ', Nat.le_succ _, b', nh, r, n, c, f, by omega, L⟩
theorem c_L_changes (l : Launch) (ω : jW) (γ : jG) (M : jM) (R : jR) {x a h T v m d b nh r n c : Nat} {f : Nat → Nat} (L : LI ω γ M R x a h T v m d b nh r n c f) (hb : b ≤ 90000) {way y : Nat} (hw : way < 9) (hy : y < 10000000) : Ct l ω yL_changes cL_changes 12 (some .boolean) 8 0 0 [.ref x, .ref d, .ref (d + 1), .ref (d + 2), .ref (d + 3), .ref (d + 4), .int (nI way), .int (nI y)] γ M R (lQ ω γ x a h T v m d b) := by
  by_cases h1 : way < 3
  · exact c_L_changes_row l ω γ M R L hb h1 hy
  · by_cases h2 : way = 3
    · rw [h2]
      exact c_L_changes_drop l ω γ M R L hb hy
    · by_cases h3 : way < 6
      · by_cases hz : y / 4 % 3 = 0
        · exact c_L_changes_idx0 l ω γ M R L hb (by omega) h3 hy hz
        · exact c_L_changes_idx1 l ω γ M R L hb (by omega) h3 hy hz
      · by_cases h4 : way < 8
        · exact c_L_changes_ana l ω γ M R L hb (by omega) h4 hy
        · exact c_L_changes_set l ω γ M R L hb (by omega) (by omega) hy
section LT
variable {ω : jW} {γ : jG} {M M1 : jM} {R : jR} {x a h T v m d b nh r n c : Nat} {f : Nat → Nat} {S : Nat → Int32}
theorem op_pinM (J : LJ M R a h T v m b nh r n c 0 f) (A : lA M d (M (m + 1)) r n c b) (hvd : v < d) (hdm : d + 6 ≤ m) {y : Int32} (hz : zLast (zPlc (M (m + 1)) y) n = -4) (w : Int32) : fPin M R a h nh n y w = -1 ∧ mPin M R a h nh n y w (m + 1) = M (m + 1) ∧ (∀ y', v < y' → mPin M R a h nh n y w y' = M y') ∧ ∃ nh', eInv (mPin M R a h nh n y w) (pPin M R a h nh n y w) a h T v m (b + 1) nh' := by
  obtain ⟨md, eq, nh', I3⟩ := st_pin J.1 J.2.1 y w
  have hvm := J.1.2.2.2.2.2.2.2.2.2
  have z : zLast (zPlc (mPin M R a h nh n y w (m + 1)) y) n < 0 := by rw [md _ (by omega), hz]; decide
  rw [zmPin, if_pos z] at I3
  exact ⟨by rw [eq, zfPin, if_pos z], md _ (by omega), md, nh', I3⟩
theorem op_pinX (J : LJ M R a h T v m b nh r n c 0 f) (A : lA M d (M (m + 1)) r n c b) (hvd : v < d) (hdm : d + 6 ≤ m) {y : Int32} (hz : zLast (zPlc (M (m + 1)) y) n = -4) (w : Int32) : fPin M R a h nh n y w = -1 ∧ zLast (zPlc (mPin M R a h nh n y w (m + 1)) y) n = -4 ∧ ∃ nh' f', LJ (mPin M R a h nh n y w) (pPin M R a h nh n y w) a h T v m (b + 1) nh' r n c 0 f' ∧ lA (mPin M R a h nh n y w) d (mPin M R a h nh n y w (m + 1)) r n c (b + 1) := by
  obtain ⟨eq, em, md, nh', I3⟩ := op_pinM J A hvd hdm hz w
  have hvm := J.1.2.2.2.2.2.2.2.2.2
  obtain ⟨n0, n1, n2, n3, n4, n5, n6, n7⟩ := J.num
  generalize hM2 : mPin M R a h nh n y w = M2 at em md I3 ⊢
  obtain ⟨f', J'⟩ := LJ_to I3 (r := r) (n := n) (c := c) (len := 0) (by rw [em]; exact n0) n1 (by rw [em]; exact n2) n3 (by rw [em]; exact n4) n5 (by rw [md m hvm]; exact n6) n7
  exact ⟨eq, by rw [em]; exact hz, nh', f', J', by rw [em]; exact lA_b (lA_M A (fun z h1 h2 => md z (by omega))) (by omega)⟩
/-- of the row of the last run only some words count -/
theorem lA_l (A : lA M d S r n c b) (e : ∀ y, d ≤ y → y < d + 5 → M1 y = M y) (e5 : ∀ i, (i = 0 ∨ 5 ≤ i) → M1 (d + 5) i = M (d + 5) i) : lA M1 d S r n c b := by
  have e0 := e d (by omega) (by omega)
  have e1 := e (d + 1) (by omega) (by omega)
  have e2 := e (d + 2) (by omega) (by omega)
  have e3 := e (d + 3) (by omega) (by omega)
  have e4 := e (d + 4) (by omega) (by omega)
  obtain ⟨a1, a2, a3, a4, a5, a6, a7, a8, a9⟩ := A
  unfold lSt lPl at *
  exact ⟨by rw [e0]; exact a1, by rw [e1]; exact a2, by rw [e2]; exact a3, by unfold lSt; rw [e3]; exact a4, by unfold lPl; rw [e4]; exact a5, ⟨by rw [e5 0 (Or.inl rfl)]; exact a6.1, fun w hw => by rw [e5 _ (Or.inr (by omega))]; exact a6.2 w hw⟩, a7, a8, a9⟩
end LT
/-- the values of a run -/
def lVv (y i : Nat) : Nat := if i = 0 then y / 6 % 32 else if i = 1 then y / 192 % 32 else if i = 2 then y / 11 % 32 else y / 31 % 32
theorem lVv_lt (y i : Nat) : lVv y i < 32 := by
  unfold lVv
  split
  · omega
  · split
    · omega
    · split
      · omega
      · omega
def lVk (M : jM) (w y k : Nat) : jM := fun b i => if b = w then (if i < k then nI (lVv y i) else 0) else M b i
theorem lVk_0 (M : jM) (w y : Nat) : jz M w 0 = lVk M w y 0 := by
  funext b i
  simp only [jz, lVk]
  rw [if_neg (Nat.not_lt_zero i)]
theorem lVk_s (M : jM) (w y k : Nat) : jup (lVk M w y k) w k (nI (lVv y k)) = lVk M w y (k + 1) := by
  funext b i
  simp only [jup, lVk]
  by_cases h : b = w
  · rw [if_pos h, if_pos h]
    by_cases h2 : i = k
    · rw [if_pos ⟨h, h2⟩, if_pos (by omega), h2]
    · rw [if_neg (fun q => h2 q.2)]
      by_cases h3 : i < k
      · rw [if_pos h3, if_pos (by omega)]
      · rw [if_neg h3, if_neg (by omega)]
  · rw [if_neg h, if_neg h, if_neg (fun q => h q.1)]
theorem lVk_o (M : jM) {w y k b : Nat} (h : b ≠ w) : lVk M w y k b = M b := by
  funext i
  simp only [lVk]
  rw [if_neg h]
theorem lVk_F (M : jM) (w y k : Nat) : ∀ j, j < 4 → ¬ zTkF (lVk M w y k w) k j = 0 := fun j hj => by
  unfold zTkF
  simp only [lVk, if_true]
  by_cases h : j < k
  · rw [if_pos h, if_pos h, lIn_y (Nat.zero_le _) (show lVv y j ≤ 31 by have := lVv_lt y j; omega) (by decide)]
    decide
  · rw [if_neg h, if_neg h, if_pos rfl]
    decide
def lWk (M : jM) (d w k : Nat) : jM := fun b i => if b = d + 5 ∧ 1 ≤ i ∧ i < 1 + k then M w (i - 1) else M b i
theorem lWk_0 (M : jM) (d w : Nat) : M = lWk M d w 0 := by
  funext b i
  simp only [lWk]
  rw [if_neg (by omega)]
theorem lWk_s (M : jM) (d w k : Nat) : jup (lWk M d w k) (d + 5) (1 + k) (M w k) = lWk M d w (k + 1) := by
  funext b i
  simp only [jup, lWk]
  by_cases h : b = d + 5
  · by_cases h2 : i = 1 + k
    · rw [if_pos ⟨h, h2⟩, if_pos ⟨h, by omega, by omega⟩, h2, Nat.add_sub_cancel_left]
    · rw [if_neg (fun q => h2 q.2)]
      by_cases h3 : 1 ≤ i ∧ i < 1 + k
      · rw [if_pos ⟨h, h3⟩, if_pos ⟨h, by omega, by omega⟩]
      · rw [if_neg (fun q => h3 q.2), if_neg (by omega)]
  · rw [if_neg (fun q => h q.1), if_neg (fun q => h q.1), if_neg (fun q => h q.1)]
theorem lWk_o (M : jM) {d w k b : Nat} (h : b ≠ d + 5) : lWk M d w k b = M b := by
  funext i
  simp only [lWk]
  rw [if_neg (fun q => h q.1)]
theorem lWk_i (M : jM) {d w k i : Nat} (h : i = 0 ∨ 5 ≤ i) (hk : k ≤ 4) : lWk M d w k (d + 5) i = M (d + 5) i := by
  simp only [lWk]
  rw [if_neg (by omega)]
