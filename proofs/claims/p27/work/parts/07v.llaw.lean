/-! the law: from its first instruction on -/
def dLaw (i : Nat) : jRow := if i = 0 then wN 12 16 else if i = 1 then wN 12 30 else if i = 2 then wN 16 64 else if i = 3 then wN 12 12 else if i = 4 then wN 12 64 else wN 12 13
def jLw (ω : jW) (k : Nat) (γ : jG) (M : jM) (R : jR) : Prop := jlo ω + jn γ = jlo ω + 221 + k ∧ (∀ i, i < 221 → row γ M R (jlo ω + i) = dFace (jlo ω) i) ∧ ∀ i, i < k → row γ M R (jlo ω + 221 + i) = dLaw i
theorem jLw_new {ω : jW} {γ : jG} {M : jM} {R : jR} {k kd len : Nat} (H : jLw ω k γ M R) (e : dLaw k = wN kd len) : jLw ω (k + 1) (jnew ω γ kd len) (jz M (jlo ω + jn γ) 0) (jz R (jlo ω + jn γ) none) := by
  obtain ⟨h1, h2, h3⟩ := H
  refine ⟨by show jlo ω + (jn γ + 1) = _; omega, fun i hi => ?_, fun i hi => ?_⟩
  · rw [row_new, if_neg (by omega)]
    exact h2 i hi
  · by_cases hk : i = k
    · subst hk
      rw [row_new, if_pos (by omega), e]
    · rw [row_new, if_neg (by omega)]
      exact h3 i (by omega)
theorem law_gX {ω : jW} {γ : jG} {M : jM} {R : jR} (H : jLw ω 6 γ M R) : gX ω γ (jlo ω) (jlo ω + 1) (jlo ω + 44) (jlo ω + 218) (jlo ω + 220) := gX_of (M := M) (R := R) (Nat.le_refl _) (by have := H.1; omega) H.2.1
theorem law_gD {ω : jW} {γ : jG} {M : jM} {R : jR} (H : jLw ω 6 γ M R) : gD ω γ (jlo ω + 221) := by
  obtain ⟨h1, h2, h3⟩ := H
  have k : ∀ i, i < 6 → ∀ kd len, dLaw i = wN kd len → jArr ω γ (jlo ω + 221 + i) kd len := fun i hi kd len e => jArr_row (by omega) (by omega) ((h3 i hi).trans e) rfl rfl
  exact ⟨k 0 (by decide) _ _ rfl, k 1 (by decide) _ _ rfl, k 2 (by decide) _ _ rfl, k 3 (by decide) _ _ rfl, k 4 (by decide) _ _ rfl, k 5 (by decide) _ _ rfl⟩
def lGo (M : jM) (d : Nat) : jM := jup (jup (jup (jup (jup (jup M d 11 (nI 50)) d 12 (nI 300)) d 13 (nI 4)) d 14 (nI 2)) d 15 (nI 4)) (d + 5) 0 (-4)
theorem lGo_o (M : jM) {d y : Nat} (h1 : y ≠ d) (h2 : y ≠ d + 5) : lGo M d y = M y := by
  unfold lGo
  rw [jup_row _ _ h2, jup_row _ _ h1, jup_row _ _ h1, jup_row _ _ h1, jup_row _ _ h1, jup_row _ _ h1]
def lRw (γ : jG) (M : jM) (R : jR) (m b : Nat) : jRow := if b < m then row γ M R b else dMod m (b - m)
theorem sI_0 (n : Nat) : sI (fun _ => nI 0) n = nI 0 := by
  induction n with
  | zero => rfl
  | succ n ih => rw [sI, ih]; rfl
theorem law_LI {ω : jW} {γ : jG} {M : jM} {R : jR} (H : jLw ω 6 γ M R) : ∃ M8, (∀ y, y < jlo ω + 100000 → M8 y = lGo M (jlo ω + 221) y) ∧ ∃ f, LI ω γ M8 R (jlo ω) (jlo ω + 1) (jlo ω + 44) (jlo ω + 218) (jlo ω + 220) (jlo ω + 100000) (jlo ω + 221) 1 0 0 0 0 f := by
  have gx := law_gX H
  have gd := law_gD H
  obtain ⟨h1, h2, h3⟩ := H
  obtain ⟨d, hd⟩ : ∃ d, d = jlo ω + 221 := ⟨_, rfl⟩
  obtain ⟨m, hm⟩ : ∃ m, m = jlo ω + 100000 := ⟨_, rfl⟩
  rw [← hd] at gd ⊢
  rw [← hm]
  -- rows as if the words stood at m
  obtain ⟨γ8, hγ8⟩ : ∃ γ8 : jG, γ8 = (0, fun b => (lRw γ M R m b).1, fun b => (lRw γ M R m b).2.1, fun b => (lRw γ M R m b).2.2.1) := ⟨_, rfl⟩
  obtain ⟨M7, hM7⟩ : ∃ M7 : jM, M7 = fun b => (lRw γ M R m b).2.2.2.1 := ⟨_, rfl⟩
  obtain ⟨R7, hR7⟩ : ∃ R7 : jR, R7 = fun b => (lRw γ M R m b).2.2.2.2 := ⟨_, rfl⟩
  have rw8 : ∀ b, row γ8 M7 R7 b = lRw γ M R m b := fun b => by rw [hγ8, hM7, hR7]; rfl
  have hf : ∀ i, i < 221 → row γ8 M7 R7 (jlo ω + i) = dFace (jlo ω) i := fun i hi => by rw [rw8, lRw, if_pos (by omega)]; exact h2 i hi
  have hmd : ∀ i, i < 5 → row γ8 M7 R7 (m + i) = dMod m i := fun i hi => by rw [rw8, lRw, if_neg (by omega), Nat.add_sub_cancel_left]
  have cb := CB_of (γ := γ8) hf
  obtain ⟨e1, ⟨np, p1, p2, p3, -⟩, len, x1, x2, x3, x4⟩ := eAll_of (γ := γ8) hf hmd
  have hnp : np = 0 := (nI_eq (by omega) (by decide)).mp (p2.symm.trans cb.1.2.1)
  subst hnp
  have I : eInv M7 R7 (jlo ω + 1) (jlo ω + 44) (jlo ω + 218) (jlo ω + 220) m 0 0 := ⟨cb.1, p3, fun i hi => absurd hi (Nat.not_lt_zero i), e1, cb.2.2.2.2.2.2.2.1, ⟨len, x1, x2, x3, x4⟩, by omega, by omega, by omega, by omega⟩
  have S1 : ∀ j, M7 (m + 1) j = dS0.2.2.2.1 j := fun j => rowM (hmd 1 (by decide)) j
  have S0 : ∀ j, (j < 11 ∨ 16 < j) → M7 (m + 1) j = nI 0 := fun j hj => by
    rw [S1 j]
    simp only [dS0, wM, wN, pu]
    rw [if_neg (by omega), if_neg (by omega), if_neg (by omega), if_neg (by omega), if_neg (by omega), if_neg (by omega)]
    rfl
  have m7 : ∀ y, y < m → M7 y = M y := fun y hy => by rw [hM7]; show (lRw γ M R m y).2.2.2.1 = _; rw [lRw, if_pos hy]; rfl
  have r7 : ∀ y, y < m → R7 y = R y := fun y hy => by rw [hR7]; show (lRw γ M R m y).2.2.2.2 = _; rw [lRw, if_pos hy]; rfl
  obtain ⟨M8, hM8⟩ : ∃ M8, M8 = lGo M7 d := ⟨_, rfl⟩
  have o8 : ∀ y, y ≠ d → y ≠ d + 5 → M8 y = M7 y := fun y h1 h2 => by rw [hM8]; exact lGo_o M7 h1 h2
  have hlo : ∀ y, y < m → M8 y = lGo M d y := fun y hy => by
    rw [hM8]
    funext i
    simp only [lGo, jup, m7 y hy]
  have I8 : eInv M8 R (jlo ω + 1) (jlo ω + 44) (jlo ω + 218) (jlo ω + 220) m 1 0 := e_same2 I (fun x h1 h2 => o8 x (by omega) (by omega)) (fun x h1 h2 => (r7 x (by omega)).symm) (fun j _ => by rw [o8 m (by omega) (by omega)]) (o8 _ (by omega) (by omega)) (o8 _ (by omega) (by omega)) (o8 _ (by omega) (by omega))
  have e81 : M8 (m + 1) = M7 (m + 1) := o8 _ (by omega) (by omega)
  have l4 : M8 m 4 = nI 0 := by rw [o8 m (by omega) (by omega)]; exact rowM (hmd 0 (by decide)) 4
  obtain ⟨f, J⟩ := LJ_to I8 (r := 0) (n := 0) (c := 0) (len := 0) (by rw [e81]; exact S0 0 (by decide)) (by decide) (by rw [e81]; exact S0 4 (by decide)) (by decide) (by rw [e81]; exact S0 3 (by decide)) (by decide) l4 (by decide)
  have z : ∀ i, i < 6 → ∀ j, M7 (d + i) j = nI 0 := fun i hi j => by
    have e : row γ M R (d + i) = dLaw i := by rw [hd]; exact h3 i hi
    rw [m7 _ (by omega), rowM e j]
    unfold dLaw
    split
    · rfl
    · split
      · rfl
      · split
        · rfl
        · split
          · rfl
          · split <;> rfl
  refine ⟨M8, hlo, f, gx, gd, by omega, by omega, by omega, J.1, J.2.1, J.2.2, ?_⟩
  rw [e81]
  refine ⟨fun k hk => ?_, fun k hk => absurd hk (Nat.not_lt_zero k), fun i hi => ?_, fun t ht => absurd ht (Nat.not_lt_zero t), fun q hq => absurd hq (Nat.not_lt_zero q), ⟨?_, fun w hw => ?_⟩, ⟨fun i hi => ⟨0, by decide, S0 _ (by omega)⟩, ?_⟩, ⟨?_, 0, by decide, S0 1 (by decide)⟩, fun q hq => absurd hq (Nat.not_lt_zero q)⟩
  · have zd : ∀ j, M7 d j = nI 0 := fun j => z 0 (by decide) j
    rw [hM8]
    unfold lGo
    rw [jup_row _ _ (by omega)]
    by_cases k11 : k < 11
    · rw [jup_nk _ _ (by omega), jup_nk _ _ (by omega), jup_nk _ _ (by omega), jup_nk _ _ (by omega), jup_nk _ _ (by omega), zd, S0 k (Or.inl k11)]
    · rw [S1 k]
      rcases (show k = 11 ∨ k = 12 ∨ k = 13 ∨ k = 14 ∨ k = 15 by omega) with rfl | rfl | rfl | rfl | rfl
      · rw [jup_nk _ _ (by decide), jup_nk _ _ (by decide), jup_nk _ _ (by decide), jup_nk _ _ (by decide), jup_eq]; rfl
      · rw [jup_nk _ _ (by decide), jup_nk _ _ (by decide), jup_nk _ _ (by decide), jup_eq]; rfl
      · rw [jup_nk _ _ (by decide), jup_nk _ _ (by decide), jup_eq]; rfl
      · rw [jup_nk _ _ (by decide), jup_eq]; rfl
      · rw [jup_eq]; rfl
  · rw [o8 _ (by omega) (by omega), z 2 (by decide), S0 _ (by omega)]
  · rw [hM8]
    unfold lGo
    rw [jup_eq, S1]
    rfl
  · rw [hM8]
    unfold lGo
    rw [jup_nk _ _ (by omega), jup_row _ _ (by omega), jup_row _ _ (by omega), jup_row _ _ (by omega), jup_row _ _ (by omega), jup_row _ _ (by omega), z 5 (by decide), S0 _ (by omega)]
  · rw [S0 2 (by decide), sI_congr (g := fun _ => nI 0) (fun i hi => S0 _ (by omega)), sI_0]
    rfl
  · rw [S0 6 (by decide)]
    rfl
/-- where the law stands between two calls -/
def lAt (ω : jW) (k : Nat) (γ : jG) (M : jM) (R : jR) : Prop := jn γ ≤ 227 + k ∧ ∃ b nh r n c f, b ≤ 1 + 70 * k ∧ LI ω γ M R (jlo ω) (jlo ω + 1) (jlo ω + 44) (jlo ω + 218) (jlo ω + 220) (jlo ω + 100000) (jlo ω + 221) b nh r n c f
theorem lAt_acts {ω : jW} {k b : Nat} {γ γ' : jG} {M' : jM} {R' : jR} {v' : Option Value} (hj : jn γ ≤ 227 + k) (hb : b ≤ 1 + 70 * k) (H : lQ1 ω γ (jlo ω) (jlo ω + 1) (jlo ω + 44) (jlo ω + 218) (jlo ω + 220) (jlo ω + 100000) (jlo ω + 221) b v' γ' M' R') : lAt ω (k + 1) γ' M' R' := by
  obtain ⟨-, -, h1, b', nh, r, n, c, f, h2, L⟩ := H
  exact ⟨by omega, b', nh, r, n, c, f, by omega, L⟩

set_option maxHeartbeats 8000000 in
set_option maxRecDepth 34070 in
theorem law_turns {X : jX} {ω : jW} {γ : jG} {M : jM} {R : jR} (C : jC X ω cL_law RL 13 663643 7111319) (hxn : xn X = 11) (hL : jsL ω ≤ 260) {N : Nat} (hN : N ≤ 61) (hA : lAt ω 3 γ M R) (Kend : ∀ (γ2 : jG) (M2 : jM) (R2 : jR) (l : List (Nat × Value)) (cells slots : Nat), cells ≤ 663643 ∧ slots ≤ 7111319 → J X ω γ2 M2 R2 cells slots 264 l [.int (nI 1)]) : J X ω γ M R 230 3407 188 [(0, .ref (jsb ω)), (1, .ref (jlo ω)), (2, .ref (jlo ω + 221)), (3, .ref (jlo ω + 221 + 1)), (4, .ref (jlo ω + 221 + 2)), (5, .ref (jlo ω + 221 + 3)), (6, .ref (jlo ω + 221 + 4)), (7, .ref (jlo ω + 221 + 5)), (8, .int (nI 1)), (9, .int (nI N)), (10, .int (nI 0))] [] := by
  refine j_cells (c' := 230 + 1 * 0) (s' := 3407 + 4 * 0) rfl rfl ?_
  refine j_loopP N (fun k => [(0, .ref (jsb ω)), (1, .ref (jlo ω)), (2, .ref (jlo ω + 221)), (3, .ref (jlo ω + 221 + 1)), (4, .ref (jlo ω + 221 + 2)), (5, .ref (jlo ω + 221 + 3)), (6, .ref (jlo ω + 221 + 4)), (7, .ref (jlo ω + 221 + 5)), (8, .int (nI 1)), (9, .int (nI N)), (10, .int (nI k))]) (fun k => 230 + 1 * k) (fun k => 3407 + 4 * k) (fun k γ9 M9 R9 => lAt ω (3 + k) γ9 M9 R9) (fun k γ9 M9 R9 hk I9 ih => ?_) (fun γ9 M9 R9 I9 => ?_) hA
  · skip
    obtain ⟨hj9, b9, nh9, r9, n9, c9, f9, hb9, L9⟩ := I9
    refine j_iload C dL_law_188 rfl ?_
    refine j_iload C dL_law_190 rfl ?_
    refine j_icmp_ge C 262 dL_law_192 (by decide) (fun h => absurd h (nI_ge hk (by omega))) (fun _ => ?_)
    refine j_iload C dL_law_195 rfl ?_
    refine j_if_eq C 262 dL_law_197 (by decide) (fun h => absurd h (by decide)) (fun _ => ?_)
    refine j_aload_n C dL_law_200 rfl ?_
    refine j_aload_n C dL_law_201 rfl ?_
    refine j_aload_n C dL_law_202 rfl ?_
    refine j_aload C dL_law_203 rfl ?_
    refine j_aload C dL_law_205 rfl ?_
    refine j_aload C dL_law_207 rfl ?_
    refine j_aload C dL_law_209 rfl ?_
    refine j_aload_n C dL_law_211 rfl ?_
    refine j_iconst C (nI 4) dL_law_212 (by decide) ?_
    refine j_iload C dL_law_213 rfl ?_
    first | with_reducible refine j_iaddN C dL_law_215 ?_ | refine j_iadd C dL_law_215 ?_
    refine j_callS C (c_L_cell _ ω γ9 M9 R9 (k := 4 + k) (by omega) hL) yc_L_cell mn_L_163 st_L_cell dL_law_216 rfl rfl (Nat.le_of_ble_eq_true rfl) (by decide) (⟨by omega, by omega⟩) ?_
    rintro _ γ8 M8 R8 ⟨⟨zc, rfl⟩, h81, h82, h83⟩
    rw [h81, h82, h83]
    refine j_sipush C (nI 7919) dL_law_219 (by decide) ?_
    refine j_iload C dL_law_222 rfl ?_
    first | with_reducible refine j_imulN C dL_law_224 ?_ | refine j_imul C dL_law_224 ?_
    refine j_ixor C dL_law_225 ?_
    refine j_callS C (c_L_acts _ ω γ9 M9 R9 L9 (by omega) (by omega) _) yc_L_acts mn_L_166 st_L_acts dL_law_226 rfl rfl (Nat.le_of_ble_eq_true rfl) (by decide) (⟨by omega, by omega⟩) ?_
    rintro v5 γ5 M5 R5 hQ
    have hA5 := lAt_acts hj9 hb9 hQ
    obtain ⟨rfl, -⟩ := id hQ
    refine j_if_eq C 253 dL_law_229 (by decide) (fun h => absurd h (by decide)) (fun _ => ?_)
    refine j_aload_n C dL_law_232 rfl ?_
    refine j_aload_n C dL_law_233 rfl ?_
    refine j_aload_n C dL_law_234 rfl ?_
    refine j_aload C dL_law_235 rfl ?_
    refine j_aload C dL_law_237 rfl ?_
    refine j_aload C dL_law_239 rfl ?_
    refine j_aload C dL_law_241 rfl ?_
    obtain ⟨hj5, b5, nh5, r5, n5, c5, f5, hb5, L5⟩ := id hA5
    refine j_callS C (c_L_isSo _ ω γ5 M5 R5 L5 (by omega)) yc_L_isSo mn_L_159 st_L_isSo dL_law_243 rfl rfl (Nat.le_of_ble_eq_true rfl) (by decide) (⟨by omega, by omega⟩) ?_
    rintro _ γ4 M4 R4 ⟨rfl, h41, h42, h43⟩
    rw [h41, h42, h43]
    refine j_if_eq C 253 dL_law_246 (by decide) (fun h => absurd h (by decide)) (fun _ => ?_)
    refine j_iconst C (nI 1) dL_law_249 (by decide) ?_
    refine j_goto C 254 dL_law_250 (by decide) ?_
    refine j_istore C dL_law_254 (by rw [hxn]; decide) ?_
    first | refine j_iinc1 C dL_law_256 rfl (by rw [hxn]; decide) ?_ | refine j_iinc C _ dL_law_256 rfl rfl (by rw [hxn]; decide) ?_
    refine j_goto C 188 dL_law_259 (by decide) ?_
    refine j_locs [0, 1, 2, 3, 4, 5, 6, 7, 8, 9, 10] rfl ?_
    exact ih γ5 M5 R5 hA5
  · skip
    refine j_iload C dL_law_188 rfl ?_
    refine j_iload C dL_law_190 rfl ?_
    refine j_icmp_ge C 262 dL_law_192 (by decide) (fun _ => ?_) (fun h => absurd (Int32.le_refl _) h)
    refine j_iload C dL_law_262 rfl ?_
    exact Kend _ _ _ _ _ _ ⟨by omega, by omega⟩

set_option maxHeartbeats 8000000 in
set_option maxRecDepth 34070 in
theorem law_three {X : jX} {ω : jW} {γ : jG} {M : jM} {R : jR} (C : jC X ω cL_law RL 13 663643 7111319) (hxn : xn X = 11) (hL : jsL ω ≤ 260) (hA : lAt ω 0 γ M R) (Kend : ∀ (γ2 : jG) (M2 : jM) (R2 : jR) (l : List (Nat × Value)) (cells slots : Nat), cells ≤ 663643 ∧ slots ≤ 7111319 → J X ω γ2 M2 R2 cells slots 264 l [.int (nI 1)]) : J X ω γ M R 227 3395 95 [(0, .ref (jsb ω)), (1, .ref (jlo ω)), (2, .ref (jlo ω + 221)), (3, .ref (jlo ω + 221 + 1)), (4, .ref (jlo ω + 221 + 2)), (5, .ref (jlo ω + 221 + 3)), (6, .ref (jlo ω + 221 + 4)), (7, .ref (jlo ω + 221 + 5)), (8, .int (nI 1)), (9, .int (nI 0))] [] := by
  refine j_cells (c' := 227 + 1 * 0) (s' := 3395 + 4 * 0) rfl rfl ?_
  refine j_loopP 3 (fun k => [(0, .ref (jsb ω)), (1, .ref (jlo ω)), (2, .ref (jlo ω + 221)), (3, .ref (jlo ω + 221 + 1)), (4, .ref (jlo ω + 221 + 2)), (5, .ref (jlo ω + 221 + 3)), (6, .ref (jlo ω + 221 + 4)), (7, .ref (jlo ω + 221 + 5)), (8, .int (nI 1)), (9, .int (nI k))]) (fun k => 227 + 1 * k) (fun k => 3395 + 4 * k) (fun k γ9 M9 R9 => lAt ω (0 + k) γ9 M9 R9) (fun k γ9 M9 R9 hk I9 ih => ?_) (fun γ9 M9 R9 I9 => ?_) hA
  · skip
    obtain ⟨hj9, b9, nh9, r9, n9, c9, f9, hb9, L9⟩ := I9
    refine j_iload C dL_law_95 rfl ?_
    refine j_iconst C (nI 3) dL_law_97 (by decide) ?_
    refine j_icmp_ge C 170 dL_law_98 (by decide) (fun h => absurd h (nI_ge hk (by omega))) (fun _ => ?_)
    refine j_iload C dL_law_101 rfl ?_
    refine j_if_eq C 170 dL_law_103 (by decide) (fun h => absurd h (by decide)) (fun _ => ?_)
    refine j_aload_n C dL_law_106 rfl ?_
    refine j_aload_n C dL_law_107 rfl ?_
    refine j_aload_n C dL_law_108 rfl ?_
    refine j_aload C dL_law_109 rfl ?_
    refine j_aload C dL_law_111 rfl ?_
    refine j_aload C dL_law_113 rfl ?_
    refine j_aload C dL_law_115 rfl ?_
    refine j_aload_n C dL_law_117 rfl ?_
    refine j_iconst C (nI 1) dL_law_118 (by decide) ?_
    refine j_iload C dL_law_119 rfl ?_
    first | with_reducible refine j_iaddN C dL_law_121 ?_ | refine j_iadd C dL_law_121 ?_
    refine j_callS C (c_L_cell _ ω γ9 M9 R9 (k := 1 + k) (by omega) hL) yc_L_cell mn_L_163 st_L_cell dL_law_122 rfl rfl (Nat.le_of_ble_eq_true rfl) (by decide) (⟨by omega, by omega⟩) ?_
    rintro _ γ8 M8 R8 ⟨⟨zc, rfl⟩, h81, h82, h83⟩
    rw [h81, h82, h83]
    refine j_ldc C ck_L_8 dL_law_125 ?_
    refine j_top (nI 2147483647) (by decide) ?_
    refine j_iand C dL_law_127 ?_
    refine j_sipush C (nI 832) dL_law_128 (by decide) ?_
    refine j_idiv C dL_law_131 (by decide) ?_
    refine j_sipush C (nI 832) dL_law_132 (by decide) ?_
    first | with_reducible refine j_imulN C dL_law_135 ?_ | refine j_imul C dL_law_135 ?_
    refine j_iload C dL_law_136 rfl ?_
    refine j_if_ne C 145 dL_law_138 (by decide) (fun h138 => ?_) (fun h138 => ?_)
    · skip
      refine j_iload C dL_law_145 rfl ?_
      refine j_iconst C (nI 1) dL_law_147 (by decide) ?_
      refine j_icmp_ne C 156 dL_law_148 (by decide) (fun h148 => ?_) (fun h148 => ?_)
      · skip
        refine j_bipush C (nI 6) dL_law_156 (by decide) ?_
        first | with_reducible refine j_iaddN C dL_law_158 ?_ | refine j_iadd C dL_law_158 ?_
        refine j_callS C (c_L_acts _ ω γ9 M9 R9 L9 (by omega) (by omega) _) yc_L_acts mn_L_166 st_L_acts dL_law_159 rfl rfl (Nat.le_of_ble_eq_true rfl) (by decide) (⟨by omega, by omega⟩) ?_
        rintro v5 γ5 M5 R5 hQ
        have hA5 := lAt_acts hj9 hb9 hQ
        obtain ⟨rfl, -⟩ := id hQ
        refine j_istore C dL_law_162 (by rw [hxn]; decide) ?_
        first | refine j_iinc1 C dL_law_164 rfl (by rw [hxn]; decide) ?_ | refine j_iinc C _ dL_law_164 rfl rfl (by rw [hxn]; decide) ?_
        refine j_goto C 95 dL_law_167 (by decide) ?_
        refine j_locs [0, 1, 2, 3, 4, 5, 6, 7, 8, 9] rfl ?_
        exact ih γ5 M5 R5 hA5
      · skip
        refine j_bipush C (nI 10) dL_law_151 (by decide) ?_
        refine j_goto C 158 dL_law_153 (by decide) ?_
        first | with_reducible refine j_iaddN C dL_law_158 ?_ | refine j_iadd C dL_law_158 ?_
        refine j_callS C (c_L_acts _ ω γ9 M9 R9 L9 (by omega) (by omega) _) yc_L_acts mn_L_166 st_L_acts dL_law_159 rfl rfl (Nat.le_of_ble_eq_true rfl) (by decide) (⟨by omega, by omega⟩) ?_
        rintro v5 γ5 M5 R5 hQ
        have hA5 := lAt_acts hj9 hb9 hQ
        obtain ⟨rfl, -⟩ := id hQ
        refine j_istore C dL_law_162 (by rw [hxn]; decide) ?_
        first | refine j_iinc1 C dL_law_164 rfl (by rw [hxn]; decide) ?_ | refine j_iinc C _ dL_law_164 rfl rfl (by rw [hxn]; decide) ?_
        refine j_goto C 95 dL_law_167 (by decide) ?_
        refine j_locs [0, 1, 2, 3, 4, 5, 6, 7, 8, 9] rfl ?_
        exact ih γ5 M5 R5 hA5
    · skip
      refine j_iconst C (nI 1) dL_law_141 (by decide) ?_
      refine j_goto C 158 dL_law_142 (by decide) ?_
      first | with_reducible refine j_iaddN C dL_law_158 ?_ | refine j_iadd C dL_law_158 ?_
      refine j_callS C (c_L_acts _ ω γ9 M9 R9 L9 (by omega) (by omega) _) yc_L_acts mn_L_166 st_L_acts dL_law_159 rfl rfl (Nat.le_of_ble_eq_true rfl) (by decide) (⟨by omega, by omega⟩) ?_
      rintro v5 γ5 M5 R5 hQ
      have hA5 := lAt_acts hj9 hb9 hQ
      obtain ⟨rfl, -⟩ := id hQ
      refine j_istore C dL_law_162 (by rw [hxn]; decide) ?_
      first | refine j_iinc1 C dL_law_164 rfl (by rw [hxn]; decide) ?_ | refine j_iinc C _ dL_law_164 rfl rfl (by rw [hxn]; decide) ?_
      refine j_goto C 95 dL_law_167 (by decide) ?_
      refine j_locs [0, 1, 2, 3, 4, 5, 6, 7, 8, 9] rfl ?_
      exact ih γ5 M5 R5 hA5
  · skip
    refine j_iload C dL_law_95 rfl ?_
    refine j_iconst C (nI 3) dL_law_97 (by decide) ?_
    refine j_icmp_ge C 170 dL_law_98 (by decide) (fun _ => ?_) (fun h => absurd (Int32.le_refl _) h)
    refine j_bipush C (nI 12) dL_law_170 (by decide) ?_
    refine j_aload_n C dL_law_172 rfl ?_
    refine j_iconst C (nI 0) dL_law_173 (by decide) ?_
    refine j_callS C (c_L_cell _ ω γ9 M9 R9 (k := 0) (by omega) hL) yc_L_cell mn_L_163 st_L_cell dL_law_174 rfl rfl (Nat.le_of_ble_eq_true rfl) (by decide) (⟨by omega, by omega⟩) ?_
    rintro _ γ8 M8 R8 ⟨⟨zc, rfl⟩, h81, h82, h83⟩
    rw [h81, h82, h83]
    refine j_bipush C (nI 50) dL_law_177 (by decide) ?_
    refine j_callS C (c_L_low _ ω γ9 M9 R9 (n := 50) (by decide) (by decide)) yc_L_low mn_L_98 st_L_low dL_law_179 rfl rfl (Nat.le_of_ble_eq_true rfl) (by decide) (by decide) ?_
    rintro _ γ7 M7 R7 ⟨⟨N, hN, rfl⟩, h71, h72, h73⟩
    rw [h71, h72, h73]
    first | with_reducible refine j_iaddN C dL_law_182 ?_ | refine j_iadd C dL_law_182 ?_
    refine j_top (nI (12 + N)) (nI_add _ _) ?_
    refine j_istore C dL_law_183 (by rw [hxn]; decide) ?_
    refine j_iconst C (nI 0) dL_law_185 (by decide) ?_
    refine j_istore C dL_law_186 (by rw [hxn]; decide) ?_
    refine j_locs [0, 1, 2, 3, 4, 5, 6, 7, 8, 9, 10] rfl ?_
    refine j_cells (c' := 230) (s' := 3407) rfl rfl ?_
    exact law_turns C hxn hL (N := 12 + N) (by omega) I9 Kend

set_option maxHeartbeats 8000000 in
set_option maxRecDepth 34070 in
theorem law_first {X : jX} {ω : jW} {γ : jG} {M : jM} {R : jR} (C : jC X ω cL_law RL 13 663643 7111319) (hxn : xn X = 11) (hL : jsL ω ≤ 260) (hg : jn γ = 0) (Kend : ∀ (γ2 : jG) (M2 : jM) (R2 : jR) (l : List (Nat × Value)) (cells slots : Nat), cells ≤ 663643 ∧ slots ≤ 7111319 → J X ω γ2 M2 R2 cells slots 264 l [.int (nI 1)]) : J X ω γ M R 0 0 0 [(0, .ref (jsb ω))] [] := by
  refine j_new C cl9 (by decide) cw_L_63 inst9 in9 dL_law_0 (by decide) ?_
  refine j_dup C dL_law_3 rfl ?_
  refine j_callI C (c_X9_init _ ω _ _ _ (a := jlo ω + jn γ) (Nat.le_add_right _ _) rfl row_self) yc_X9_init mn_L_158 im_X9_init rfl dL_law_4 rfl rfl (Nat.le_of_ble_eq_true rfl) (by decide) (by decide) ?_
  rintro v1 γ1 M1 R1 ⟨rfl, n1, r1⟩
  rw [hg, Nat.add_zero] at n1 r1 ⊢
  have H0 : jLw ω 0 γ1 M1 R1 := ⟨n1, fun i hi => by rw [r1, if_pos (by omega), Nat.add_sub_cancel_left], fun i hi => absurd hi (Nat.not_lt_zero i)⟩
  refine j_astore_n C dL_law_7 (by rw [hxn]; decide) ?_
  refine j_bipush C (nI 16) dL_law_8 (by decide) ?_
  refine j_newI C ar_I (by decide) dL_law_10 (by decide) ?_
  refine j_gen (P := jLw ω 1) (jLw_new H0 rfl) (fun γ2 M2 R2 H1 => ?_)
  rw [H0.1]
  rw [Nat.add_zero]
  refine j_astore_n C dL_law_12 (by rw [hxn]; decide) ?_
  refine j_bipush C (nI 30) dL_law_13 (by decide) ?_
  refine j_newI C ar_I (by decide) dL_law_15 (by decide) ?_
  refine j_gen (P := jLw ω 2) (jLw_new H1 rfl) (fun γ3 M3 R3 H2 => ?_)
  rw [H1.1]
  refine j_astore_n C dL_law_17 (by rw [hxn]; decide) ?_
  refine j_bipush C (nI 64) dL_law_18 (by decide) ?_
  refine j_newL C ar_L (by decide) dL_law_20 (by decide) ?_
  refine j_gen (P := jLw ω 3) (jLw_new H2 rfl) (fun γ4 M4 R4 H3 => ?_)
  rw [H2.1]
  refine j_astore C dL_law_22 (by rw [hxn]; decide) ?_
  refine j_bipush C (nI 12) dL_law_24 (by decide) ?_
  refine j_newI C ar_I (by decide) dL_law_26 (by decide) ?_
  refine j_gen (P := jLw ω 4) (jLw_new H3 rfl) (fun γ5 M5 R5 H4 => ?_)
  rw [H3.1]
  refine j_astore C dL_law_28 (by rw [hxn]; decide) ?_
  refine j_bipush C (nI 64) dL_law_30 (by decide) ?_
  refine j_newI C ar_I (by decide) dL_law_32 (by decide) ?_
  refine j_gen (P := jLw ω 5) (jLw_new H4 rfl) (fun γ6 M6 R6 H5 => ?_)
  rw [H4.1]
  refine j_astore C dL_law_34 (by rw [hxn]; decide) ?_
  refine j_bipush C (nI 13) dL_law_36 (by decide) ?_
  refine j_newI C ar_I (by decide) dL_law_38 (by decide) ?_
  refine j_gen (P := jLw ω 6) (jLw_new H5 rfl) (fun γ7 M7 R7 H6 => ?_)
  rw [H5.1]
  refine j_astore C dL_law_40 (by rw [hxn]; decide) ?_
  obtain ⟨g0, g1, g2, g3, g4, g5⟩ := law_gD H6
  have h6 := H6.1
  refine j_aload_n C dL_law_42 rfl ?_
  refine j_bipush C (nI 11) dL_law_43 (by decide) ?_
  refine j_bipush C (nI 50) dL_law_45 (by decide) ?_
  refine j_iastN C (by assumption) dL_law_47 (by omega) (by decide) ?_
  refine j_aload_n C dL_law_48 rfl ?_
  refine j_bipush C (nI 12) dL_law_49 (by decide) ?_
  refine j_sipush C (nI 300) dL_law_51 (by decide) ?_
  refine j_iastN C (by assumption) dL_law_54 (by omega) (by decide) ?_
  refine j_aload_n C dL_law_55 rfl ?_
  refine j_bipush C (nI 13) dL_law_56 (by decide) ?_
  refine j_iconst C (nI 4) dL_law_58 (by decide) ?_
  refine j_iastN C (by assumption) dL_law_59 (by omega) (by decide) ?_
  refine j_aload_n C dL_law_60 rfl ?_
  refine j_bipush C (nI 14) dL_law_61 (by decide) ?_
  refine j_iconst C (nI 2) dL_law_63 (by decide) ?_
  refine j_iastN C (by assumption) dL_law_64 (by omega) (by decide) ?_
  refine j_aload_n C dL_law_65 rfl ?_
  refine j_bipush C (nI 15) dL_law_66 (by decide) ?_
  refine j_iconst C (nI 4) dL_law_68 (by decide) ?_
  refine j_iastN C (by assumption) dL_law_69 (by omega) (by decide) ?_
  refine j_aload C dL_law_70 rfl ?_
  refine j_iconst C (nI 0) dL_law_72 (by decide) ?_
  refine j_bipush C (-4) dL_law_73 (by decide) ?_
  refine j_iastN C (by assumption) dL_law_75 (by omega) (by decide) ?_
  refine j_mem (lGo M7 (jlo ω + 221)) rfl ?_
  obtain ⟨M8, lo8, f8, L8⟩ := law_LI H6
  refine j_ghost M8 (fun z hz => lo8 z (by omega)) ?_
  refine j_aload_n C dL_law_76 rfl ?_
  refine j_aload_n C dL_law_77 rfl ?_
  refine j_aload_n C dL_law_78 rfl ?_
  refine j_aload C dL_law_79 rfl ?_
  refine j_aload C dL_law_81 rfl ?_
  refine j_aload C dL_law_83 rfl ?_
  refine j_aload C dL_law_85 rfl ?_
  refine j_callS C (c_L_isSo _ ω γ7 M8 R7 L8 (by decide)) yc_L_isSo mn_L_159 st_L_isSo dL_law_87 rfl rfl (Nat.le_of_ble_eq_true rfl) (by decide) (by decide) ?_
  rintro _ γ9 M9 R9 ⟨rfl, h91, h92, h93⟩
  rw [h91, h92, h93]
  refine j_istore C dL_law_90 (by rw [hxn]; decide) ?_
  refine j_iconst C (nI 0) dL_law_92 (by decide) ?_
  refine j_istore C dL_law_93 (by rw [hxn]; decide) ?_
  refine j_locs [0, 1, 2, 3, 4, 5, 6, 7, 8, 9] rfl ?_
  refine j_cells (c' := 227) (s' := 3395) rfl rfl ?_
  exact law_three C hxn hL ⟨by omega, 1, 0, 0, 0, 0, f8, by decide, L8⟩ Kend
