def gT3v (S1 : Nat → Int32) (t y : Nat) (own e bb num how cost s : Int32) (j : Nat) : Int32 := if j = 9 then S1 9 + s else if j = 27 then s else if j = 26 then how else if j = 25 then cost else if j = 24 then e else if j = 23 then nI y else if j = 22 then num else if j = 21 then own else if j = 7 then S1 7 + bb else if j = 307 + 10 * t + 9 then S1 (307 + 10 * t + 9) + nI 1 else if j = 6 then S1 6 + nI 1 else S1 j
theorem gT3_val (N : jM) (m : Nat) {t r y : Nat} {own e bb num how s : Int32} (ht : t < 6) (j : Nat) : gT3 (gT2 N m t r y own e bb num how) m s (m + 1) j = gT3v (N (m + 1)) t y own e bb num how (gCo N m t r y bb) s j := by
  unfold gT3 gT2 mTl gT1 gT3v
  by_cases h0 : j = 9
  · subst h0
    rw [if_pos rfl, jup_eq, jup_nk _ _ (by omega), jup_nk _ _ (by omega), jup_nk _ _ (by omega), jup_nk _ _ (by omega), jup_nk _ _ (by omega), jup_nk _ _ (by omega), jup_nk _ _ (by omega), jup_nk _ _ (by omega), jup_nk _ _ (by omega), jup_nk _ _ (by omega)]
  by_cases h1 : j = 27
  · subst h1
    rw [if_neg (show ¬ 27 = 9 by omega), if_pos rfl, jup_nk _ _ (by omega), jup_eq]
  by_cases h2 : j = 26
  · subst h2
    rw [if_neg (show ¬ 26 = 9 by omega), if_neg (show ¬ 26 = 27 by omega), if_pos rfl, jup_nk _ _ (by omega), jup_nk _ _ (by omega), jup_eq]
  by_cases h3 : j = 25
  · subst h3
    rw [if_neg (show ¬ 25 = 9 by omega), if_neg (show ¬ 25 = 27 by omega), if_neg (show ¬ 25 = 26 by omega), if_pos rfl, jup_nk _ _ (by omega), jup_nk _ _ (by omega), jup_nk _ _ (by omega), jup_eq]
  by_cases h4 : j = 24
  · subst h4
    rw [if_neg (show ¬ 24 = 9 by omega), if_neg (show ¬ 24 = 27 by omega), if_neg (show ¬ 24 = 26 by omega), if_neg (show ¬ 24 = 25 by omega), if_pos rfl, jup_nk _ _ (by omega), jup_nk _ _ (by omega), jup_nk _ _ (by omega), jup_nk _ _ (by omega), jup_eq]
  by_cases h5 : j = 23
  · subst h5
    rw [if_neg (show ¬ 23 = 9 by omega), if_neg (show ¬ 23 = 27 by omega), if_neg (show ¬ 23 = 26 by omega), if_neg (show ¬ 23 = 25 by omega), if_neg (show ¬ 23 = 24 by omega), if_pos rfl, jup_nk _ _ (by omega), jup_nk _ _ (by omega), jup_nk _ _ (by omega), jup_nk _ _ (by omega), jup_nk _ _ (by omega), jup_eq]
  by_cases h6 : j = 22
  · subst h6
    rw [if_neg (show ¬ 22 = 9 by omega), if_neg (show ¬ 22 = 27 by omega), if_neg (show ¬ 22 = 26 by omega), if_neg (show ¬ 22 = 25 by omega), if_neg (show ¬ 22 = 24 by omega), if_neg (show ¬ 22 = 23 by omega), if_pos rfl, jup_nk _ _ (by omega), jup_nk _ _ (by omega), jup_nk _ _ (by omega), jup_nk _ _ (by omega), jup_nk _ _ (by omega), jup_nk _ _ (by omega), jup_eq]
  by_cases h7 : j = 21
  · subst h7
    rw [if_neg (show ¬ 21 = 9 by omega), if_neg (show ¬ 21 = 27 by omega), if_neg (show ¬ 21 = 26 by omega), if_neg (show ¬ 21 = 25 by omega), if_neg (show ¬ 21 = 24 by omega), if_neg (show ¬ 21 = 23 by omega), if_neg (show ¬ 21 = 22 by omega), if_pos rfl, jup_nk _ _ (by omega), jup_nk _ _ (by omega), jup_nk _ _ (by omega), jup_nk _ _ (by omega), jup_nk _ _ (by omega), jup_nk _ _ (by omega), jup_nk _ _ (by omega), jup_eq]
  by_cases h8 : j = 7
  · subst h8
    rw [if_neg (show ¬ 7 = 9 by omega), if_neg (show ¬ 7 = 27 by omega), if_neg (show ¬ 7 = 26 by omega), if_neg (show ¬ 7 = 25 by omega), if_neg (show ¬ 7 = 24 by omega), if_neg (show ¬ 7 = 23 by omega), if_neg (show ¬ 7 = 22 by omega), if_neg (show ¬ 7 = 21 by omega), if_pos rfl, jup_nk _ _ (by omega), jup_nk _ _ (by omega), jup_nk _ _ (by omega), jup_nk _ _ (by omega), jup_nk _ _ (by omega), jup_nk _ _ (by omega), jup_nk _ _ (by omega), jup_nk _ _ (by omega), jup_eq, jup_nk _ _ (by omega), jup_nk _ _ (by omega)]
  by_cases h9 : j = 307 + 10 * t + 9
  · subst h9
    rw [if_neg (show ¬ 307 + 10 * t + 9 = 9 by omega), if_neg (show ¬ 307 + 10 * t + 9 = 27 by omega), if_neg (show ¬ 307 + 10 * t + 9 = 26 by omega), if_neg (show ¬ 307 + 10 * t + 9 = 25 by omega), if_neg (show ¬ 307 + 10 * t + 9 = 24 by omega), if_neg (show ¬ 307 + 10 * t + 9 = 23 by omega), if_neg (show ¬ 307 + 10 * t + 9 = 22 by omega), if_neg (show ¬ 307 + 10 * t + 9 = 21 by omega), if_neg (show ¬ 307 + 10 * t + 9 = 7 by omega), if_pos rfl, jup_nk _ _ (by omega), jup_nk _ _ (by omega), jup_nk _ _ (by omega), jup_nk _ _ (by omega), jup_nk _ _ (by omega), jup_nk _ _ (by omega), jup_nk _ _ (by omega), jup_nk _ _ (by omega), jup_nk _ _ (by omega), jup_eq, jup_nk _ _ (by omega)]
  by_cases h10 : j = 6
  · subst h10
    rw [if_neg (show ¬ 6 = 9 by omega), if_neg (show ¬ 6 = 27 by omega), if_neg (show ¬ 6 = 26 by omega), if_neg (show ¬ 6 = 25 by omega), if_neg (show ¬ 6 = 24 by omega), if_neg (show ¬ 6 = 23 by omega), if_neg (show ¬ 6 = 22 by omega), if_neg (show ¬ 6 = 21 by omega), if_neg (show ¬ 6 = 7 by omega), if_neg (show ¬ 6 = 307 + 10 * t + 9 by omega), if_pos rfl, jup_nk _ _ (by omega), jup_nk _ _ (by omega), jup_nk _ _ (by omega), jup_nk _ _ (by omega), jup_nk _ _ (by omega), jup_nk _ _ (by omega), jup_nk _ _ (by omega), jup_nk _ _ (by omega), jup_nk _ _ (by omega), jup_nk _ _ (by omega), jup_eq]
  rw [if_neg h0, if_neg h1, if_neg h2, if_neg h3, if_neg h4, if_neg h5, if_neg h6, if_neg h7, if_neg h8, if_neg h9, if_neg h10, jup_nk _ _ h0, jup_nk _ _ h1, jup_nk _ _ h2, jup_nk _ _ h3, jup_nk _ _ h4, jup_nk _ _ h5, jup_nk _ _ h6, jup_nk _ _ h7, jup_nk _ _ h8, jup_nk _ _ h9, jup_nk _ _ h10]
theorem gT4_val (T : jM) (m q : Nat) (s : Int32) (j : Nat) : gT4 T m q s (m + 1) j = if j = 367 + 9 * q + 6 then T (m + 1) (367 + 9 * q + 6) + s else if j = 367 + 9 * q + 8 then T (m + 1) 6 else if j = 367 + 9 * q + 5 then T (m + 1) (367 + 9 * q + 5) + nI 1 else T (m + 1) j := by
  unfold gT4 gU3 gU2 gU1
  by_cases h0 : j = 367 + 9 * q + 6
  · subst h0
    rw [if_pos rfl, jup_eq, jup_nk _ _ (by omega), jup_nk _ _ (by omega)]
  by_cases h1 : j = 367 + 9 * q + 8
  · subst h1
    rw [if_neg (by omega), if_pos rfl, jup_nk _ _ (by omega), jup_eq, jup_nk _ _ (by omega)]
  by_cases h2 : j = 367 + 9 * q + 5
  · subst h2
    rw [if_neg (by omega), if_neg (by omega), if_pos rfl, jup_nk _ _ (by omega), jup_nk _ _ (by omega), jup_eq]
  rw [if_neg h0, if_neg h1, if_neg h2, jup_nk _ _ h0, jup_nk _ _ h1, jup_nk _ _ h2]
theorem gT3v_o {S1 : Nat → Int32} {t y : Nat} {own e bb num how cost s : Int32} {j : Nat} (h : ¬ (j = 6 ∨ j = 7 ∨ j = 9 ∨ (21 ≤ j ∧ j ≤ 27) ∨ j = 307 + 10 * t + 9)) : gT3v S1 t y own e bb num how cost s j = S1 j := by
  unfold gT3v
  rw [if_neg (by omega), if_neg (by omega), if_neg (by omega), if_neg (by omega), if_neg (by omega), if_neg (by omega), if_neg (by omega), if_neg (by omega), if_neg (by omega), if_neg (by omega), if_neg (by omega)]
/-- where the law stands as a run is counted: N1 are the words, bb tells whether the plan was there -/
def lP5 (Mc : jM) (d r c n1 b : Nat) (N1 : jM) (m t : Nat) (own how bb : Int32) : Prop := (∀ k, k < 16 → k ≠ 7 → Mc d k = N1 (m + 1) k) ∧ Mc d 7 = N1 (m + 1) 7 + bb ∧ (∀ k, k < r → Mc (d + 1) k = nI (lPk (N1 (m + 1)) k)) ∧ (∀ i, i < 128 → Mc (d + 2) i = N1 (m + 1) (179 + i)) ∧ lSt Mc d (N1 (m + 1)) c ∧ lPl Mc d (N1 (m + 1)) n1 ∧
  (Mc (d + 5) 0 = N1 (m + 1) 16 ∧ Mc (d + 5) 5 = own ∧ Mc (d + 5) 10 = how ∧ Mc (d + 5) 12 = N1 (m + 1) 28) ∧ xKn (N1 (m + 1)) ∧ xRn (N1 (m + 1)) c ∧ xSp (N1 (m + 1)) n1 b ∧ zRd (N1 (m + 1)) r c ∧ N1 (m + 1) 4 = nI n1 ∧ n1 ≤ 8 ∧ t < c
section T5
variable {Mc M5 M6 M7 M8 N1 T : jM} {d r c n1 b m t y q : Nat} {own how bb num est cost s ss : Int32} {S : Nat → Int32}
theorem sI_up {f g : Nat → Int32} {x : Int32} {t : Nat} : ∀ n, t < n → (∀ k, k < n → g k = if k = t then f k + x else f k) → sI g n = sI f n + x
  | 0, h, _ => absurd h (Nat.not_lt_zero t)
  | n + 1, h, e => by
    show sI g n + g n = sI f n + f n + x
    rw [e n (Nat.lt_succ_self n)]
    by_cases k : n = t
    · subst k
      rw [if_pos rfl, sI_congr (g := f) (fun j hj => by rw [e j (by omega), if_neg (by omega)]), Int32.add_assoc]
    · rw [if_neg k, sI_up n (by omega) (fun j hj => e j (by omega)), Int32.add_assoc, Int32.add_assoc, Int32.add_comm x]
/-- counted: the shared part -/
theorem t5_7 (P : lP5 Mc d r c n1 b N1 m t own how bb) (h5 : M5 = jup (jup Mc d 6 (N1 (m + 1) 6 + nI 1)) (d + 3) (2 * t + 1) (N1 (m + 1) (307 + 10 * t + 9) + nI 1)) (h6 : M6 = jup (jup (jup (jup (jup M5 (d + 5) 6 num) (d + 5) 7 (nI y)) (d + 5) 8 est) (d + 5) 9 cost) (d + 5) 11 s) (h7 : M7 = jup M6 d 9 (N1 (m + 1) 9 + s)) (hb : b ≤ 100000) :
    lA M7 d (gT3v (N1 (m + 1)) t y own est bb num how cost s) r n1 c (b + 1) := by
  obtain ⟨p1, p7, pr, pk, ps, pp, ⟨l0, l5, l10, l12⟩, xk, xr, xs, Z, e4, hn1, ht⟩ := P
  have hc6 := Z.2.2.2.2.1
  have hr30 := Z.2.1
  have m1 : ∀ i, i = 1 ∨ i = 2 ∨ i = 4 → M7 (d + i) = Mc (d + i) := fun i hi => by
    rw [h7, jup_row _ _ (by omega), h6, jup_row _ _ (by omega), jup_row _ _ (by omega), jup_row _ _ (by omega), jup_row _ _ (by omega), jup_row _ _ (by omega), h5, jup_row _ _ (by omega), jup_row _ _ (by omega)]
  have m0 : ∀ i, i ≠ 9 → M7 d i = jup Mc d 6 (N1 (m + 1) 6 + nI 1) d i := fun i hi => by
    rw [h7, jup_nk _ _ hi, h6, jup_row _ _ (by omega), jup_row _ _ (by omega), jup_row _ _ (by omega), jup_row _ _ (by omega), jup_row _ _ (by omega), h5, jup_row _ _ (by omega)]
  have m3 : M7 (d + 3) = jup Mc (d + 3) (2 * t + 1) (N1 (m + 1) (307 + 10 * t + 9) + nI 1) (d + 3) := by
    rw [h7, jup_row _ _ (by omega), h6, jup_row _ _ (by omega), jup_row _ _ (by omega), jup_row _ _ (by omega), jup_row _ _ (by omega), jup_row _ _ (by omega), h5]
    funext i
    by_cases e : i = 2 * t + 1
    · rw [e, jup_eq, jup_eq]
    · rw [jup_nk _ _ e, jup_nk _ _ e, jup_row _ _ (by omega)]
  have m5 : M7 (d + 5) = M6 (d + 5) := by rw [h7, jup_row _ _ (by omega)]
  have m5o : ∀ i, i ≠ 6 → i ≠ 7 → i ≠ 8 → i ≠ 9 → i ≠ 11 → M6 (d + 5) i = Mc (d + 5) i := fun i a1 a2 a3 a4 a5 => by rw [h6, jup_nk _ _ a5, jup_nk _ _ a4, jup_nk _ _ a3, jup_nk _ _ a2, jup_nk _ _ a1, h5, jup_row _ _ (by omega), jup_row _ _ (by omega)]
  have eo : ∀ j, ¬ (j = 6 ∨ j = 7 ∨ j = 9 ∨ (21 ≤ j ∧ j ≤ 27) ∨ j = 307 + 10 * t + 9) → gT3v (N1 (m + 1)) t y own est bb num how cost s j = N1 (m + 1) j := fun j hj => gT3v_o hj
  have v6 : gT3v (N1 (m + 1)) t y own est bb num how cost s 6 = N1 (m + 1) 6 + nI 1 := by
    unfold gT3v
    rw [if_neg (by decide), if_neg (by decide), if_neg (by decide), if_neg (by decide), if_neg (by decide), if_neg (by decide), if_neg (by decide), if_neg (by decide), if_neg (by decide), if_neg (by omega), if_pos rfl]
  have vt : gT3v (N1 (m + 1)) t y own est bb num how cost s (307 + 10 * t + 9) = N1 (m + 1) (307 + 10 * t + 9) + nI 1 := by
    unfold gT3v
    rw [if_neg (by omega), if_neg (by omega), if_neg (by omega), if_neg (by omega), if_neg (by omega), if_neg (by omega), if_neg (by omega), if_neg (by omega), if_neg (by omega), if_pos rfl]
  refine ⟨fun k hk => ?_, fun k hk => ?_, fun i hi => ?_, fun i hi => ?_, fun p hp => ?_, ⟨?_, fun w hw => ?_⟩, xKn_c xk (fun j hj => eo j (by omega)), ⟨?_, ?_⟩, xSp_c xs (by omega) (fun j h1 h2 => eo j (by omega))⟩
  · by_cases k9 : k = 9
    · rw [k9, h7, jup_eq]; rfl
    · rw [m0 k k9]
      by_cases k6 : k = 6
      · rw [k6, jup_eq, v6]
      · rw [jup_nk _ _ k6]
        by_cases k7 : k = 7
        · rw [k7, p7]; rfl
        · rw [p1 k hk k7, eo k (by omega)]
  · rw [m1 1 (by decide), pr k hk, lPk_c (S := N1 (m + 1)) (fun j hj => eo _ (by omega))]
  · rw [m1 2 (by decide), pk i hi, eo _ (by omega)]
  · rw [m3, jup_nk _ _ (by omega), lCode_c (S := N1 (m + 1)) (zN4_of Z i hi) (fun j a1 a2 => eo j (by omega))]
    refine ⟨(ps i hi).1, ?_⟩
    by_cases it : i = t
    · rw [it, jup_eq, vt]
    · rw [jup_nk _ _ (by omega), (ps i hi).2, eo _ (by omega)]
  · rw [m1 4 (by decide), eo _ (by omega), eo _ (by omega), eo _ (by omega)]
    exact ⟨fun j hj => by rw [eo _ (by omega)]; exact (pp p hp).1 j hj, (pp p hp).2⟩
  · rw [m5, m5o 0 (by decide) (by decide) (by decide) (by decide) (by decide), l0, eo _ (by omega)]
  · rw [m5]
    match w, hw with
    | 0, _ => exact (m5o 5 (by decide) (by decide) (by decide) (by decide) (by decide)).trans l5
    | 1, _ => rw [h6, jup_nk _ _ (by decide), jup_nk _ _ (by decide), jup_nk _ _ (by decide), jup_nk _ _ (by decide)]; exact jup_eq _ _ _ _
    | 2, _ => rw [h6, jup_nk _ _ (by decide), jup_nk _ _ (by decide), jup_nk _ _ (by decide)]; exact jup_eq _ _ _ _
    | 3, _ => rw [h6, jup_nk _ _ (by decide), jup_nk _ _ (by decide)]; exact jup_eq _ _ _ _
    | 4, _ => rw [h6, jup_nk _ _ (by decide)]; exact jup_eq _ _ _ _
    | 5, _ => exact (m5o 10 (by decide) (by decide) (by decide) (by decide) (by decide)).trans l10
    | 6, _ => rw [h6]; exact jup_eq _ _ _ _
    | 7, _ => exact ((m5o 12 (by decide) (by decide) (by decide) (by decide) (by decide)).trans l12).trans (eo 28 (by omega)).symm
  · rw [v6, ← xr.1]
    exact sI_up c ht (fun k hk => by
      by_cases kt : k = t
      · rw [if_pos kt, kt, vt]
      · rw [if_neg kt, eo _ (by omega)])
  · rw [eo 1 (by omega)]
    exact xr.2
/-- counted, with a kept plan at q -/
theorem t5_8 (A : lA M7 d S r n1 c (b + 1)) (xs : xSp S n1 b) (hr : r ≤ 30) (hc : c ≤ 6) (hz4 : ∀ t, t < c → zN S t ≤ 4) (hq : q < n1) (hn : n1 ≤ 8) (hs : s = nI 0 ∨ s = nI 1) (hss : ss = nI 2 * s) (e8 : M8 = jup (jup (jup M7 (d + 4) (8 * q + 5) (S (367 + 9 * q + 5) + nI 1)) (d + 4) (8 * q + 6) (M7 (d + 4) (8 * q + 6) + ss)) (d + 4) (8 * q + 7) (S 6)) (eT : ∀ j, T (m + 1) j = S j) :
    lA M8 d (gT4 T m q s (m + 1)) r n1 c (b + 1) := by
  obtain ⟨a1, a2, a3, a4, a5, a6, a7, a8, a9⟩ := A
  have v : ∀ j, gT4 T m q s (m + 1) j = if j = 367 + 9 * q + 6 then S (367 + 9 * q + 6) + s else if j = 367 + 9 * q + 8 then S 6 else if j = 367 + 9 * q + 5 then S (367 + 9 * q + 5) + nI 1 else S j := fun j => by rw [gT4_val, eT, eT, eT, eT]
  have eo : ∀ j, j ≠ 367 + 9 * q + 6 → j ≠ 367 + 9 * q + 8 → j ≠ 367 + 9 * q + 5 → gT4 T m q s (m + 1) j = S j := fun j h1 h2 h3 => by rw [v, if_neg h1, if_neg h2, if_neg h3]
  have v6 : gT4 T m q s (m + 1) (367 + 9 * q + 6) = S (367 + 9 * q + 6) + s := by rw [v, if_pos rfl]
  have v8 : gT4 T m q s (m + 1) (367 + 9 * q + 8) = S 6 := by rw [v, if_neg (by omega), if_pos rfl]
  have v5 : gT4 T m q s (m + 1) (367 + 9 * q + 5) = S (367 + 9 * q + 5) + nI 1 := by rw [v, if_neg (by omega), if_neg (by omega), if_pos rfl]
  have mo : ∀ i, i < 4 ∨ i = 5 → M8 (d + i) = M7 (d + i) := fun i hi => by rw [e8, jup_row _ _ (by omega), jup_row _ _ (by omega), jup_row _ _ (by omega)]
  have m4 : ∀ i, i ≠ 8 * q + 5 → i ≠ 8 * q + 6 → i ≠ 8 * q + 7 → M8 (d + 4) i = M7 (d + 4) i := fun i h1 h2 h3 => by rw [e8, jup_nk _ _ h3, jup_nk _ _ h2, jup_nk _ _ h1]
  refine ⟨fun k hk => by rw [show M8 d = M7 d from mo 0 (by decide), a1 k hk, eo _ (by omega) (by omega) (by omega)], fun k hk => by rw [mo 1 (by decide), a2 k hk, lPk_c (S := S) (fun j hj => eo _ (by omega) (by omega) (by omega))], fun i hi => by rw [mo 2 (by decide), a3 i hi, eo _ (by omega) (by omega) (by omega)], lSt_c hz4 a4 (mo 3 (by decide)) (fun j h1 h2 => eo j (by omega) (by omega) (by omega)), fun p hp => ?_, lLs_c a6 (mo 5 (by decide)) (fun j h1 h2 => eo j (by omega) (by omega) (by omega)), xKn_c a7 (fun j hj => eo j (by omega) (by omega) (by omega)), xRn_c a8 (fun j hj => eo j (by omega) (by omega) (by omega)), fun p hp => ?_⟩
  · obtain ⟨g1, g2, g3⟩ := a5 p hp
    by_cases pq : p = q
    · subst pq
      refine ⟨fun j hj => ?_, ?_, ?_⟩
      · by_cases j5 : j = 5
        · rw [j5, v5, e8, jup_nk _ _ (by omega), jup_nk _ _ (by omega), jup_eq]
        · rw [m4 _ (by omega) (by omega) (by omega), eo _ (by omega) (by omega) (by omega)]; exact g1 j hj
      · rw [v6, eo (367 + 9 * p + 7) (by omega) (by omega) (by omega), e8, jup_nk _ _ (by omega), jup_eq, g2, hss, Int32.mul_add, Int32.add_assoc]
      · rw [v8, e8, jup_eq]
    · refine ⟨fun j hj => ?_, ?_, ?_⟩
      · rw [m4 _ (by omega) (by omega) (by omega), eo _ (by omega) (by omega) (by omega)]; exact g1 j hj
      · rw [m4 _ (by omega) (by omega) (by omega), eo _ (by omega) (by omega) (by omega), eo _ (by omega) (by omega) (by omega)]; exact g2
      · rw [m4 _ (by omega) (by omega) (by omega), eo _ (by omega) (by omega) (by omega)]; exact g3
  · obtain ⟨⟨s0, s1, s2⟩, z, z1, z2⟩ := xs p hp
    refine ⟨?_, z, z1, by rw [eo _ (by omega) (by omega) (by omega)]; exact z2⟩
    by_cases pq : p = q
    · subst pq
      rcases hs with hs | hs
      · exact ⟨s0 + 0, by omega, by rw [v6, s2, hs, nI_add]⟩
      · exact ⟨s0 + 1, by omega, by rw [v6, s2, hs, nI_add]⟩
    · exact ⟨s0, by omega, by rw [eo _ (by omega) (by omega) (by omega)]; exact s2⟩
/-- the plan at q is thrown away -/
theorem t5_9 (A : lA M8 d (T (m + 1)) r n1 c b) (hr : r ≤ 30) (hc : c ≤ 6) (hz4 : ∀ t, t < c → zN (T (m + 1)) t ≤ 4) (hq : q < n1) (hn : n1 ≤ 8) : lA (jup (lOut M8 d n1 q) d 10 (T (m + 1) 10 + nI 1)) d (jup (mOut T m n1 q) (m + 1) 10 (mOut T m n1 q (m + 1) 10 + nI 1) (m + 1)) r (n1 - 1) c b := by
  obtain ⟨a1, a2, a3, a4, a5, a6, a7, a8, a9⟩ := A
  have eS : ∀ j, j < 367 → j ≠ 4 → j ≠ 10 → jup (mOut T m n1 q) (m + 1) 10 (mOut T m n1 q (m + 1) 10 + nI 1) (m + 1) j = T (m + 1) j := fun j h1 h2 h3 => by rw [jup_nk _ _ h3, mOut_l _ h1 h2]
  have eP : ∀ p, p < n1 - 1 → ∀ w, w < 9 → jup (mOut T m n1 q) (m + 1) 10 (mOut T m n1 q (m + 1) 10 + nI 1) (m + 1) (367 + 9 * p + w) = T (m + 1) (367 + 9 * outG q p + w) := fun p hp w hw => by rw [jup_nk _ _ (by omega), mOut_pl _ _ hq hp hw]
  have mo : ∀ i, (0 < i ∧ i < 4) ∨ i = 5 → jup (lOut M8 d n1 q) d 10 (T (m + 1) 10 + nI 1) (d + i) = M8 (d + i) := fun i hi => by rw [jup_row _ _ (by omega), lOut_o _ (by omega) (by omega)]
  have m4 : jup (lOut M8 d n1 q) d 10 (T (m + 1) 10 + nI 1) (d + 4) = lOut M8 d n1 q (d + 4) := by rw [jup_row _ _ (by omega)]
  have P1 := lPl_out (S2 := jup (mOut T m n1 q) (m + 1) 10 (mOut T m n1 q (m + 1) 10 + nI 1) (m + 1)) a5 hq eP
  refine ⟨fun i hi => ?_, fun i hi => by rw [mo 1 (by decide), a2 i hi, lPk_c (S := T (m + 1)) (fun j hj => eS _ (by omega) (by omega) (by omega))], fun i hi => by rw [mo 2 (by decide), a3 i hi, eS _ (by omega) (by omega) (by omega)], lSt_c hz4 a4 (mo 3 (by decide)) (fun j h1 h2 => eS j (by omega) (by omega) (by omega)), fun p hp => by rw [m4]; exact P1 p hp, lLs_c a6 (mo 5 (by decide)) (fun j h1 h2 => eS j (by omega) (by omega) (by omega)), xKn_c a7 (fun j hj => eS j (by omega) (by omega) (by omega)), xRn_c a8 (fun j hj => eS j (by omega) (by omega) (by omega)), xSp_out a9 (Nat.le_refl b) hq eP⟩
  by_cases k0 : i = 10
  · rw [k0, jup_eq, jup_eq, mOut_l _ (by decide) (by decide)]
  · rw [jup_nk _ _ k0]
    by_cases k4 : i = 4
    · rw [k4, lOut_4, jup_nk _ _ (by decide)]
      exact (mOut_n _ _ _ _).symm
    · rw [lOut_g _ k4, a1 i hi, eS i (by omega) k4 k0]
end T5
