section ROW
variable {M M1 M2 N : jM} {R R1 : jR} {a h T v m b nh : Nat} {S S2 : Nat → Int32} {r n n' c b' k : Nat} {f f' : Nat → Nat}
theorem rCell_N (M : jM) {b r k : Nat} (h : r * 5 + k < 150) : rCell M b (nI r) (nI k) = M (b + 1) (r * 5 + k) := by rw [rCell, pk_mul, nI_add, rAt_N _ h (by decide)]
theorem putV_at (M : jM) {b v r : Nat} (hr : r < 30) (hv : v ≠ b + 1) : ∀ k, k ≤ 4 → (∀ i, i < k → rPutV M b v (nI r) k (b + 1) (r * 5 + i) = M v i) ∧ ∀ j, (j < r * 5 ∨ r * 5 + k ≤ j) → rPutV M b v (nI r) k (b + 1) j = M (b + 1) j
  | 0, _ => ⟨fun i hi => absurd hi (Nat.not_lt_zero i), fun _ _ => rfl⟩
  | k + 1, hk => by
    obtain ⟨i1, i2⟩ := putV_at M hr hv k (by omega)
    rw [rPutV, rPut_N _ _ _ (by omega), rAt_N _ (by omega) (by decide), rPutV_o _ hv]
    refine ⟨fun i hi => ?_, fun j hj => ?_⟩
    · by_cases d : i = k
      · subst d
        rw [jup_eq]
      · rw [jup_nk _ _ (by omega)]
        exact i1 i (by omega)
    · rw [jup_nk _ _ (by omega)]
      exact i2 j (by omega)
theorem rAddM_N (M : jM) {b c v : Nat} (w : Int32) (h : c * 32 + v < 128) : rAddM M b (nI c) (nI v) w = jup M (b + 1) (c * 32 + v) (M (b + 1) (c * 32 + v) + w) := by
  have e : nI c * nI 32 + nI v = nI (c * 32 + v) := by rw [pk_mul, nI_add]
  simp only [rAddM, e, if_neg (nI_pos (show c * 32 + v < 2 ^ 31 by omega)), if_neg (nI_ge h (by decide)), nI_clamp (show c * 32 + v < 2 ^ 31 by omega)]
theorem rATS_at (M : jM) {b r : Nat} {u : Nat → Nat} {w : Int32} (hr : r < 30) (hu : ∀ c, c < 4 → M (b + 1) (r * 5 + c) = nI (u c) ∧ u c < 32) {c x : Nat} (hc : c < 4) (hx : x < 32) : ∀ k, k ≤ 4 → rATS M b (nI r) w k (b + 3) (32 * c + x) = M (b + 3) (32 * c + x) + (if c < k ∧ u c = x then w else 0)
  | 0, _ => by rw [if_neg (by omega), Int32.add_zero]; rfl
  | k + 1, hk => by
    have ih := rATS_at M (w := w) hr hu hc hx k (by omega)
    obtain ⟨u1, u2⟩ := hu k (by omega)
    have ec : rCell (rATS M b (nI r) w k) b (nI r) (nI k) = nI (u k) := by rw [rCell_N _ (by omega), rATS_o _ (by omega), u1]
    rw [rATS, ec, rAddM_N _ _ (by omega)]
    by_cases d : c = k
    · subst d
      rw [if_neg (fun q => Nat.lt_irrefl _ q.1), Int32.add_zero] at ih
      by_cases d2 : u c = x
      · rw [d2, show c * 32 + x = 32 * c + x by omega, show b + 2 + 1 = b + 3 from rfl, jup_eq, ih, if_pos ⟨Nat.lt_succ_self c, rfl⟩]
      · rw [jup_nk _ _ (by omega), ih, if_neg (fun q => d2 q.2), Int32.add_zero]
    · rw [jup_nk _ _ (by omega), ih]
      by_cases d3 : c < k ∧ u c = x
      · rw [if_pos d3, if_pos ⟨by omega, d3.2⟩]
      · rw [if_neg d3, if_neg (by omega)]
theorem rAddTo_at (M : jM) {b r : Nat} {u : Nat → Nat} {w : Int32} (hr : r < 30) (hu : ∀ c, c < 4 → M (b + 1) (r * 5 + c) = nI (u c) ∧ u c < 32) : (∀ c, c < 4 → ∀ x, x < 32 → rAddTo M b (nI r) w (b + 3) (32 * c + x) = M (b + 3) (32 * c + x) + (if u c = x then w else 0)) ∧ rAddTo M b (nI r) w (b + 2) 1 = M (b + 2) 1 + w := by
  refine ⟨fun c hc x hx => ?_, ?_⟩
  · rw [rAddTo, jup_row _ _ (by omega), rATS_at M hr hu hc hx 4 (Nat.le_refl 4)]
    by_cases d : u c = x
    · rw [if_pos d, if_pos ⟨hc, d⟩]
    · rw [if_neg d, if_neg (fun q => d q.2)]
  · rw [rAddTo, jup_eq, rATS_o _ (by omega)]
theorem five {α : Type} {c0 c1 c2 c3 c4 : Prop} [Decidable c0] [Decidable c1] [Decidable c2] [Decidable c3] [Decidable c4] (x y : α) : (if c0 then x else if c1 then x else if c2 then x else if c3 then x else if c4 then x else y) = if (decide c0 || decide c1 || decide c2 || decide c3 || decide c4) = true then x else y := by
  by_cases h0 : c0
  · simp [h0]
  · by_cases h1 : c1
    · simp [h0, h1]
    · by_cases h2 : c2
      · simp [h0, h1, h2]
      · by_cases h3 : c3
        · simp [h0, h1, h2, h3]
        · by_cases h4 : c4
          · simp [h0, h1, h2, h3, h4]
          · simp [h0, h1, h2, h3, h4]
theorem sI_out (F : Nat → Int32) {p : Nat} : ∀ r, p < r → sI (fun k => F (outG p k)) (r - 1) + F p = sI F r
  | 0, h => absurd h (Nat.not_lt_zero p)
  | r + 1, h => by
    rw [Nat.add_sub_cancel]
    by_cases d : p = r
    · subst d
      have e : sI (fun k => F (outG p k)) p = sI F p := sI_congr (fun k hk => by rw [outG, if_pos hk])
      rw [e]
      rfl
    · have ih := sI_out F (p := p) r (by omega)
      have e : sI (fun k => F (outG p k)) r = sI (fun k => F (outG p k)) (r - 1) + F r := by
        have : r = (r - 1) + 1 := by omega
        rw [this]
        show sI (fun k => F (outG p k)) (r - 1) + F (outG p (r - 1)) = _
        rw [outG, if_neg (by omega), Nat.add_sub_cancel]
      rw [e, Int32.add_assoc, Int32.add_comm (F r) (F p), ← Int32.add_assoc, ih]
      rfl
/-- only the table and its sums change -/
theorem eR_table (e : eR M R a S b r n c f) (hs : SR R (a + 11)) (hM : ∀ x, a ≤ x → x < a + 43 → (x < a + 1 ∨ a + 5 ≤ x) → M1 x = M x) (hS : ∀ j, j ≠ 0 → (j < 29 ∨ 179 ≤ j) → S2 j = S j) (h1 : eTab M1 a S2 n') (h2 : eSum M1 a S2 n') (hb : b ≤ b') : eR M1 R a S2 b' n' n c f := by
  obtain ⟨-, -, h3, h4, h5, h6, h7, h8, h9⟩ := e
  have hc6 := h4.2.2.1
  have ez : ∀ t, t < c → zN S2 t = zN S t := fun t ht => zN_c (by omega) (fun j h1 h2 => hS j (by omega) (by omega))
  exact ⟨h1, h2, eKno_c h3 (by rw [hM _ (by omega) (by omega) (by omega)]) (fun j _ => by rw [hM _ (by omega) (by omega) (by omega)]) (fun j _ => hS j (by omega) (by omega)),
    eStm_c h4 (by rw [hM _ (by omega) (by omega) (by omega)]) (fun t ht j _ _ => by rw [hM _ (by omega) (by omega) (by omega)]) (fun t ht k hk => ⟨by rw [hM _ (by omega) (by omega) (by omega)], by rw [hM _ (by omega) (by omega) (by omega)]⟩) (fun j _ => hS j (by omega) (by omega)),
    eSet_c h5 (fun k hk => by rw [hM _ (by omega) (by omega) (by omega)]) (fun j _ _ => hS j (by omega) (by omega)),
    eCnt_c h6 ⟨by rw [hM _ (by omega) (by omega) (by omega)], by rw [hM _ (by omega) (by omega) (by omega)], by rw [hM _ (by omega) (by omega) (by omega)], by rw [hM _ (by omega) (by omega) (by omega)]⟩ ⟨by rw [hM _ (by omega) (by omega) (by omega)], by rw [hM _ (by omega) (by omega) (by omega)], by rw [hM _ (by omega) (by omega) (by omega)]⟩ (fun j _ _ => hS j (by omega) (by omega)),
    eLst_c h7 (Nat.le_refl c) (fun j _ _ => by rw [hM _ (by omega) (by omega) (by omega)]) (fun k _ => by rw [hM _ (by omega) (by omega) (by omega)]) (fun j _ _ => hS j (by omega) (by omega)) ez,
    eShf_c h8 (Nat.le_refl c) (by rw [hM _ (by omega) (by omega) (by omega)]) (fun k hk w hw => by
      obtain ⟨j0, hj0, ej0⟩ := hs.rg hk
      rw [hM _ (by omega) (by omega) (by omega)]) (fun j _ => hS j (by omega) (by omega)) ez, eDis_c h9 h8.2.2.1 hb (fun j _ => hS j (by omega) (by omega))⟩
theorem st_row (I : eInv M R a h T v m b nh) (e : eR M R a (M (m + 1)) b r n c f) (a0 a1 a2 a3 w : Int32) : (∀ y, v < y → mRow M R a h v nh a0 a1 a2 a3 w y = M y) ∧ fRow M R a h v nh a0 a1 a2 a3 w = zfRow r a0 a1 a2 a3 w ∧ ∃ nh', eInv (zmRow (mRow M R a h v nh a0 a1 a2 a3 w) m nh r a0 a1 a2 a3 w) (pRow M R a h nh a0 a1 a2 a3 w) a h T v m (b + 1) nh' := by
  obtain ⟨I1, I2, I3, I4, I5, -, I7, I8, I9, I10⟩ := id I
  obtain ⟨b1, b2, b3, b4, b5, b6⟩ := e.1
  have q0 : fRow M R a h v nh a0 a1 a2 a3 w = if zNo a0 a1 a2 a3 w = true then -1 else if M (a + 1) 2 < nI 30 then m3Row M R a h v nh a0 a1 a2 a3 w (a + 1) 2 - nI 1 else -3 := five _ _
  have q1 : mRow M R a h v nh a0 a1 a2 a3 w = if zNo a0 a1 a2 a3 w = true then M else if M (a + 1) 2 < nI 30 then m3Row M R a h v nh a0 a1 a2 a3 w else M := five _ _
  have q2 : pRow M R a h nh a0 a1 a2 a3 w = if zNo a0 a1 a2 a3 w = true then R else if M (a + 1) 2 < nI 30 then rPuR R h nh else R := five _ _
  by_cases c0 : zNo a0 a1 a2 a3 w = true
  · rw [if_pos c0] at q0 q1 q2
    rw [q0, q1, q2]
    refine ⟨fun _ _ => rfl, by rw [zfRow, if_pos c0], nh, ?_⟩
    rw [zmRow, if_pos c0]
    exact e_same0 I
  · rw [if_neg c0] at q0 q1 q2
    by_cases c1 : M (a + 1) 2 < nI 30
    · rw [if_pos c1] at q0 q1 q2
      have hr : r < 30 := by
        rw [b1] at c1
        exact (nI_ltI (by omega) (by decide)).mp c1
      have hrn : ¬ nI r = nI 30 := fun q => by
        have := (nI_eq (by omega) (by decide)).mp q
        omega
      simp only [zNo, Bool.or_eq_true, decide_eq_true_eq, not_or] at c0
      obtain ⟨⟨⟨⟨w0, w1⟩, w2⟩, w3⟩, w4⟩ := c0
      have c0 : ¬ zNo a0 a1 a2 a3 w = true := by simp [zNo, w0, w1, w2, w3, w4]
      obtain ⟨u0, v0, x0⟩ := rIn_N (by decide) w0
      obtain ⟨u1, v1, x1⟩ := rIn_N (by decide) w1
      obtain ⟨u2, v2, x2⟩ := rIn_N (by decide) w2
      obtain ⟨u3, v3, x3⟩ := rIn_N (by decide) w3
      obtain ⟨u4, v4, v4', x4⟩ := rIn_of w4 (by decide) (by decide)
      obtain ⟨pe, pA, oa, ra⟩ := e_psh I e
      have hP : ∀ x, (x < h ∨ h + 174 ≤ x) → rPuM M R h a nh x = M x := fun x hx => rPuM_o I1 hx
      -- the values of the call
      have g0 : rGiv (rPuM M R h a nh) v a0 a1 a2 a3 v 0 = a0 := by rw [rGiv, jup_nk _ _ (by decide), jup_nk _ _ (by decide), jup_nk _ _ (by decide), jup_eq]
      have g1 : rGiv (rPuM M R h a nh) v a0 a1 a2 a3 v 1 = a1 := by rw [rGiv, jup_nk _ _ (by decide), jup_nk _ _ (by decide), jup_eq]
      have g2 : rGiv (rPuM M R h a nh) v a0 a1 a2 a3 v 2 = a2 := by rw [rGiv, jup_nk _ _ (by decide), jup_eq]
      have g3 : rGiv (rPuM M R h a nh) v a0 a1 a2 a3 v 3 = a3 := by rw [rGiv, jup_eq]
      have go : ∀ x, x ≠ v → rGiv (rPuM M R h a nh) v a0 a1 a2 a3 x = rPuM M R h a nh x := fun x hx => rGiv_o _ hx
      have gr : rGiv (rPuM M R h a nh) v a0 a1 a2 a3 (a + 1) 2 = nI r := by rw [go _ (by omega), oa _ (by omega), b1]
      have pv := putV_at (rGiv (rPuM M R h a nh) v a0 a1 a2 a3) (b := a + 1) (v := v) hr (by omega) 4 (Nat.le_refl 4)
      have po : ∀ x, x ≠ a + 2 → rPutV (rGiv (rPuM M R h a nh) v a0 a1 a2 a3) (a + 1) v (nI r) 4 x = rGiv (rPuM M R h a nh) v a0 a1 a2 a3 x := fun x hx => rPutV_o _ (by omega) 4
      -- with the weight
      have eW : rPut (rPutV (rGiv (rPuM M R h a nh) v a0 a1 a2 a3) (a + 1) v (nI r) 4) (a + 1) (nI r) (nI 4) w = jup (rPutV (rGiv (rPuM M R h a nh) v a0 a1 a2 a3) (a + 1) v (nI r) 4) (a + 2) (r * 5 + 4) w := rPut_N _ _ _ (by omega)
      have e3 : m3Row M R a h v nh a0 a1 a2 a3 w = jup (rAddTo (jup (rPutV (rGiv (rPuM M R h a nh) v a0 a1 a2 a3) (a + 1) v (nI r) 4) (a + 2) (r * 5 + 4) w) (a + 1) (nI r) w) (a + 1) 2 (nI (r + 1)) := by
        unfold m3Row rApp
        simp only [gr]
        have y1 : rPutV (rGiv (rPuM M R h a nh) v a0 a1 a2 a3) (a + 1) v (nI r) 4 (a + 1) 2 = nI r := by rw [po _ (by omega), gr]
        rw [y1, eW]
        have y2 : jup (rPutV (rGiv (rPuM M R h a nh) v a0 a1 a2 a3) (a + 1) v (nI r) 4) (a + 2) (r * 5 + 4) w (a + 1) 2 = nI r := by rw [jup_row _ _ (by omega), y1]
        rw [y2, rAddTo_o _ (by omega) (by omega), y2, nI_add]
      generalize hB : jup (rPutV (rGiv (rPuM M R h a nh) v a0 a1 a2 a3) (a + 1) v (nI r) 4) (a + 2) (r * 5 + 4) w = B at e3
      have Bo : ∀ x, x ≠ a + 2 → x ≠ v → B x = rPuM M R h a nh x := fun x hx hv => by rw [← hB, jup_row _ _ hx, po x hx, go x hv]
      have Bn : ∀ i, i < 4 → B (a + 2) (r * 5 + i) = rGiv (rPuM M R h a nh) v a0 a1 a2 a3 v i := fun i hi => by rw [← hB, jup_nk _ _ (by omega)]; exact pv.1 i hi
      have B4 : B (a + 2) (r * 5 + 4) = w := by rw [← hB, jup_eq]
      have Bold : ∀ j, j < r * 5 → B (a + 2) j = M (a + 2) j := fun j hj => by
        rw [← hB, jup_nk _ _ (by omega)]
        refine (pv.2 j (Or.inl hj)).trans ?_
        rw [go _ (by omega), oa _ (by omega)]
      have hu : ∀ c, c < 4 → B (a + 1 + 1) (r * 5 + c) = nI ((fun c => if c = 0 then u0 else if c = 1 then u1 else if c = 2 then u2 else u3) c) ∧ (fun c => if c = 0 then u0 else if c = 1 then u1 else if c = 2 then u2 else u3) c < 32 := fun c hc => by
        have := Bn c hc
        match c, hc with
        | 0, _ => exact ⟨this.trans (g0.trans x0), by show u0 < 32; omega⟩
        | 1, _ => exact ⟨this.trans (g1.trans x1), by show u1 < 32; omega⟩
        | 2, _ => exact ⟨this.trans (g2.trans x2), by show u2 < 32; omega⟩
        | 3, _ => exact ⟨this.trans (g3.trans x3), by show u3 < 32; omega⟩
      generalize (fun c : Nat => if c = 0 then u0 else if c = 1 then u1 else if c = 2 then u2 else u3) = u at hu
      obtain ⟨A1, A2⟩ := rAddTo_at B (w := w) hr hu
      have o1 : ∀ x, (x < a + 1 ∨ a + 5 ≤ x) → x ≠ v → mRow M R a h v nh a0 a1 a2 a3 w x = rPuM M R h a nh x := fun x hx hv => by rw [q1, e3, jup_row _ _ (by omega), rAddTo_o _ (by omega) (by omega), Bo x (by omega) hv]
      have r2 : mRow M R a h v nh a0 a1 a2 a3 w (a + 1) 2 = nI (r + 1) := by rw [q1, e3, jup_eq]
      have rc : ∀ j, mRow M R a h v nh a0 a1 a2 a3 w (a + 2) j = B (a + 2) j := fun j => by rw [q1, e3, jup_row _ _ (by omega), rAddTo_o _ (by omega) (by omega)]
      have c1' : ∀ x, (x < a ∨ a + 43 ≤ x) → x ≠ v → mRow M R a h v nh a0 a1 a2 a3 w x = rPuM M R h a nh x := fun x hx hv => o1 x (by omega) hv
      have md := e_mod I c1'
      have q3 : zmRow (mRow M R a h v nh a0 a1 a2 a3 w) m nh r a0 a1 a2 a3 w = mRowX (mChg (mRow M R a h v nh a0 a1 a2 a3 w) m nh) m r a0 a1 a2 a3 w := by rw [zmRow, if_neg c0, if_neg hrn]
      have em : ∀ j, mChg (mRow M R a h v nh a0 a1 a2 a3 w) m nh (m + 1) j = M (m + 1) j := fun j => by rw [mChg_o _ (by omega) (by omega), md (m + 1) (by omega)]
      have s1 : ∀ j, j ≠ 0 → (j < 29 + 5 * r ∨ 29 + 5 * r + 5 ≤ j) → zmRow (mRow M R a h v nh a0 a1 a2 a3 w) m nh r a0 a1 a2 a3 w (m + 1) j = M (m + 1) j := fun j hj hj2 => by
        rw [q3, mRowX, jup_nk _ _ hj, jup_nk _ _ (by omega), jup_nk _ _ (by omega), jup_nk _ _ (by omega), jup_nk _ _ (by omega), jup_nk _ _ (by omega), em]
      have s0 : zmRow (mRow M R a h v nh a0 a1 a2 a3 w) m nh r a0 a1 a2 a3 w (m + 1) 0 = nI (r + 1) := by rw [q3, mRowX, jup_eq]
      have s4 : zmRow (mRow M R a h v nh a0 a1 a2 a3 w) m nh r a0 a1 a2 a3 w (m + 1) (29 + 5 * r + 4) = w := by rw [q3, mRowX, jup_nk _ _ (by omega), jup_eq]
      have sx : ∀ i, i < 4 → zmRow (mRow M R a h v nh a0 a1 a2 a3 w) m nh r a0 a1 a2 a3 w (m + 1) (29 + 5 * r + i) = nI (u i) := fun i hi => by
        have hB := (Bn i hi).symm.trans (hu i hi).1
        match i, hi with
        | 0, _ => rw [← hB, g0, q3, mRowX, jup_nk _ _ (by omega), jup_nk _ _ (by omega), jup_nk _ _ (by omega), jup_nk _ _ (by omega), jup_nk _ _ (by omega)]; exact jup_eq _ _ _ _
        | 1, _ => rw [← hB, g1, q3, mRowX, jup_nk _ _ (by omega), jup_nk _ _ (by omega), jup_nk _ _ (by omega), jup_nk _ _ (by omega), jup_eq]
        | 2, _ => rw [← hB, g2, q3, mRowX, jup_nk _ _ (by omega), jup_nk _ _ (by omega), jup_nk _ _ (by omega), jup_eq]
        | 3, _ => rw [← hB, g3, q3, mRowX, jup_nk _ _ (by omega), jup_nk _ _ (by omega), jup_eq]
      refine ⟨md, ?_, hNp nh, ?_⟩
      · rw [q0, zfRow, if_neg c0, if_neg hrn, e3, jup_eq, pk_sub (by omega), Nat.add_sub_cancel]
      · rw [q2]
        refine e_op I c1' (fun _ _ => rfl) (fun y h1 h2 h3 => by rw [q3, mRowX, jup_row _ _ h2, jup_row _ _ h2, jup_row _ _ h2, jup_row _ _ h2, jup_row _ _ h2, jup_row _ _ h2]) (fun i hi => by rw [q3, mRowX, jup_row _ _ (by omega), jup_row _ _ (by omega), jup_row _ _ (by omega), jup_row _ _ (by omega), jup_row _ _ (by omega), jup_row _ _ (by omega)]) ⟨r + 1, n, c, f, ?_⟩ ⟨pA.1, pA.2.1, fun i hi => by
            obtain ⟨j0, hj0, ej0⟩ := pA.2.1.rg hi
            rw [o1 _ (by omega) (by omega)]
            exact pA.2.2.1 i hi, by rw [o1 _ (by omega) (by omega)]; exact pA.2.2.2.1, by rw [o1 _ (by omega) (by omega)]; exact pA.2.2.2.2⟩
        have hU := e.2.1
        refine eR_table pe pA.2.1 (fun x h1 h2 h3 => o1 x h3 (by omega)) (fun j h0 hj => s1 j h0 (by omega)) ⟨r2, s0, by omega, fun k hk x hx => ?_, fun k hk x hx => ?_, fun k hk => ?_⟩ ⟨fun x hx y hy => ?_, ?_⟩ (Nat.le_succ b)
        · rw [rc]
          by_cases d : k = r
          · subst d
            by_cases d2 : x = 4
            · subst d2
              rw [s4, Nat.mul_comm 5 k, B4]
            · rw [sx x (by omega), Nat.mul_comm 5 k]
              exact (hu x (by omega)).1
          · rw [s1 _ (by omega) (by omega), Bold _ (by omega)]
            exact b4 k (by omega) x hx
        · by_cases d : k = r
          · subst d
            rw [zV, sx x hx, nI_clamp (by have := (hu x hx).2; omega)]
            exact ⟨rfl, (hu x hx).2⟩
          · rw [zV, s1 _ (by omega) (by omega)]
            exact b5 k (by omega) x hx
        · by_cases d : k = r
          · subst d
            exact ⟨u4, v4, v4', by rw [s4, x4]⟩
          · rw [s1 _ (by omega) (by omega)]
            exact b6 k (by omega)
        · have e1 : mRow M R a h v nh a0 a1 a2 a3 w (a + 4) (32 * x + y) = B (a + 4) (32 * x + y) + (if u x = y then w else 0) := by
            rw [q1, e3, jup_row _ _ (by omega)]
            exact A1 x hx y hy
          rw [e1, Bo _ (by omega) (by omega), oa _ (by omega), hU.1 x hx y hy]
          show _ = sI _ r + eOne _ x y r
          congr 1
          · refine sI_congr (fun k hk => ?_)
            rw [eOne, eOne, s1 _ (by omega) (by omega), s1 _ (by omega) (by omega)]
          · rw [eOne, sx x hx, s4]
            by_cases d : u x = y
            · rw [if_pos d, if_pos (by rw [d])]
            · rw [if_neg d, if_neg (fun q => d ((nI_eq (by have := (hu x hx).2; omega) (by omega)).mp q)), nI_0]
        · have e1 : mRow M R a h v nh a0 a1 a2 a3 w (a + 3) 1 = B (a + 3) 1 + w := by
            rw [q1, e3, jup_row _ _ (by omega)]
            exact A2
          rw [e1, Bo _ (by omega) (by omega), oa _ (by omega), hU.2]
          show _ = sI _ r + zRowW _ r
          congr 1
          · refine sI_congr (fun k hk => ?_)
            rw [zRowW, zRowW, s1 _ (by omega) (by omega)]
          · rw [zRowW, s4]
    · have hr : r = 30 := by
        rw [b1] at c1
        have := mt (nI_ltI (by omega) (by decide)).mpr c1
        omega
      rw [if_neg c1] at q0 q1 q2
      rw [q0, q1, q2]
      refine ⟨fun _ _ => rfl, by rw [zfRow, if_neg c0, if_pos (by rw [hr])], nh, ?_⟩
      rw [zmRow, if_neg c0, if_pos (by rw [hr])]
      exact e_same0 I
end ROW
