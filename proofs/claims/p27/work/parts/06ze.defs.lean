def eR (M : jM) (R : jR) (a : Nat) (S : Nat → Int32) (b r n c : Nat) (f : Nat → Nat) : Prop := eTab M a S r ∧ eSum M a S r ∧ eKno M a S ∧ eStm M a S c ∧ eSet M a S ∧ eCnt M a S ∧ eLst M a S c ∧ eShf M R a S n c f ∧ eDis S n b
section CNG
variable {M M' : jM} {R R' : jR} {a a' : Nat} {S S' : Nat → Int32} {b b' r n c c' : Nat} {f : Nat → Nat}
theorem eTab_c (h : eTab M a S r) (e1 : M' (a' + 1) 2 = M (a + 1) 2) (e2 : ∀ j, j < 150 → M' (a' + 2) j = M (a + 2) j) (es : ∀ j, (j = 0 ∨ 29 ≤ j ∧ j < 179) → S' j = S j) : eTab M' a' S' r := by
  obtain ⟨h1, h2, h3, h4, h5, h6⟩ := h
  refine ⟨e1.trans h1, (es 0 (Or.inl rfl)).trans h2, h3, fun k hk w hw => ?_, fun k hk w hw => ?_, fun k hk => ?_⟩
  · rw [e2 _ (by omega), es _ (by omega)]
    exact h4 k hk w hw
  · simp only [zV]
    rw [es _ (by omega)]
    exact h5 k hk w hw
  · rw [es _ (by omega)]
    exact h6 k hk
theorem eSum_c (h : eSum M a S r) (hr : r ≤ 30) (e1 : M' (a' + 3) 1 = M (a + 3) 1) (e2 : ∀ j, j < 128 → M' (a' + 4) j = M (a + 4) j) (es : ∀ j, 29 ≤ j → j < 179 → S' j = S j) : eSum M' a' S' r := by
  obtain ⟨h1, h2⟩ := h
  refine ⟨fun w hw v hv => ?_, ?_⟩
  · rw [e2 _ (by omega), h1 w hw v hv]
    refine sI_congr (fun k hk => ?_)
    simp only [eOne]
    rw [es _ (by omega) (by omega), es _ (by omega) (by omega)]
  · rw [e1, h2]
    refine sI_congr (fun k hk => ?_)
    simp only [zRowW]
    rw [es _ (by omega) (by omega)]
theorem eKno_c (h : eKno M a S) (e1 : M' (a' + 5) 1 = M (a + 5) 1) (e2 : ∀ j, j < 128 → M' (a' + 6) j = M (a + 6) j) (es : ∀ j, (j = 2 ∨ 179 ≤ j ∧ j < 307) → S' j = S j) : eKno M' a' S' := by
  obtain ⟨h1, h2⟩ := h
  refine ⟨fun i hi => ?_, ?_⟩
  · rw [e2 i hi, h1 i hi, es _ (by omega)]
  · rw [e1, h2, es _ (by omega)]
theorem zN_c {t : Nat} (ht : t < 6) (es : ∀ j, 307 ≤ j → j < 367 → S' j = S j) : zN S' t = zN S t := by
  unfold zN
  rw [es _ (by omega) (by omega)]
theorem eStm_c (h : eStm M a S c) (e1 : M' a' 8 = M a 8) (e2 : ∀ t, t < 6 → ∀ j, 2 ≤ j → j < 4 → M' (a' + 25 + 3 * t) j = M (a + 25 + 3 * t) j) (e3 : ∀ t, t < 6 → ∀ k, k < 4 → M' (a' + 25 + 3 * t + 1) k = M (a + 25 + 3 * t + 1) k ∧ M' (a' + 25 + 3 * t + 2) k = M (a + 25 + 3 * t + 2) k) (es : ∀ j, (j = 3 ∨ 307 ≤ j ∧ j < 367) → S' j = S j) : eStm M' a' S' c := by
  obtain ⟨h1, h2, h3, h4⟩ := h
  refine ⟨e1.trans h1, (es 3 (Or.inl rfl)).trans h2, h3, fun t ht => ?_⟩
  obtain ⟨g1, g2, g3, g4, g5⟩ := h4 t ht
  have ez : zN S' t = zN S t := zN_c (by omega) (fun j h1 h2 => es j (Or.inr ⟨h1, h2⟩))
  have hz4 := g1.2.2.2.1
  rw [ez]
  refine ⟨zSt_cong g1 (fun j h1 h2 => es j (by omega)), fun k hk => ?_, ?_, ?_, fun k hk => ⟨?_, ?_⟩⟩
  · rw [es _ (by omega)]
    exact g2 k hk
  · rw [e2 t (by omega) 2 (by decide) (by decide), g3, es _ (by omega)]
  · rw [e2 t (by omega) 3 (by decide) (by decide), g4, es _ (by omega)]
  · rw [(e3 t (by omega) k (by omega)).1, (g5 k hk).1, es _ (by omega)]
  · rw [(e3 t (by omega) k (by omega)).2, (g5 k hk).2, es _ (by omega)]
theorem eSet_c (h : eSet M a S) (e1 : ∀ k, k < 5 → M' (a' + 24) k = M (a + 24) k) (es : ∀ j, 11 ≤ j → j < 16 → S' j = S j) : eSet M' a' S' := by
  obtain ⟨h1, h2⟩ := h
  refine ⟨fun k hk => ?_, ?_⟩
  · rw [e1 k hk, h1 k hk, es _ (by omega) (by omega)]
  · rw [es _ (by omega) (by omega)]
    exact h2
theorem eCnt_c (h : eCnt M a S) (e1 : M' a' 7 = M a 7 ∧ M' a' 9 = M a 9 ∧ M' a' 10 = M a 10 ∧ M' a' 11 = M a 11) (e2 : M' (a' + 11) 3 = M (a + 11) 3 ∧ M' (a' + 11) 4 = M (a + 11) 4 ∧ M' (a' + 11) 5 = M (a + 11) 5) (es : ∀ j, 1 ≤ j → j ≤ 10 → S' j = S j) : eCnt M' a' S' := by
  obtain ⟨h1, h2, h3, h4, h5, h6, h7⟩ := h
  refine ⟨?_, ?_, ?_, ?_, ?_, ?_, ?_⟩
  · rw [e1.1, h1, es _ (by omega) (by omega)]
  · rw [e1.2.1, h2, es _ (by omega) (by omega)]
  · rw [e1.2.2.1, h3, es _ (by omega) (by omega)]
  · rw [e1.2.2.2, h4, es _ (by omega) (by omega)]
  · rw [e2.1, h5, es _ (by omega) (by omega)]
  · rw [e2.2.1, h6, es _ (by omega) (by omega)]
  · rw [e2.2.2, h7, es _ (by omega) (by omega)]
theorem zTkF_c {V V' : Nat → Int32} {q k : Nat} (e : V' k = V k) : zTkF V' q k = zTkF V q k := by
  unfold zTkF
  rw [e]
theorem eLst_c (h : eLst M a S c) (hc : c ≤ c') (e1 : ∀ j, 1 ≤ j → j < 11 → M' (a' + 22) j = M (a + 22) j) (e2 : ∀ k, k < 4 → M' (a' + 23) k = M (a + 23) k) (es : ∀ j, 16 ≤ j → j < 29 → S' j = S j) (ez : ∀ t, t < c → zN S' t = zN S t) : eLst M' a' S' c' := by
  rcases h with ⟨h1, h2⟩ | ⟨h1, ⟨t, ht, h2, h2'⟩, h3, h4, h5⟩
  · exact Or.inl ⟨by rw [e1 1 (by decide) (by decide), h1], by rw [es 16 (by decide) (by decide), h2]⟩
  · refine Or.inr ⟨by rw [e1 1 (by decide) (by decide), h1], ⟨t, by omega, by rw [es 16 (by decide) (by decide), h2], fun k hk => ?_⟩, ?_, fun k hk => ?_, fun w hw => ?_⟩
    · rw [ez t ht, zTkF_c (V := fun k => S (17 + k)) (by show S' (17 + k) = S (17 + k); exact es _ (by omega) (by omega))]
      exact h2' k hk
    · rw [e1 2 (by decide) (by decide), h3, es 16 (by decide) (by decide)]
    · rw [e2 k hk, h4 k hk, es _ (by omega) (by omega)]
    · rw [e1 _ (by omega) (by omega), h5 w hw, es _ (by omega) (by omega)]
theorem eShf_c (h : eShf M R a S n c f) (hc : c ≤ c') (e1 : M' (a' + 11) 2 = M (a + 11) 2) (e2 : ∀ k, k < 8 → ∀ w, w < 9 → M' (pa R' (a' + 11) k) w = M (pa R (a + 11) k) w) (es : ∀ j, (j = 4 ∨ 367 ≤ j ∧ j < 439) → S' j = S j) (ez : ∀ t, t < c → zN S' t = zN S t) : eShf M' R' a' S' n c' f := by
  obtain ⟨h1, h2, h3, h4, h5, h6⟩ := h
  refine ⟨e1.trans h1, (es 4 (Or.inl rfl)).trans h2, h3, h4, fun k hk w hw => ?_, fun q hq => ?_⟩
  · have := h4.1 k hk
    rw [e2 k (by omega) w hw, h5 k hk w hw, es _ (by omega)]
  · obtain ⟨g1, t, g2, g3, w, g4, g5⟩ := h6 q hq
    refine ⟨by rw [es _ (by omega)]; exact g1, t, by omega, by rw [es _ (by omega)]; exact g3, w, ?_, by rw [es _ (by omega)]; exact g5⟩
    rw [ez t g2]
    exact g4
theorem eDis_c (h : eDis S n b) (hn : n ≤ 8) (hb : b ≤ b') (es : ∀ j, (j = 5 ∨ j = 6 ∨ 367 ≤ j ∧ j < 439) → S' j = S j) : eDis S' n b' := by
  obtain ⟨⟨x, z, h1, h2, h1', h2', h3⟩, h4⟩ := h
  refine ⟨⟨x, z, by omega, by omega, by rw [es _ (by omega)]; exact h1', by rw [es _ (by omega)]; exact h2', fun q hq => ?_⟩, fun p q hp hq => ?_⟩
  · obtain ⟨y, u, l, g1, g2, g3, g4, g5, g6⟩ := h3 q hq
    exact ⟨y, u, l, by rw [es _ (by omega)]; exact g1, by rw [es _ (by omega)]; exact g2, by rw [es _ (by omega)]; exact g3, g4, by omega, g6⟩
  · rw [es _ (by omega), es _ (by omega), es (367 + 9 * p + 1) (by omega), es (367 + 9 * p + 2) (by omega), es (367 + 9 * q + 1) (by omega), es (367 + 9 * q + 2) (by omega), es (367 + 9 * p + 8) (by omega), es (367 + 9 * q + 8) (by omega)]
    exact h4 p q hp hq
/-- two blocks hold the same -/
def eqB (M : jM) (R : jR) (a : Nat) (M' : jM) (R' : jR) (a' : Nat) : Prop := (∀ j, 7 ≤ j → j < 12 → M' a' j = M a j) ∧ M' (a' + 1) 2 = M (a + 1) 2 ∧ (∀ j, j < 150 → M' (a' + 2) j = M (a + 2) j) ∧ M' (a' + 3) 1 = M (a + 3) 1 ∧ (∀ j, j < 128 → M' (a' + 4) j = M (a + 4) j) ∧ M' (a' + 5) 1 = M (a + 5) 1 ∧
  (∀ j, j < 128 → M' (a' + 6) j = M (a + 6) j) ∧ (∀ j, 2 ≤ j → j < 6 → M' (a' + 11) j = M (a + 11) j) ∧ (∀ k, k < 8 → ∀ w, w < 9 → M' (pa R' (a' + 11) k) w = M (pa R (a + 11) k) w) ∧ (∀ j, 1 ≤ j → j < 11 → M' (a' + 22) j = M (a + 22) j) ∧ (∀ j, j < 4 → M' (a' + 23) j = M (a + 23) j) ∧ (∀ j, j < 5 → M' (a' + 24) j = M (a + 24) j) ∧
  ∀ t, t < 6 → (∀ j, 2 ≤ j → j < 4 → M' (a' + 25 + 3 * t) j = M (a + 25 + 3 * t) j) ∧ ∀ k, k < 4 → M' (a' + 25 + 3 * t + 1) k = M (a + 25 + 3 * t + 1) k ∧ M' (a' + 25 + 3 * t + 2) k = M (a + 25 + 3 * t + 2) k
theorem eR_c (h : eR M R a S b r n c f) (q : eqB M R a M' R' a') (es : ∀ j, j < 439 → S' j = S j) (hb : b ≤ b') : eR M' R' a' S' b' r n c f := by
  obtain ⟨h1, h2, h3, h4, h5, h6, h7, h8, h9⟩ := h
  obtain ⟨q0, q1, q2, q3, q4, q5, q6, q7, q8, q9, q10, q11, q12⟩ := q
  have hc6 := h4.2.2.1
  have hr := h1.2.2.1
  have hn := h8.2.2.1
  have ez : ∀ t, t < c → zN S' t = zN S t := fun t ht => zN_c (by omega) (fun j h1 h2 => es j (by omega))
  exact ⟨eTab_c h1 q1 q2 (fun j _ => es j (by omega)), eSum_c h2 hr q3 q4 (fun j _ _ => es j (by omega)), eKno_c h3 q5 q6 (fun j _ => es j (by omega)),
    eStm_c h4 (q0 8 (by decide) (by decide)) (fun t ht => (q12 t ht).1) (fun t ht => (q12 t ht).2) (fun j _ => es j (by omega)), eSet_c h5 q11 (fun j _ _ => es j (by omega)),
    eCnt_c h6 ⟨q0 7 (by decide) (by decide), q0 9 (by decide) (by decide), q0 10 (by decide) (by decide), q0 11 (by decide) (by decide)⟩ ⟨q7 3 (by decide) (by decide), q7 4 (by decide) (by decide), q7 5 (by decide) (by decide)⟩ (fun j _ _ => es j (by omega)),
    eLst_c h7 (Nat.le_refl c) q9 q10 (fun j _ _ => es j (by omega)) ez, eShf_c h8 (Nat.le_refl c) (q7 2 (by decide) (by decide)) q8 (fun j _ => es j (by omega)) ez, eDis_c h9 hn hb (fun j _ => es j (by omega))⟩
theorem eRep_c (h : eRep M R a S b) (q : eqB M R a M' R' a') (es : ∀ j, j < 439 → S' j = S j) (hb : b ≤ b') : eRep M' R' a' S' b' := by
  obtain ⟨r, n, c, f, h⟩ := h
  exact ⟨r, n, c, f, eR_c h q es hb⟩
theorem eqB_trans {M'' : jM} {R'' : jR} {a'' : Nat} (p : eqB M R a M' R' a') (q : eqB M' R' a' M'' R'' a'') : eqB M R a M'' R'' a'' := by
  obtain ⟨p0, p1, p2, p3, p4, p5, p6, p7, p8, p9, p10, p11, p12⟩ := p
  obtain ⟨q0, q1, q2, q3, q4, q5, q6, q7, q8, q9, q10, q11, q12⟩ := q
  exact ⟨fun j h1 h2 => (q0 j h1 h2).trans (p0 j h1 h2), q1.trans p1, fun j h1 => (q2 j h1).trans (p2 j h1), q3.trans p3, fun j h1 => (q4 j h1).trans (p4 j h1), q5.trans p5, fun j h1 => (q6 j h1).trans (p6 j h1), fun j h1 h2 => (q7 j h1 h2).trans (p7 j h1 h2), fun k hk w hw => (q8 k hk w hw).trans (p8 k hk w hw),
    fun j h1 h2 => (q9 j h1 h2).trans (p9 j h1 h2), fun j h1 => (q10 j h1).trans (p10 j h1), fun j h1 => (q11 j h1).trans (p11 j h1), fun t ht => ⟨fun j h1 h2 => ((q12 t ht).1 j h1 h2).trans ((p12 t ht).1 j h1 h2), fun k hk => ⟨((q12 t ht).2 k hk).1.trans ((p12 t ht).2 k hk).1, ((q12 t ht).2 k hk).2.trans ((p12 t ht).2 k hk).2⟩⟩⟩
theorem eqB_same (hs : SR R (a + 11)) (hM : ∀ x, a ≤ x → x < a + 43 → M' x = M x) (hR : R' (a + 12) = R (a + 12)) : eqB M R a M' R' a := by
  have ep : ∀ k, pa R' (a + 11) k = pa R (a + 11) k := fun k => by simp only [pa, hR]
  refine ⟨fun j _ _ => by rw [hM _ (by omega) (by omega)], by rw [hM _ (by omega) (by omega)], fun j _ => by rw [hM _ (by omega) (by omega)], by rw [hM _ (by omega) (by omega)], fun j _ => by rw [hM _ (by omega) (by omega)], by rw [hM _ (by omega) (by omega)], fun j _ => by rw [hM _ (by omega) (by omega)], fun j _ _ => by rw [hM _ (by omega) (by omega)],
    fun k hk w hw => ?_, fun j _ _ => by rw [hM _ (by omega) (by omega)], fun j _ => by rw [hM _ (by omega) (by omega)], fun j _ => by rw [hM _ (by omega) (by omega)], fun t ht => ⟨fun j _ _ => by rw [hM _ (by omega) (by omega)], fun k hk => ⟨by rw [hM _ (by omega) (by omega)], by rw [hM _ (by omega) (by omega)]⟩⟩⟩
  obtain ⟨j, hj, e⟩ := hs.rg hk
  rw [ep, hM _ (by omega) (by omega)]
theorem kPl_at (M : jM) {R : jR} {c b k w : Nat} (hb : SR R b) (hc : SR R c) (hd : c + 11 ≤ b ∨ b + 11 ≤ c) (hw : w < 9) : ∀ n, n ≤ 8 → k < n → kPl M R c b n (pa R b k) w = M (pa R c k) w
  | 0, _, h => absurd h (Nat.not_lt_zero k)
  | n + 1, hn, hk => by
    rw [kPl]
    by_cases e : k = n
    · subst e
      obtain ⟨j, hj, ej⟩ := hc.rg (show k < 8 by omega)
      rw [jcopy_in _ hw, kPl_o M hb (by omega) k (by omega)]
    · rw [jcopy_o _ (fun q => e (hb.inj (by omega) (by omega) q)), kPl_at M hb hc hd hw n (by omega) (by omega)]
theorem kStm_at (M : jM) {u t : Nat} (hd : u + 3 ≤ t ∨ t + 3 ≤ u) : (∀ j, 2 ≤ j → j < 4 → kStm M u t t j = M u j) ∧ ∀ k, k < 4 → kStm M u t (t + 1) k = M (u + 1) k ∧ kStm M u t (t + 2) k = M (u + 2) k := by
  refine ⟨fun j h1 h2 => ?_, fun k hk => ⟨?_, ?_⟩⟩
  · rw [kStm, jcopyF_in _ h1 h2, jcopy_o _ (by omega), jcopy_o _ (by omega)]
  · rw [kStm, jcopyF_o _ (by omega), jcopy_o _ (by omega), jcopy_in _ hk]
  · rw [kStm, jcopyF_o _ (by omega), jcopy_in _ hk, jcopy_o _ (by omega)]
theorem kStms_at (M : jM) {e a t : Nat} (hd : e + 43 ≤ a ∨ a + 43 ≤ e) : ∀ n, n ≤ 6 → t < n → (∀ j, 2 ≤ j → j < 4 → kStms M e a n (a + 25 + 3 * t) j = M (e + 25 + 3 * t) j) ∧ ∀ k, k < 4 → kStms M e a n (a + 25 + 3 * t + 1) k = M (e + 25 + 3 * t + 1) k ∧ kStms M e a n (a + 25 + 3 * t + 2) k = M (e + 25 + 3 * t + 2) k
  | 0, _, h => absurd h (Nat.not_lt_zero t)
  | n + 1, hn, ht => by
    rw [kStms]
    by_cases q : t = n
    · subst q
      have h := kStm_at (kStms M e a t) (u := e + 25 + 3 * t) (t := a + 25 + 3 * t) (by omega)
      rw [kStms_o M t (x := e + 25 + 3 * t) (by omega), kStms_o M t (x := e + 25 + 3 * t + 1) (by omega), kStms_o M t (x := e + 25 + 3 * t + 2) (by omega)] at h
      exact h
    · rw [kStm_o _ (by omega), kStm_o _ (by omega), kStm_o _ (by omega)]
      exact kStms_at M hd n (by omega) (by omega)
theorem kSums_at (M : jM) {c b : Nat} (hd : c + 2 ≤ b ∨ b + 2 ≤ c) : kSums M c b b 1 = M c 1 ∧ ∀ j, j < 128 → kSums M c b (b + 1) j = M (c + 1) j := by
  refine ⟨?_, fun j hj => ?_⟩
  · rw [kSums, jcopyF_in _ (by decide) (by decide), jcopy_o _ (by omega)]
  · rw [kSums, jcopyF_o _ (by omega), jcopy_in _ hj]
theorem kTable_at (M : jM) {c b : Nat} (hd : c + 4 ≤ b ∨ b + 4 ≤ c) : kTable M c b b 2 = M c 2 ∧ (∀ j, j < 150 → kTable M c b (b + 1) j = M (c + 1) j) ∧ kTable M c b (b + 2) 1 = M (c + 2) 1 ∧ ∀ j, j < 128 → kTable M c b (b + 3) j = M (c + 3) j := by
  have h := kSums_at (jcopy M (c + 1) (b + 1) 150) (c := c + 2) (b := b + 2) (by omega)
  refine ⟨?_, fun j hj => ?_, ?_, fun j hj => ?_⟩
  · rw [kTable, jcopyF_in _ (by decide) (by decide), kSums_o _ (by omega), jcopy_o _ (by omega)]
  · rw [kTable, jcopyF_o _ (by omega), kSums_o _ (by omega), jcopy_in _ hj]
  · rw [kTable, jcopyF_o _ (by omega), h.1, jcopy_o _ (by omega)]
  · rw [kTable, jcopyF_o _ (by omega), h.2 j hj, jcopy_o _ (by omega)]
theorem kLast_at (M : jM) {c b : Nat} (hd : c + 2 ≤ b ∨ b + 2 ≤ c) : (∀ j, 1 ≤ j → j < 11 → kLast M c b b j = M c j) ∧ ∀ j, j < 4 → kLast M c b (b + 1) j = M (c + 1) j := by
  refine ⟨fun j h1 h2 => ?_, fun j hj => ?_⟩
  · rw [kLast, jcopyF_in _ h1 h2, jcopy_o _ (by omega)]
  · rw [kLast, jcopyF_o _ (by omega), jcopy_in _ hj]
theorem kShelf_at (M : jM) {R : jR} {c b : Nat} (hb : SR R b) (hc : SR R c) (hd : c + 11 ≤ b ∨ b + 11 ≤ c) : (∀ j, 2 ≤ j → j < 6 → kShelf M R c b b j = M c j) ∧ ∀ k, k < 8 → ∀ w, w < 9 → kShelf M R c b (pa R b k) w = M (pa R c k) w := by
  refine ⟨fun j h1 h2 => ?_, fun k hk w hw => ?_⟩
  · rw [kShelf, jcopyF_in _ h1 h2, kPl_o M hb (by omega) 8 (by decide)]
  · obtain ⟨j, hj, ej⟩ := hb.rg hk
    rw [kShelf, jcopyF_o _ (by omega), kPl_at M hb hc hd hw 8 (by decide) hk]
theorem eqB_copy {e : Nat} (ha : SR R (a + 11)) (he : SR R (e + 11)) (hd : e + 43 ≤ a ∨ a + 43 ≤ e) : eqB M R e (kState M R e a) R a := by
  have t1 := kTable_at M (c := e + 1) (b := a + 1) (by omega)
  have o1 : ∀ x, (x < a + 1 ∨ a + 5 ≤ x) → kTable M (e + 1) (a + 1) x = M x := fun x hx => kTable_o M (by omega)
  have t2 := kSums_at (kTable M (e + 1) (a + 1)) (c := e + 5) (b := a + 5) (by omega)
  have o2 : ∀ x, (x < a + 5 ∨ a + 7 ≤ x) → kSums (kTable M (e + 1) (a + 1)) (e + 5) (a + 5) x = kTable M (e + 1) (a + 1) x := fun x hx => kSums_o _ (by omega)
  have t3 := fun t (ht : t < 6) => kStms_at (kSums (kTable M (e + 1) (a + 1)) (e + 5) (a + 5)) (e := e) (a := a) (t := t) hd 6 (by decide) ht
  have o3 : ∀ x, (x < a + 25 ∨ a + 43 ≤ x) → kStms (kSums (kTable M (e + 1) (a + 1)) (e + 5) (a + 5)) e a 6 x = kSums (kTable M (e + 1) (a + 1)) (e + 5) (a + 5) x := fun x hx => kStms_o _ 6 (by omega)
  have t4 := kShelf_at (kStms (kSums (kTable M (e + 1) (a + 1)) (e + 5) (a + 5)) e a 6) ha he (by omega)
  have o4 : ∀ x, (x < a + 11 ∨ a + 22 ≤ x) → kShelf (kStms (kSums (kTable M (e + 1) (a + 1)) (e + 5) (a + 5)) e a 6) R (e + 11) (a + 11) x = kStms (kSums (kTable M (e + 1) (a + 1)) (e + 5) (a + 5)) e a 6 x := fun x hx => kShelf_o _ ha (by omega)
  have t5 := kLast_at (kShelf (kStms (kSums (kTable M (e + 1) (a + 1)) (e + 5) (a + 5)) e a 6) R (e + 11) (a + 11)) (c := e + 22) (b := a + 22) (by omega)
  have o5 : ∀ x, (x < a + 22 ∨ a + 24 ≤ x) → kSt5 M R e a x = kShelf (kStms (kSums (kTable M (e + 1) (a + 1)) (e + 5) (a + 5)) e a 6) R (e + 11) (a + 11) x := fun x hx => kLast_o _ (by omega)
  have o6 : ∀ x, x ≠ a → x ≠ a + 24 → kState M R e a x = kSt5 M R e a x := fun x h1 h2 => by rw [kState, jcopyF_o _ h1, jcopy_o _ h2]
  have oe : ∀ x, (x < a ∨ a + 43 ≤ x) → kSt5 M R e a x = M x := fun x hx => by rw [o5 x (by omega), o4 x (by omega), o3 x (by omega), o2 x (by omega), o1 x (by omega)]
  refine ⟨fun j h1 h2 => ?_, ?_, fun j hj => ?_, ?_, fun j hj => ?_, ?_, fun j hj => ?_, fun j h1 h2 => ?_, fun k hk w hw => ?_, fun j h1 h2 => ?_, fun j hj => ?_, fun j hj => ?_, fun t ht => ⟨fun j h1 h2 => ?_, fun k hk => ⟨?_, ?_⟩⟩⟩
  · rw [kState, jcopyF_in _ h1 h2, jcopy_o _ (by omega), oe _ (by omega)]
  · rw [o6 _ (by omega) (by omega), o5 _ (by omega), o4 _ (by omega), o3 _ (by omega), o2 _ (by omega), t1.1]
  · rw [o6 _ (by omega) (by omega), o5 _ (by omega), o4 _ (by omega), o3 _ (by omega), o2 _ (by omega)]
    exact t1.2.1 j hj
  · rw [o6 _ (by omega) (by omega), o5 _ (by omega), o4 _ (by omega), o3 _ (by omega), o2 _ (by omega)]
    exact t1.2.2.1
  · rw [o6 _ (by omega) (by omega), o5 _ (by omega), o4 _ (by omega), o3 _ (by omega), o2 _ (by omega)]
    exact t1.2.2.2 j hj
  · rw [o6 _ (by omega) (by omega), o5 _ (by omega), o4 _ (by omega), o3 _ (by omega), t2.1, o1 _ (by omega)]
  · rw [o6 _ (by omega) (by omega), o5 _ (by omega), o4 _ (by omega), o3 _ (by omega)]
    refine (t2.2 j hj).trans ?_
    rw [o1 _ (by omega)]
  · rw [o6 _ (by omega) (by omega), o5 _ (by omega), t4.1 j h1 h2, o3 _ (by omega), o2 _ (by omega), o1 _ (by omega)]
  · obtain ⟨j, hj, ej⟩ := ha.rg hk
    obtain ⟨i, hi, ei⟩ := he.rg hk
    rw [o6 _ (by omega) (by omega), o5 _ (by omega), t4.2 k hk w hw, o3 _ (by omega), o2 _ (by omega), o1 _ (by omega)]
  · rw [o6 _ (by omega) (by omega)]
    refine (t5.1 j h1 h2).trans ?_
    rw [o4 _ (by omega), o3 _ (by omega), o2 _ (by omega), o1 _ (by omega)]
  · rw [o6 _ (by omega) (by omega)]
    refine (t5.2 j hj).trans ?_
    rw [o4 _ (by omega), o3 _ (by omega), o2 _ (by omega), o1 _ (by omega)]
  · rw [kState, jcopyF_o _ (by omega), jcopy_in _ hj, oe _ (by omega)]
  · rw [o6 _ (by omega) (by omega), o5 _ (by omega), o4 _ (by omega), (t3 t ht).1 j h1 h2, o2 _ (by omega), o1 _ (by omega)]
  · rw [o6 _ (by omega) (by omega), o5 _ (by omega), o4 _ (by omega), ((t3 t ht).2 k hk).1, o2 _ (by omega), o1 _ (by omega)]
  · rw [o6 _ (by omega) (by omega), o5 _ (by omega), o4 _ (by omega), ((t3 t ht).2 k hk).2, o2 _ (by omega), o1 _ (by omega)]
theorem SA_eqB (h : SA M R a) (q : eqB M R a M' R' a') (h1 : SS R' a') (h2 : SR R' (a' + 11)) : SA M' R' a' := by
  obtain ⟨g1, g2, g3, g4, g5⟩ := h
  obtain ⟨q0, q1, q2, q3, q4, q5, q6, q7, q8, q9, q10, q11, q12⟩ := q
  exact ⟨h1, h2, fun i hi => by rw [q8 i hi 7 (by decide)]; exact g3 i hi, by rw [q9 1 (by decide) (by decide)]; exact g4, by rw [q9 9 (by decide) (by decide)]; exact g5⟩
end CNG
