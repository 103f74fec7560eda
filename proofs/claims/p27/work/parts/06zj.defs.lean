section ANA
variable {M M1 M2 N : jM} {R R1 : jR} {a h T v m b nh : Nat} {S S2 : Nat → Int32} {r n n' c b' k len : Nat} {f f' : Nat → Nat}
theorem zAi_o (S : Nat → Int32) (N : jM) {m r x : Nat} (h : x ≠ m + 1) : ∀ k, zAi S N m r k x = N x
  | 0 => rfl
  | k + 1 => by rw [zAi, jup_row _ _ h, zAi_o S N h k]
theorem zAo_o (S : Nat → Int32) (N : jM) {m x : Nat} (h : x ≠ m + 1) : ∀ r, zAo S N m r x = N x
  | 0 => rfl
  | r + 1 => by rw [zAo, zAi_o S _ h, zAo_o S N h r]
theorem zAi_hi {j : Nat} (hv : ∀ c, c < 4 → zV S r c < 32) (hj : 307 ≤ j) : ∀ k, k ≤ 4 → zAi S N m r k (m + 1) j = N (m + 1) j
  | 0, _ => rfl
  | k + 1, hk => by
    have := hv k (by omega)
    rw [zAi, jup_nk _ _ (by omega), zAi_hi hv hj k (by omega)]
theorem zAo_hi {j : Nat} (hj : 307 ≤ j) : ∀ r, zRows S r → zAo S N m r (m + 1) j = N (m + 1) j
  | 0, _ => rfl
  | r + 1, hv => by rw [zAo, zAi_hi (fun c hc => (hv r (by omega) c hc).2) hj 4 (Nat.le_refl 4), zAo_hi hj r (fun k hk => hv k (by omega))]
theorem zAi_v {w u : Nat} (hw : w < 4) (hu : u < 32) (hv : ∀ c, c < 4 → S (29 + 5 * r + c) = nI (zV S r c) ∧ zV S r c < 32) : ∀ k, k ≤ 4 → zAi S N m r k (m + 1) (179 + 32 * w + u) = N (m + 1) (179 + 32 * w + u) + (if w < k then eOne S w u r else 0)
  | 0, _ => by rw [if_neg (Nat.not_lt_zero w), Int32.add_zero]; rfl
  | k + 1, hk => by
    obtain ⟨v1, v2⟩ := hv k (by omega)
    have ih := zAi_v hw hu hv k (by omega)
    rw [zAi]
    by_cases d : w = k
    · subst d
      rw [if_pos (Nat.lt_succ_self w)]
      rw [if_neg (Nat.lt_irrefl w), Int32.add_zero] at ih
      by_cases d2 : u = zV S r w
      · subst d2
        rw [jup_eq, ih, eOne, v1, if_pos rfl]
      · rw [jup_nk _ _ (by omega), ih, eOne, v1, if_neg (fun q => d2 ((nI_eq (by omega) (by omega)).mp q).symm), nI_0, Int32.add_zero]
    · rw [jup_nk _ _ (by omega), ih]
      by_cases d3 : w < k
      · rw [if_pos d3, if_pos (by omega)]
      · rw [if_neg d3, if_neg (by omega)]
theorem zAo_v {w u : Nat} (hw : w < 4) (hu : u < 32) : ∀ r, zRows S r → zAo S N m r (m + 1) (179 + 32 * w + u) = N (m + 1) (179 + 32 * w + u) + sI (eOne S w u) r
  | 0, _ => by
    show N (m + 1) (179 + 32 * w + u) = _ + nI 0
    rw [nI_0, Int32.add_zero]
  | r + 1, hv => by
    rw [zAo, zAi_v hw hu (fun c hc => hv r (by omega) c hc) 4 (Nat.le_refl 4), zAo_v hw hu r (fun k hk => hv k (by omega)), if_pos hw, Int32.add_assoc]
    rfl
theorem st_analyse (I : eInv M R a h T v m b nh) (e : eR M R a (M (m + 1)) b r n c f) : (∀ y, v < y → mAna M R a h nh y = M y) ∧ mAna M R a h nh (a + 5) 1 = sI (zRowW (mAna M R a h nh (m + 1))) r ∧ ∃ nh', eInv (zmAna (mAna M R a h nh) m nh r) (rPuR R h nh) a h T v m (b + 1) nh' := by
  obtain ⟨I1, I2, I3, I4, I5, I6, I7, I8, I9, I10⟩ := id I
  obtain ⟨pe, pA, oa, ra⟩ := e_psh I e
  have o1 : ∀ y, (y < a + 5 ∨ a + 7 ≤ y) → mAna M R a h nh y = rPuM M R h a nh y := fun y hy => by rw [mAna, kSums_o _ hy]
  have ks := kSums_at (rPuM M R h a nh) (c := a + 3) (b := a + 5) (by omega)
  have c1 : ∀ y, (y < a ∨ a + 43 ≤ y) → y ≠ v → mAna M R a h nh y = rPuM M R h a nh y := fun y hy _ => o1 y (by omega)
  have md := e_mod I c1
  obtain ⟨h1, h2, h3, h4, h5, h6, h7, h8, h9⟩ := pe
  have hc6 := h4.2.2.1
  have em : ∀ j, mChg (mAna M R a h nh) m nh (m + 1) j = M (m + 1) j := fun j => by rw [mChg_o _ (by omega) (by omega), md (m + 1) (by omega)]
  have hz : zRows (M (m + 1)) r := h1.2.2.2.2.1
  have emm : mAna M R a h nh (m + 1) = M (m + 1) := md _ (by omega)
  have z1 : ∀ j, 307 ≤ j → zmAna (mAna M R a h nh) m nh r (m + 1) j = M (m + 1) j := fun j hj => by
    rw [zmAna, jup_nk _ _ (by omega), emm, zAo_hi hj r hz]
    simp only [zZr]
    rw [if_neg (by omega), em]
  have z2 : ∀ j, j < 179 → j ≠ 2 → zmAna (mAna M R a h nh) m nh r (m + 1) j = M (m + 1) j := fun j hj h2 => by
    rw [zmAna, jup_nk _ _ h2, zAo_a _ _ _ hj, zZr_a _ hj, em]
  have s1 : ∀ j, j ≠ 2 → (j < 179 ∨ 307 ≤ j) → zmAna (mAna M R a h nh) m nh r (m + 1) j = M (m + 1) j := fun j h2 hj => by
    rcases hj with hj | hj
    · exact z2 j hj h2
    · exact z1 j hj
  have sk : ∀ w, w < 4 → ∀ u, u < 32 → zmAna (mAna M R a h nh) m nh r (m + 1) (179 + 32 * w + u) = sI (eOne (M (m + 1)) w u) r := fun w hw u hu => by
    rw [zmAna, jup_nk _ _ (by omega), emm, zAo_v hw hu r hz]
    have : zZr (mChg (mAna M R a h nh) m nh) m 128 (m + 1) (179 + 32 * w + u) = 0 := by
      simp only [zZr]
      rw [if_pos ⟨trivial, by omega, by omega⟩]
    rw [this, Int32.zero_add]
  have s2 : zmAna (mAna M R a h nh) m nh r (m + 1) 2 = sI (zRowW (M (m + 1))) r := by rw [zmAna, jup_eq, emm]
  have ez : ∀ t, t < c → zN (zmAna (mAna M R a h nh) m nh r (m + 1)) t = zN (M (m + 1)) t := fun t ht => zN_c (by omega) (fun i _ _ => s1 i (by omega) (by omega))
  have e51 : mAna M R a h nh (a + 5) 1 = sI (zRowW (M (m + 1))) r := by
    rw [mAna, ks.1]
    exact h2.2
  refine ⟨md, by rw [e51, emm], hNp nh, ?_⟩
  refine e_op I c1 (fun _ _ => rfl) (fun y h1 h2 h3 => ?_) (fun i hi => ?_) ⟨r, n, c, f, ?_⟩ ⟨pA.1, pA.2.1, fun i hi => by
          obtain ⟨j0, hj0, ej0⟩ := pA.2.1.rg hi
          rw [o1 _ (by omega)]
          exact pA.2.2.1 i hi, by rw [o1 _ (by omega)]; exact pA.2.2.2.1, by rw [o1 _ (by omega)]; exact pA.2.2.2.2⟩
  · rw [zmAna, jup_row _ _ h2, zAo_o _ _ h2]
    funext i
    simp only [zZr]
    rw [if_neg (fun q => h2 q.1)]
  · rw [zmAna, jup_row _ _ (by omega), zAo_o _ _ (by omega)]
    simp only [zZr]
    rw [if_neg (by omega)]
  · refine ⟨eTab_c h1 (by rw [o1 _ (by omega)]) (fun i _ => by rw [o1 _ (by omega)]) (fun i _ => s1 i (by omega) (by omega)), eSum_c h2 h1.2.2.1 (by rw [o1 _ (by omega)]) (fun i _ => by rw [o1 _ (by omega)]) (fun i _ _ => s1 i (by omega) (by omega)),
            ⟨fun i hi => ?_, by rw [s2, e51]⟩,
            eStm_c h4 (by rw [o1 _ (by omega)]) (fun t ht i _ _ => by rw [o1 _ (by omega)]) (fun t ht k hk => ⟨by rw [o1 _ (by omega)], by rw [o1 _ (by omega)]⟩) (fun i _ => s1 i (by omega) (by omega)), eSet_c h5 (fun k hk => by rw [o1 _ (by omega)]) (fun i _ _ => s1 i (by omega) (by omega)),
            ?_,
            eLst_c h7 (Nat.le_refl c) (fun i _ _ => by rw [o1 _ (by omega)]) (fun k _ => by rw [o1 _ (by omega)]) (fun i _ _ => s1 i (by omega) (by omega)) ez,
            eShf_c h8 (Nat.le_refl c) (by rw [o1 _ (by omega)]) (fun k hk w hw => ?_) (fun i _ => s1 i (by omega) (by omega)) ez, eDis_c h9 h8.2.2.1 (Nat.le_succ b) (fun i _ => s1 i (by omega) (by omega))⟩
    · have e6 : mAna M R a h nh (a + 6) i = rPuM M R h a nh (a + 4) i := ks.2 i hi
      rw [e6, show i = 32 * (i / 32) + i % 32 by omega, h2.1 (i / 32) (by omega) (i % 32) (by omega), ← Nat.add_assoc, sk (i / 32) (by omega) (i % 32) (by omega)]
    · obtain ⟨t1, t2, t3, t4, t5, t6, t7⟩ := h6
      exact ⟨by rw [o1 _ (by omega), t1, s1 _ (by decide) (by decide)], by rw [o1 _ (by omega), t2, s1 _ (by decide) (by decide)], by rw [o1 _ (by omega), t3, s1 _ (by decide) (by decide)], by rw [o1 _ (by omega), t4, s1 _ (by decide) (by decide)], by rw [o1 _ (by omega), t5, s1 _ (by decide) (by decide)], by rw [o1 _ (by omega), t6, s1 _ (by decide) (by decide)], by rw [o1 _ (by omega), t7, s1 _ (by decide) (by decide)]⟩
    · obtain ⟨j0, hj0, ej0⟩ := pA.2.1.rg hk
      rw [o1 _ (by omega)]
theorem rRd_at (M : jM) {t b nc : Nat} (h : b + 1 < t ∨ t + 2 < b) : ∀ k, k ≤ 4 → ∀ j, j < k → rRdK M t b nc k (t + 1) j = rTCol M b j ∧ rRdK M t b nc k (t + 2) j = rTOp M b j
  | 0, _, j, hj => absurd hj (Nat.not_lt_zero j)
  | k + 1, hk, j, hj => by
    have eb : ∀ i, rRdK M t b nc i b = M b ∧ rRdK M t b nc i (b + 1) = M (b + 1) := fun i => ⟨rRdK_o M (by omega) (by omega) (by omega) i, rRdK_o M (by omega) (by omega) (by omega) i⟩
    have e1 : rTCol (rRdK M t b nc k) b k = rTCol M b k := by
      unfold rTCol rChr
      rw [(eb k).1, (eb k).2]
    have e2 : rTOp (jup (rRdK M t b nc k) (t + 1) k (rTCol (rRdK M t b nc k) b k)) b k = rTOp M b k := by
      unfold rTOp rChr
      rw [jup_row _ _ (by omega), jup_row _ _ (by omega), (eb k).1, (eb k).2]
    rw [rRdK, e1]
    rw [e1] at e2
    rw [e2]
    by_cases d : j = k
    · subst d
      exact ⟨by rw [jup_na _ _ (by omega), jup_eq], jup_eq _ _ _ _⟩
    · have ih := rRd_at M h (nc := nc) k (by omega) j (by omega)
      exact ⟨by rw [jup_na _ _ (by omega), jup_nk _ _ d]; exact ih.1, by rw [jup_nk _ _ d, jup_na _ _ (by omega)]; exact ih.2⟩
theorem zNw_at (N : jM) {m a : Nat} {q : Int32} : ∀ k, k ≤ 4 → ∀ j, j < k → zNw N m a q k (m + 1) (a + 1 + j) = (if q ≤ nI j then nI 0 else zMt1 (N (m + 3)) j) ∧ zNw N m a q k (m + 1) (a + 5 + j) = (if q ≤ nI j then nI 0 else zMt0 (N (m + 3)) j)
  | 0, _, j, hj => absurd hj (Nat.not_lt_zero j)
  | k + 1, hk, j, hj => by
    rw [zNw]
    by_cases d : j = k
    · subst d
      exact ⟨by rw [jup_nk _ _ (by omega), jup_eq], jup_eq _ _ _ _⟩
    · have ih := zNw_at N (m := m) (a := a) (q := q) k (by omega) j (by omega)
      exact ⟨by rw [jup_nk _ _ (by omega), jup_nk _ _ (by omega)]; exact ih.1, by rw [jup_nk _ _ (by omega), jup_nk _ _ (by omega)]; exact ih.2⟩
theorem zNw_hi (N : jM) {m a j : Nat} {q : Int32} (h : a + 9 ≤ j) : ∀ k, k ≤ 4 → zNw N m a q k (m + 1) j = N (m + 1) j
  | 0, _ => jup_nk _ _ (by omega)
  | k + 1, hk => by rw [zNw, jup_nk _ _ (by omega), jup_nk _ _ (by omega), zNw_hi N h k (by omega)]
theorem right_op (hlo : ∀ x, x ≠ m → M2 x = mChg (zmRight M1 m len) m nh x) (hm : ∀ j, (j = 2 ∨ j = 4) → M2 m j = mChg (zmRight M1 m len) m nh m j) (hn : nh ≤ 4) : (∀ x, x ≠ m → M2 x = mChg M1 m nh x) ∧ ∀ j, (j = 2 ∨ j = 4) → M2 m j = mChg M1 m nh m j := by
  refine ⟨fun x hx => ?_, fun j hj => ?_⟩
  · rw [hlo x hx]
    exact mChg_c (zmRight_o _ (by omega)) (zmRight_o _ (by omega)) (zmRight_o _ hx)
  · rw [hm j hj]
    rcases hj with rfl | rfl
    · rw [mChg_2 _ hn, mChg_2 _ hn]
    · rw [mChg_k _ (by decide), mChg_k _ (by decide), zmRight_k _ (by decide)]
theorem e_right (I : eInv M R a h T v m b nh) : eInv (zmRight M m len) R a h T v m (b + 1) nh := by
  have hvm := I.2.2.2.2.2.2.2.2.2
  have hT := I.2.2.2.2.2.2.2.2.1
  exact e_same I (fun x h1 h2 => zmRight_o _ (by omega)) (fun j hj => zmRight_k _ (by omega)) (zmRight_o _ (by omega)) (zmRight_o _ (by omega)) (zmRight_o _ (by omega))
end ANA
