/-! a run from its start: what is asked, what is left, room in the cache -/
def lP0 (M : jM) (d r c n b cap : Nat) (N : jM) (m t : Nat) : Prop := (∀ k, k < 16 → M d k = N (m + 1) k) ∧ (∀ k, k < r → M (d + 1) k = nI (lPk (N (m + 1)) k)) ∧ (∀ i, i < 128 → M (d + 2) i = N (m + 1) (179 + i)) ∧ lSt M d (N (m + 1)) c ∧ lPl M d (N (m + 1)) n ∧ xKn (N (m + 1)) ∧ xRn (N (m + 1)) c ∧ xSp (N (m + 1)) n b ∧ zRd (N (m + 1)) r c ∧ N (m + 1) 4 = nI n ∧ n ≤ 8 ∧ N (m + 1) 15 = nI cap ∧ cap ≤ 8 ∧ 1 ≤ cap ∧
  eOrd (N (m + 1)) n ∧ (∀ q, q < n → isB (N (m + 1) (367 + 9 * q + 7)) ∧ ∃ y, y < 2 ^ 20 ∧ N (m + 1) (367 + 9 * q) = nI y) ∧ (∀ q, q < n → ∃ t, t < c ∧ N (m + 1) (367 + 9 * q + 1) = nI t ∧ ∃ y, (y = 9 ∨ y < zN (N (m + 1)) t) ∧ N (m + 1) (367 + 9 * q + 3) = nI y) ∧ N (m + 1) 16 = nI t ∧ t < c
def lRp (γ : jG) (M : jM) (R : jR) (d r c n b m t : Nat) (N : jM) : jPost := fun v' γ' M' R' => v' = some (.int (sI (zAllF (zGoes N m t r n (zN (N (m + 1)) t) (m + 1)) (N (m + 4)) t (zN (N (m + 1)) t)) r)) ∧ γ' = γ ∧ R' = R ∧ (∀ x, (x < d ∨ d + 6 ≤ x) → M' x = M x) ∧ ∃ n', n' ≤ 8 ∧ zGoes N m t r n (zN (N (m + 1)) t) (m + 1) 4 = nI n' ∧ lA M' d (zGoes N m t r n (zN (N (m + 1)) t) (m + 1)) r n' c (b + 1)
def lClI (Mb : jM) (d n b m : Nat) (N : jM) (n1 : Nat) (N1 Ml : jM) (F : Int32) : Prop := zCl (N (m + 1) 15) m n1 N1 F = zCl (N (m + 1) 15) m n N (-4) ∧ n1 ≤ n ∧ (∀ k, k < 16 → Ml d k = N1 (m + 1) k) ∧ (∀ x, x ≠ d → x ≠ d + 4 → x ≠ d + 5 → Ml x = Mb x) ∧ (∀ i, i ≠ 12 → Ml (d + 5) i = Mb (d + 5) i) ∧ Ml (d + 5) 12 = F ∧ lPl Ml d (N1 (m + 1)) n1 ∧ xSp (N1 (m + 1)) n1 b ∧
  (∀ j, j < 367 → j ≠ 4 → j ≠ 8 → N1 (m + 1) j = N (m + 1) j) ∧ N1 (m + 1) 4 = nI n1 ∧ (∀ x, x ≠ m + 1 → N1 x = N x) ∧ eOrd (N1 (m + 1)) n1 ∧ (∀ q, q < n1 → isB (N1 (m + 1) (367 + 9 * q + 7)) ∧ ∃ y, y < 2 ^ 20 ∧ N1 (m + 1) (367 + 9 * q) = nI y) ∧ (F = -4 ∨ 0 ≤ F)
section CL
variable {M Mb Mc Ml N N1 : jM} {d r c n b cap m t n1 f : Nat} {F own est : Int32}
theorem lCl_0 (P : lP0 M d r c n b cap N m t) (h0 : ∀ x, x ≠ d + 5 → Mb x = M x) (h12 : Mb (d + 5) 12 = -4) : lClI Mb d n b m N n N Mb (-4) := by
  obtain ⟨p1, p2, p3, p4, p5, p6, p7, p8, p9, p10, p11, p12, p13, p14, p15, p16, p17, p18, p19⟩ := P
  exact ⟨rfl, Nat.le_refl n, fun k hk => by rw [h0 d (by omega)]; exact p1 k hk, fun _ _ _ _ => rfl, fun _ _ => rfl, h12, lPl_c p5 (h0 _ (by omega)) (fun _ _ _ => rfl), p8, fun _ _ _ _ => rfl, p10, fun _ _ => rfl, p15, p16, Or.inl rfl⟩
theorem lCl_go (hn8 : n ≤ 8) (hcap : N (m + 1) 15 = nI cap) (hc8 : cap ≤ 8) (I : lClI Mb d n b m N n1 N1 Ml F) (hf : f < n1) (hz : zLast (zDrp (N1 (m + 1)) n1 (nI 0)) n1 = nI f) (hcn : cap ≤ n1) :
    lClI Mb d n b m N (n1 - 1) (jup (mOut N1 m n1 f) (m + 1) 8 (mOut N1 m n1 f (m + 1) 8 + nI 1)) (jup (lOut (jup Ml (d + 5) 12 (if 0 ≤ F then F else N1 (m + 1) (367 + 9 * f + 0))) d n1 f) d 8 (N1 (m + 1) 8 + nI 1)) (if 0 ≤ F then F else N1 (m + 1) (367 + 9 * f + 0)) := by
  obtain ⟨h1, h2, h3, h4, h5, h6, h7, h8, h9, h10, h11, h12, h13, h14⟩ := I
  obtain ⟨w, rfl⟩ : ∃ w, n1 = w + 1 := ⟨n1 - 1, by omega⟩
  have e8 : mOut N1 m (w + 1) f (m + 1) 8 = N1 (m + 1) 8 := mOut_l _ (by decide) (by decide)
  have eP : ∀ p, p < w + 1 - 1 → ∀ y, y < 9 → jup (mOut N1 m (w + 1) f) (m + 1) 8 (mOut N1 m (w + 1) f (m + 1) 8 + nI 1) (m + 1) (367 + 9 * p + y) = N1 (m + 1) (367 + 9 * outG f p + y) := fun p hp y hy => by rw [jup_nk _ _ (by omega), mOut_pl _ _ hf hp hy]
  have lP : lPl (jup Ml (d + 5) 12 (if 0 ≤ F then F else N1 (m + 1) (367 + 9 * f + 0))) d (N1 (m + 1)) (w + 1) := lPl_c h7 (jup_row _ _ (by omega)) (fun _ _ _ => rfl)
  have P1 := lPl_out (S2 := jup (mOut N1 m (w + 1) f) (m + 1) 8 (mOut N1 m (w + 1) f (m + 1) 8 + nI 1) (m + 1)) lP hf eP
  refine ⟨?_, by omega, fun k hk => ?_, fun x a1 a2 a3 => ?_, fun i hi => ?_, ?_, lPl_c P1 (jup_row _ _ (by omega)) (fun _ _ _ => rfl), xSp_out h8 (Nat.le_refl b) hf eP, fun j a1 a2 a3 => ?_, ?_, fun x hx => ?_, ?_, fun q hq => ?_, ?_⟩
  · rw [← h1]
    exact (zCl_go (fun q => by rw [hcap] at q; have := (nI_ltI (by omega) (by omega)).mp q; omega) hz (by omega)).symm
  · by_cases k8 : k = 8
    · rw [k8, jup_eq, jup_eq, e8]
    · rw [jup_nk _ _ k8, jup_nk _ _ k8]
      by_cases k4 : k = 4
      · rw [k4, lOut_4]
        exact (mOut_n _ _ _ _).symm
      · rw [lOut_g _ k4, jup_row _ _ (by omega), h3 k hk, mOut_l _ (by omega) k4]
  · rw [jup_row _ _ a1, lOut_o _ a1 a2, jup_row _ _ a3]
    exact h4 x a1 a2 a3
  · rw [jup_row _ _ (by omega), lOut_o _ (by omega) (by omega), jup_nk _ _ hi]
    exact h5 i hi
  · rw [jup_row _ _ (by omega), lOut_o _ (by omega) (by omega), jup_eq]
  · rw [jup_nk _ _ a3, mOut_l _ a1 a2]
    exact h9 j a1 a2 a3
  · rw [jup_nk _ _ (by decide)]
    exact mOut_n _ _ _ _
  · rw [jup_row _ _ hx, mOut_o _ hx]
    exact h11 x hx
  · exact eOrd_g h12 (fun q hq => outG_lt hf hq) (fun _ _ _ _ q => outG_inj q) (fun q hq y hy => eP q hq y (by omega))
  · rw [eP q hq 7 (by decide)]
    have e0 : jup (mOut N1 m (w + 1) f) (m + 1) 8 (mOut N1 m (w + 1) f (m + 1) 8 + nI 1) (m + 1) (367 + 9 * q) = N1 (m + 1) (367 + 9 * outG f q) := eP q hq 0 (by decide)
    rw [e0]
    exact h13 _ (outG_lt hf hq)
  · by_cases hF : 0 ≤ F
    · rw [if_pos hF]
      exact Or.inr hF
    · rw [if_neg hF]
      obtain ⟨y, y1, y2⟩ := (h13 f hf).2
      exact Or.inr (by rw [show 367 + 9 * f + 0 = 367 + 9 * f from rfl, y2]; exact nI_pos' (by omega))
/-- three words of a new plan are zero -/
def lZ3 (M : jM) (d n1 k : Nat) : jM := fun b i => if b = d + 4 ∧ 8 * n1 + 5 ≤ i ∧ i < 8 * n1 + 5 + k then nI 0 else M b i
theorem lZ3_0 (M : jM) (d n1 : Nat) : lZ3 M d n1 0 = M := by
  funext b i
  simp only [lZ3]
  rw [if_neg (by omega)]
theorem lZ3_s (M : jM) (d n1 k : Nat) : jup (lZ3 M d n1 k) (d + 4) (8 * n1 + (5 + k)) (nI 0) = lZ3 M d n1 (k + 1) := by
  funext b i
  simp only [jup, lZ3]
  by_cases h : b = d + 4
  · by_cases h1 : i = 8 * n1 + (5 + k)
    · rw [if_pos ⟨h, h1⟩, if_pos ⟨h, by omega, by omega⟩]
    · rw [if_neg (fun q => h1 q.2)]
      by_cases h2 : 8 * n1 + 5 ≤ i ∧ i < 8 * n1 + 5 + k
      · rw [if_pos ⟨h, h2⟩, if_pos ⟨h, by omega, by omega⟩]
      · rw [if_neg (fun q => h2 q.2), if_neg (by omega)]
  · rw [if_neg (fun q => h q.1), if_neg (fun q => h q.1), if_neg (fun q => h q.1)]
theorem lZ3_o (M : jM) {d n1 k b : Nat} (h : b ≠ d + 4) : lZ3 M d n1 k b = M b := by
  funext i
  simp only [lZ3]
  rw [if_neg (fun q => h q.1)]
/-- the words of a start, for the readers -/
theorem lP0_H (P : lP0 M d r c n b cap N m t) (h0 : ∀ x, x ≠ d + 5 → Mb x = M x) : lRd Mb d (N (m + 1)) r c := by
  obtain ⟨p1, p2, p3, p4, -⟩ := P
  exact ⟨fun k hk => by rw [h0 d (by omega)]; exact p1 k (by omega), fun k hk => by rw [h0 _ (by omega)]; exact p2 k hk, fun i hi => by rw [h0 _ (by omega)]; exact p3 i hi, fun t ht => by rw [h0 _ (by omega)]; exact (p4 t ht).1⟩
theorem lP0_there (P : lP0 M d r c n b cap N m t) (h0 : ∀ x, x ≠ d + 5 → Mb x = M x) (l0 : Mb (d + 5) 0 = nI t) (l5 : Mb (d + 5) 5 = own) (l10 : Mb (d + 5) 10 = nI 0) (l12 : Mb (d + 5) 12 = -4) (hMc : Mc = jup Mb d 7 (N (m + 1) 7 + nI 1)) : lP5 Mc d r c n b (jup N (m + 1) 28 (-4)) m t own (nI 0) (nI 1) := by
  obtain ⟨p1, p2, p3, p4, p5, p6, p7, p8, p9, p10, p11, p12, p13, p14, p15, p16, p17, p18, p19⟩ := P
  have hr := p9.2.1
  have hc := p9.2.2.2.2.1
  have e : ∀ j, j ≠ 28 → jup N (m + 1) 28 (-4) (m + 1) j = N (m + 1) j := fun j hj => jup_nk _ _ hj
  have mo : ∀ x, x ≠ d → x ≠ d + 5 → Mc x = M x := fun x h1 h2 => by rw [hMc, jup_row _ _ h1, h0 x h2]
  have m5 : Mc (d + 5) = Mb (d + 5) := by rw [hMc, jup_row _ _ (by omega)]
  refine ⟨fun k hk k7 => ?_, ?_, fun k hk => ?_, fun i hi => ?_, lSt_c (zN4_of p9) p4 (mo _ (by omega) (by omega)) (fun j h1 h2 => e j (by omega)), lPl_c p5 (mo _ (by omega) (by omega)) (fun j h1 h2 => e j (by omega)), ⟨?_, ?_, ?_, ?_⟩, xKn_c p6 (fun j hj => e j (by omega)), xRn_c p7 (fun j hj => e j (by omega)), xSp_c p8 (Nat.le_refl b) (fun j h1 h2 => e j (by omega)), zRd_k2 p9 (fun j hj => e j (by omega)) (fun t2 ht2 j h1 h2 => e j (by omega)), (e 4 (by decide)).trans p10, p11, p19⟩
  · rw [hMc, jup_nk _ _ k7, h0 d (by omega), p1 k hk, e k (by omega)]
  · rw [hMc, jup_eq, e 7 (by decide)]
  · rw [mo _ (by omega) (by omega), p2 k hk, lPk_c (S := N (m + 1)) (fun j hj => e _ (by omega))]
  · rw [mo _ (by omega) (by omega), p3 i hi, e _ (by omega)]
  · rw [m5, l0, e 16 (by decide), p18]
  · rw [m5, l5]
  · rw [m5, l10]
  · rw [m5, l12, jup_eq]
/-- what is left of the cache when room was made, no new plan -/
theorem lP0_not (P : lP0 M d r c n b cap N m t) (h0 : ∀ x, x ≠ d + 5 → Mb x = M x) (l0 : Mb (d + 5) 0 = nI t) (l5 : Mb (d + 5) 5 = own) (l10 : Mb (d + 5) 10 = nI 2) (I : lClI Mb d n b m N n1 N1 Ml F) : lP5 Ml d r c n1 b (jup N1 (m + 1) 28 F) m t own (nI 2) (nI 0) := by
  obtain ⟨p1, p2, p3, p4, p5, p6, p7, p8, p9, p10, p11, p12, p13, p14, p15, p16, p17, p18, p19⟩ := P
  obtain ⟨h1, h2, h3, h4, h5, h6, h7, h8, h9, h10, h11, h12, h13, h14⟩ := I
  have hr := p9.2.1
  have hc := p9.2.2.2.2.1
  have e : ∀ j, j ≠ 28 → jup N1 (m + 1) 28 F (m + 1) j = N1 (m + 1) j := fun j hj => jup_nk _ _ hj
  have e' : ∀ j, j < 367 → j ≠ 4 → j ≠ 8 → j ≠ 28 → jup N1 (m + 1) 28 F (m + 1) j = N (m + 1) j := fun j a1 a2 a3 a4 => (e j a4).trans (h9 j a1 a2 a3)
  have mo : ∀ x, x ≠ d → x ≠ d + 4 → x ≠ d + 5 → Ml x = M x := fun x a1 a2 a3 => by rw [h4 x a1 a2 a3, h0 x a3]
  refine ⟨fun k hk k7 => by rw [h3 k hk, e k (by omega)], by rw [h3 7 (by decide), e 7 (by decide), nI_0, Int32.add_zero], fun k hk => ?_, fun i hi => ?_, lSt_c (zN4_of p9) p4 (mo _ (by omega) (by omega) (by omega)) (fun j a1 a2 => e' j (by omega) (by omega) (by omega) (by omega)), lPl_c h7 rfl (fun j a1 a2 => e j (by omega)), ⟨?_, ?_, ?_, ?_⟩, xKn_c p6 (fun j hj => e' j (by omega) (by omega) (by omega) (by omega)), xRn_c p7 (fun j hj => e' j (by omega) (by omega) (by omega) (by omega)), xSp_c h8 (Nat.le_refl b) (fun j a1 a2 => e j (by omega)), zRd_k2 p9 (fun j hj => e' j (by omega) (by omega) (by omega) (by omega)) (fun t2 ht2 j a1 a2 => e' j (by omega) (by omega) (by omega) (by omega)), (e 4 (by decide)).trans h10, by omega, p19⟩
  · rw [mo _ (by omega) (by omega) (by omega), p2 k hk, lPk_c (S := N (m + 1)) (fun j hj => e' _ (by omega) (by omega) (by omega) (by omega))]
  · rw [mo _ (by omega) (by omega) (by omega), p3 i hi, e' _ (by omega) (by omega) (by omega) (by omega)]
  · rw [h5 0 (by decide), l0, e' 16 (by decide) (by decide) (by decide) (by decide), p18]
  · rw [h5 5 (by decide), l5]
  · rw [h5 10 (by decide), l10]
  · rw [h6, jup_eq]
/-- a new plan's words in the law's rows -/
theorem lP0_kept {w : Nat} (P : lP0 M d r c n b cap N m t) (h0 : ∀ x, x ≠ d + 5 → Mb x = M x) (l0 : Mb (d + 5) 0 = nI t) (l5 : Mb (d + 5) 5 = own) (I : lClI Mb d n b m N n1 N1 Ml F) (hn7 : n1 < 8) (hz80 : ∃ z, z ≤ 80 ∧ own = nI z)
    (hMc : Mc = jup (jup (lZ3 (jup (jup (jup (jup (jup (jup Ml d 4 (nI (n1 + 1))) (d + 4) (8 * n1) (N1 (m + 1) 5)) (d + 4) (8 * n1 + 1) (nI t)) (d + 4) (8 * n1 + 2) own) (d + 4) (8 * n1 + 3) (nI w)) (d + 4) (8 * n1 + 4) est) d n1 3) d 5 (N1 (m + 1) 5 + nI 1)) (d + 5) 10 (nI 1)) :
    lP5 Mc d r c (n1 + 1) b (mKp (jup N1 (m + 1) 28 F) m n1 (nI t) own (nI w) est) m t own (nI 1) (nI 0) := by
  obtain ⟨p1, p2, p3, p4, p5, p6, p7, p8, p9, p10, p11, p12, p13, p14, p15, p16, p17, p18, p19⟩ := P
  obtain ⟨h1, h2, h3, h4, h5, h6, h7, h8, h9, h10, h11, h12, h13, h14⟩ := I
  have hr := p9.2.1
  have hc := p9.2.2.2.2.1
  generalize hT : mKp (jup N1 (m + 1) 28 F) m n1 (nI t) own (nI w) est = T
  have el : ∀ j, j < 367 → j ≠ 4 → j ≠ 5 → j ≠ 28 → T (m + 1) j = N1 (m + 1) j := fun j a1 a2 a3 a4 => by rw [← hT, mKp_l _ a1 a2 a3, jup_nk _ _ a4]
  have e' : ∀ j, j < 367 → j ≠ 4 → j ≠ 5 → j ≠ 8 → j ≠ 28 → T (m + 1) j = N (m + 1) j := fun j a1 a2 a3 a4 a5 => (el j a1 a2 a3 a5).trans (h9 j a1 a2 a4)
  have e28 : T (m + 1) 28 = F := by rw [← hT, mKp_l _ (by decide) (by decide) (by decide), jup_eq]
  have e4 : T (m + 1) 4 = nI (n1 + 1) := by rw [← hT]; exact mKp_4 _
  have e5 : T (m + 1) 5 = N1 (m + 1) 5 + nI 1 := by rw [← hT, mKp, jup_nk _ _ (by decide), jup_eq, jup_nk _ _ (by decide)]
  have eq : ∀ q, q < n1 → ∀ y, y < 9 → T (m + 1) (367 + 9 * q + y) = N1 (m + 1) (367 + 9 * q + y) := fun q hq y hy => by
    rw [← hT, mKp, jup_nk _ _ (by omega), jup_nk _ _ (by omega), jup_nk _ _ (by omega), jup_nk _ _ (by omega), jup_nk _ _ (by omega), jup_nk _ _ (by omega), jup_nk _ _ (by omega), jup_nk _ _ (by omega), jup_nk _ _ (by omega), jup_nk _ _ (by omega), jup_nk _ _ (by omega), jup_nk _ _ (by omega)]
  have n0 : T (m + 1) (367 + 9 * n1 + 0) = N1 (m + 1) 5 := by rw [← hT, mKp, jup_nk _ _ (by omega), jup_nk _ _ (by omega), jup_nk _ _ (by omega), jup_nk _ _ (by omega), jup_nk _ _ (by omega), jup_nk _ _ (by omega), jup_nk _ _ (by omega), jup_nk _ _ (by omega), jup_nk _ _ (by omega), jup_nk _ _ (by omega), jup_eq, jup_nk _ _ (by decide)]
  have v1 : T (m + 1) (367 + 9 * n1 + 1) = nI t := by rw [← hT, mKp, jup_nk _ _ (by omega), jup_nk _ _ (by omega), jup_nk _ _ (by omega), jup_nk _ _ (by omega), jup_nk _ _ (by omega), jup_nk _ _ (by omega), jup_nk _ _ (by omega), jup_nk _ _ (by omega), jup_nk _ _ (by omega), jup_eq]
  have v2 : T (m + 1) (367 + 9 * n1 + 2) = own := by rw [← hT, mKp, jup_nk _ _ (by omega), jup_nk _ _ (by omega), jup_nk _ _ (by omega), jup_nk _ _ (by omega), jup_nk _ _ (by omega), jup_nk _ _ (by omega), jup_nk _ _ (by omega), jup_nk _ _ (by omega), jup_eq]
  have v3 : T (m + 1) (367 + 9 * n1 + 3) = nI w := by rw [← hT, mKp, jup_nk _ _ (by omega), jup_nk _ _ (by omega), jup_nk _ _ (by omega), jup_nk _ _ (by omega), jup_nk _ _ (by omega), jup_nk _ _ (by omega), jup_nk _ _ (by omega), jup_eq]
  have v4 : T (m + 1) (367 + 9 * n1 + 4) = est := by rw [← hT, mKp, jup_nk _ _ (by omega), jup_nk _ _ (by omega), jup_nk _ _ (by omega), jup_nk _ _ (by omega), jup_nk _ _ (by omega), jup_nk _ _ (by omega), jup_eq]
  have v5 : T (m + 1) (367 + 9 * n1 + 5) = nI 0 := by rw [← hT, mKp, jup_nk _ _ (by omega), jup_nk _ _ (by omega), jup_nk _ _ (by omega), jup_nk _ _ (by omega), jup_nk _ _ (by omega), jup_eq]
  have v6 : T (m + 1) (367 + 9 * n1 + 6) = nI 0 := by rw [← hT, mKp, jup_nk _ _ (by omega), jup_nk _ _ (by omega), jup_nk _ _ (by omega), jup_nk _ _ (by omega), jup_eq]
  have v7 : T (m + 1) (367 + 9 * n1 + 7) = nI 0 := by rw [← hT, mKp, jup_nk _ _ (by omega), jup_nk _ _ (by omega), jup_nk _ _ (by omega), jup_eq]
  have v8 : T (m + 1) (367 + 9 * n1 + 8) = nI 0 := by rw [← hT, mKp, jup_nk _ _ (by omega), jup_nk _ _ (by omega), jup_eq]
  have m0 : ∀ i, i ≠ 4 → i ≠ 5 → Mc d i = Ml d i := fun i a1 a2 => by rw [hMc, jup_row _ _ (by omega), jup_nk _ _ a2, lZ3_o _ (by omega), jup_row _ _ (by omega), jup_row _ _ (by omega), jup_row _ _ (by omega), jup_row _ _ (by omega), jup_row _ _ (by omega), jup_nk _ _ a1]
  have m04 : Mc d 4 = nI (n1 + 1) := by rw [hMc, jup_row _ _ (by omega), jup_nk _ _ (by decide), lZ3_o _ (by omega), jup_row _ _ (by omega), jup_row _ _ (by omega), jup_row _ _ (by omega), jup_row _ _ (by omega), jup_row _ _ (by omega), jup_eq]
  have m05 : Mc d 5 = N1 (m + 1) 5 + nI 1 := by rw [hMc, jup_row _ _ (by omega), jup_eq]
  have m5 : ∀ i, i ≠ 10 → Mc (d + 5) i = Ml (d + 5) i := fun i hi => by rw [hMc, jup_nk _ _ hi, jup_row _ _ (by omega), lZ3_o _ (by omega), jup_row _ _ (by omega), jup_row _ _ (by omega), jup_row _ _ (by omega), jup_row _ _ (by omega), jup_row _ _ (by omega), jup_row _ _ (by omega)]
  have mo : ∀ x, x ≠ d → x ≠ d + 4 → x ≠ d + 5 → Mc x = M x := fun x a1 a2 a3 => by rw [hMc, jup_row _ _ a3, jup_row _ _ a1, lZ3_o _ a2, jup_row _ _ a2, jup_row _ _ a2, jup_row _ _ a2, jup_row _ _ a2, jup_row _ _ a2, jup_row _ _ a1, h4 x a1 a2 a3, h0 x a3]
  generalize hX : jup (jup (jup (jup (jup (jup Ml d 4 (nI (n1 + 1))) (d + 4) (8 * n1) (N1 (m + 1) 5)) (d + 4) (8 * n1 + 1) (nI t)) (d + 4) (8 * n1 + 2) own) (d + 4) (8 * n1 + 3) (nI w)) (d + 4) (8 * n1 + 4) est = Xx at hMc
  have m4 : ∀ i, i < 8 * n1 + 5 → Mc (d + 4) i = Xx (d + 4) i := fun i hi => by
    rw [hMc, jup_row _ _ (by omega), jup_row _ _ (by omega)]
    simp only [lZ3]
    rw [if_neg (by omega)]
  have m4z : ∀ k, k < 3 → Mc (d + 4) (8 * n1 + 5 + k) = nI 0 := fun k hk => by
    rw [hMc, jup_row _ _ (by omega), jup_row _ _ (by omega)]
    simp only [lZ3]
    rw [if_pos ⟨trivial, by omega, by omega⟩]
  have xo : ∀ i, i < 8 * n1 → Xx (d + 4) i = Ml (d + 4) i := fun i hi => by rw [← hX, jup_nk _ _ (by omega), jup_nk _ _ (by omega), jup_nk _ _ (by omega), jup_nk _ _ (by omega), jup_nk _ _ (by omega), jup_row _ _ (by omega)]
  refine ⟨fun k hk k7 => ?_, ?_, fun k hk => ?_, fun i hi => ?_, lSt_c (zN4_of p9) p4 (mo _ (by omega) (by omega) (by omega)) (fun j a1 a2 => e' j (by omega) (by omega) (by omega) (by omega) (by omega)), fun q hq => ?_, ⟨?_, ?_, ?_, ?_⟩, xKn_c p6 (fun j hj => e' j (by omega) (by omega) (by omega) (by omega) (by omega)), xRn_c p7 (fun j hj => e' j (by omega) (by omega) (by omega) (by omega) (by omega)), fun q hq => ?_, zRd_k2 p9 (fun j hj => e' j (by omega) (by omega) (by omega) (by omega) (by omega)) (fun t2 ht2 j a1 a2 => e' j (by omega) (by omega) (by omega) (by omega) (by omega)), e4, by omega, p19⟩
  · by_cases k4 : k = 4
    · rw [k4, m04, e4]
    · by_cases k5 : k = 5
      · rw [k5, m05, e5]
      · rw [m0 k k4 k5, h3 k hk, el k (by omega) k4 k5 (by omega)]
  · rw [m0 7 (by decide) (by decide), h3 7 (by decide), el 7 (by decide) (by decide) (by decide) (by decide), nI_0, Int32.add_zero]
  · rw [mo _ (by omega) (by omega) (by omega), p2 k hk, lPk_c (S := N (m + 1)) (fun j hj => e' _ (by omega) (by omega) (by omega) (by omega) (by omega))]
  · rw [mo _ (by omega) (by omega) (by omega), p3 i hi, e' _ (by omega) (by omega) (by omega) (by omega) (by omega)]
  · by_cases qn : q = n1
    · subst qn
      refine ⟨fun j hj => ?_, ?_, ?_⟩
      · match j, hj with
        | 0, _ => rw [n0, m4 _ (by omega), ← hX, jup_nk _ _ (by omega), jup_nk _ _ (by omega), jup_nk _ _ (by omega), jup_nk _ _ (by omega)]; exact jup_eq _ _ _ _
        | 1, _ => rw [v1, m4 _ (by omega), ← hX, jup_nk _ _ (by omega), jup_nk _ _ (by omega), jup_nk _ _ (by omega)]; exact jup_eq _ _ _ _
        | 2, _ => rw [v2, m4 _ (by omega), ← hX, jup_nk _ _ (by omega), jup_nk _ _ (by omega)]; exact jup_eq _ _ _ _
        | 3, _ => rw [v3, m4 _ (by omega), ← hX, jup_nk _ _ (by omega)]; exact jup_eq _ _ _ _
        | 4, _ => rw [v4, m4 _ (by omega), ← hX]; exact jup_eq _ _ _ _
        | 5, _ => rw [v5]; exact m4z 0 (by decide)
      · rw [v7, v6, show nI 0 + nI 2 * nI 0 = nI 0 by decide]
        exact m4z 1 (by decide)
      · rw [v8]
        exact m4z 2 (by decide)
    · obtain ⟨g1, g2, g3⟩ := h7 q (by omega)
      refine ⟨fun j hj => ?_, ?_, ?_⟩
      · rw [m4 _ (by omega), xo _ (by omega), eq q (by omega) j (by omega)]; exact g1 j hj
      · rw [m4 _ (by omega), xo _ (by omega), eq q (by omega) 7 (by omega), eq q (by omega) 6 (by omega)]; exact g2
      · rw [m4 _ (by omega), xo _ (by omega), eq q (by omega) 8 (by omega)]; exact g3
  · rw [m5 0 (by decide), h5 0 (by decide), l0, e' 16 (by decide) (by decide) (by decide) (by decide) (by decide), p18]
  · rw [m5 5 (by decide), h5 5 (by decide), l5]
  · rw [hMc, jup_eq]
  · rw [m5 12 (by decide), h6, e28]
  · by_cases qn : q = n1
    · subst qn
      obtain ⟨z, z1, z2⟩ := hz80
      exact ⟨⟨0, Nat.zero_le b, v6⟩, z, z1, v2.trans z2⟩
    · obtain ⟨⟨s, s1, s2⟩, z, z1, z2⟩ := h8 q (by omega)
      exact ⟨⟨s, s1, by rw [eq q (by omega) 6 (by omega)]; exact s2⟩, z, z1, by rw [eq q (by omega) 2 (by omega)]; exact z2⟩
end CL
section ZG
variable {N N1 : jM} {m t r n nc n1 w : Nat} {F : Int32}
theorem zGoes_not (hgP : gP N m t n nc < 0) (hK : gK N m n = (N1, F, n1)) (hc : ¬ nI n1 < jup N1 (m + 1) 28 F (m + 1) 15) : zGoes N m t r n nc = gTB (jup N1 (m + 1) 28 F) m t r (gWy N m t nc) (gO N m t nc) (gE N m t nc) (nI 0) (-4) (nI 2) := by
  have hgN : gN N m n = jup N1 (m + 1) 28 F := by unfold gN; rw [hK]
  unfold zGoes
  rw [if_pos hgP, hgN, hK]
  exact if_neg hc
theorem zGoes_kept (hgP : gP N m t n nc < 0) (hK : gK N m n = (N1, F, n1)) (hc : nI n1 < jup N1 (m + 1) 28 F (m + 1) 15) : zGoes N m t r n nc = gTA (mKp (jup N1 (m + 1) 28 F) m n1 (nI t) (gO N m t nc) (nI (gWy N m t nc)) (gE N m t nc)) m t r (gWy N m t nc) (n1 + 1) n1 (gO N m t nc) (gE N m t nc) (nI 0)
      (gT1 (mKp (jup N1 (m + 1) 28 F) m n1 (nI t) (gO N m t nc) (nI (gWy N m t nc)) (gE N m t nc)) m t (nI 0) (m + 1) (367 + 9 * n1 + 0)) (nI 1) := by
  have hgN : gN N m n = jup N1 (m + 1) 28 F := by unfold gN; rw [hK]
  unfold zGoes
  rw [if_pos hgP, hgN, hK]
  exact if_pos hc
theorem mKp_B {T : jM} {t' o w' e : Int32} (h : ∀ q, q < n1 → isB (T (m + 1) (367 + 9 * q + 7))) : ∀ p, p < n1 + 1 → isB (mKp T m n1 t' o w' e (m + 1) (367 + 9 * p + 7)) := fun p hp => by
  by_cases pn : p = n1
  · subst pn
    rw [mKp, jup_nk _ _ (by omega), jup_nk _ _ (by omega), jup_nk _ _ (by omega), jup_eq]
    exact Or.inl rfl
  · rw [mKp, jup_nk _ _ (by omega), jup_nk _ _ (by omega), jup_nk _ _ (by omega), jup_nk _ _ (by omega), jup_nk _ _ (by omega), jup_nk _ _ (by omega), jup_nk _ _ (by omega), jup_nk _ _ (by omega), jup_nk _ _ (by omega), jup_nk _ _ (by omega), jup_nk _ _ (by omega)]
    exact h p (by omega)
theorem zCls_z80 (S V : Nat → Int32) (t n : Nat) (hn : n ≤ 4) : ∃ z, z ≤ 80 ∧ zCls S V t n n = nI z := by
  obtain ⟨z, z1, z2⟩ := zCls_80 S V t n hn n (Nat.le_refl n)
  have h3 : 3 ^ n ≤ 3 ^ 4 := Nat.pow_le_pow_right (by decide) hn
  have : (3 : Nat) ^ 4 = 81 := rfl
  exact ⟨z, by omega, z2⟩
end ZG
