/-! what a call changes, in the law's rows, in the class and in the words between -/
def LJ (M : jM) (R : jR) (a h T v m b nh r n c len : Nat) (f : Nat → Nat) : Prop := eInv M R a h T v m b nh ∧ eR M R a (M (m + 1)) b r n c f ∧ eTxt M T m len
section LO
variable {ω : jW} {γ : jG} {M M1 M2 M3 : jM} {R R1 : jR} {x a h T v m d b b' nh r n c len : Nat} {f : Nat → Nat} {S S2 : Nat → Int32}
theorem LJ.CB (J : LJ M R a h T v m b nh r n c len f) : CB M R a h T nh n c r len := CB_inv J.1.1 J.2.1 J.1.2.2.2.2.1 J.2.2
theorem LJ_law (J : LJ M R a h T v m b nh r n c len f) (hvd : v < d) (hdm : d + 6 ≤ m) (hM : ∀ x, (x < d ∨ d + 6 ≤ x) → M1 x = M x) : LJ M1 R a h T v m (b + 1) nh r n c len f := by
  obtain ⟨I, e, hx⟩ := J
  have I' := I
  obtain ⟨I1, I2, I3, I4, I5, -, I7, I8, I9, I10⟩ := I'
  have e1 : M1 (m + 1) = M (m + 1) := hM _ (by omega)
  refine ⟨e_same I (fun x h1 h2 => hM x (by omega)) (fun j _ => by rw [hM m (by omega)]) e1 (hM _ (by omega)) (hM _ (by omega)), ?_, hx.1, ?_, ?_, fun k hk => ?_⟩
  · exact eR_c e (eqB_same I1.2.2.2.1.2.1 (fun x h1 h2 => hM x (by omega)) rfl) (fun _ _ => by rw [e1]) (Nat.le_succ b)
  · rw [hM _ (by omega)]; exact hx.2.1
  · rw [hM _ (by omega)]; exact hx.2.2.1
  · rw [hM _ (by omega), hM _ (by omega)]; exact hx.2.2.2 k hk
theorem LJ.num (J : LJ M R a h T v m b nh r n c len f) : M (m + 1) 0 = nI r ∧ r ≤ 30 ∧ M (m + 1) 4 = nI n ∧ n ≤ 8 ∧ M (m + 1) 3 = nI c ∧ c ≤ 6 ∧ M m 4 = nI len ∧ len ≤ 30 :=
  ⟨J.2.1.1.2.1, J.2.1.1.2.2.1, J.2.1.2.2.2.2.2.2.2.1.2.1, J.2.1.2.2.2.2.2.2.2.1.2.2.1, J.2.1.2.2.2.1.2.1, J.2.1.2.2.2.1.2.2.1, J.2.2.2.2.1, J.2.2.1⟩
theorem LJ_to (I : eInv M R a h T v m b nh) (h0 : M (m + 1) 0 = nI r) (hr : r ≤ 30) (h4 : M (m + 1) 4 = nI n) (hn : n ≤ 8) (h3 : M (m + 1) 3 = nI c) (hc : c ≤ 6) (hl : M m 4 = nI len) (hl30 : len ≤ 30) : ∃ f, LJ M R a h T v m b nh r n c len f := by
  obtain ⟨r', n', c', f', e⟩ := I.2.2.2.1
  obtain ⟨len', hx⟩ := I.2.2.2.2.2.1
  have J : LJ M R a h T v m b nh r' n' c' len' f' := ⟨I, e, hx⟩
  obtain ⟨n0, n1, n2, n3, n4, n5, n6, n7⟩ := J.num
  obtain rfl : r' = r := nI_inj (n0.symm.trans h0) (by omega) (by omega)
  obtain rfl : n' = n := nI_inj (n2.symm.trans h4) (by omega) (by omega)
  obtain rfl : c' = c := nI_inj (n4.symm.trans h3) (by omega) (by omega)
  obtain rfl : len' = len := nI_inj (n6.symm.trans hl) (by omega) (by omega)
  exact ⟨f', J⟩
/-- what a method of the law leaves -/
def lQ (ω : jW) (γ : jG) (x a h T v m d b : Nat) : jPost := fun v' γ' M' R' => v' = some (.int (nI 1)) ∧ γ' = γ ∧ ∃ b' nh r n c f, b' ≤ b + 60 ∧ LI ω γ M' R' x a h T v m d b' nh r n c f
theorem lQ_of (gx : gX ω γ x a h T v) (gd : gD ω γ d) (hvd : v < d) (hdm : d + 6 ≤ m) (hjm : jlo ω + jn γ ≤ m) (J : LJ M R a h T v m b' nh r n c 0 f) (hb : b' ≤ b + 60) (A : lA M d (M (m + 1)) r n c b') : lQ ω γ x a h T v m d b (some (.int (nI 1))) γ M R :=
  ⟨rfl, rfl, b', nh, r, n, c, f, hb, gx, gd, hvd, hdm, hjm, J.1, J.2.1, J.2.2, A⟩
theorem lPk_c {k : Nat} (e : ∀ i, i < 5 → S2 (29 + 5 * k + i) = S (29 + 5 * k + i)) : lPk S2 k = lPk S k := by
  have z : ∀ i, i < 5 → zV S2 k i = zV S k i := fun i hi => by unfold zV; rw [e i hi]
  unfold lPk
  rw [z 0 (by decide), z 1 (by decide), z 2 (by decide), z 3 (by decide), z 4 (by decide)]
theorem lCs_c {t : Nat} (e : ∀ k, k < 4 → lCd S2 t k = lCd S t k) : ∀ k, k ≤ 4 → lCs S2 t k = lCs S t k
  | 0, _ => rfl
  | k + 1, hk => by
    show lCs S2 t k + 12 ^ k * lCd S2 t k = lCs S t k + 12 ^ k * lCd S t k
    rw [lCs_c e k (by omega), e k (by omega)]
theorem lCode_c {t : Nat} (h4 : zN S t ≤ 4) (e : ∀ j, 307 + 10 * t ≤ j → j < 307 + 10 * t + 9 → S2 j = S j) : lCode S2 t = lCode S t := by
  have e1 : zN S2 t = zN S t := by unfold zN; rw [e _ (by omega) (by omega)]
  unfold lCode
  rw [e1, lCs_c (fun k hk => by unfold lCd zCol zOp; rw [e _ (by omega) (by omega), e _ (by omega) (by omega)]) _ h4]
theorem lSt_c (hz : ∀ t, t < c → zN S t ≤ 4) (A : lSt M d S c) (eM : M1 (d + 3) = M (d + 3)) (e : ∀ j, 307 ≤ j → j < 307 + 10 * c → S2 j = S j) : lSt M1 d S2 c := fun t ht => by
  rw [eM, lCode_c (hz t ht) (fun j h1 h2 => e j (by omega) (by omega)), e _ (by omega) (by omega)]
  exact A t ht
theorem lPl_c (A : lPl M d S n) (eM : M1 (d + 4) = M (d + 4)) (e : ∀ j, 367 ≤ j → j < 367 + 9 * n → S2 j = S j) : lPl M1 d S2 n := fun q hq => by
  rw [eM, e _ (by omega) (by omega), e _ (by omega) (by omega), e _ (by omega) (by omega)]
  exact ⟨fun j hj => by rw [e _ (by omega) (by omega)]; exact (A q hq).1 j hj, (A q hq).2⟩
theorem lLs_c (A : lLs M d S) (eM : M1 (d + 5) = M (d + 5)) (e : ∀ j, 16 ≤ j → j < 29 → S2 j = S j) : lLs M1 d S2 := ⟨by rw [eM, e _ (by omega) (by omega)]; exact A.1, fun w hw => by rw [eM, e _ (by omega) (by omega)]; exact A.2 w hw⟩
theorem xKn_c (A : xKn S) (e : ∀ j, (j = 2 ∨ 179 ≤ j ∧ j < 307) → S2 j = S j) : xKn S2 := by
  refine ⟨fun i hi => ?_, ?_⟩
  · rw [e _ (by omega)]; exact A.1 i hi
  · rw [e 2 (by omega), ← A.2]
    exact sI_congr (fun i hi => e _ (by omega))
theorem xRn_c (A : xRn S c) (e : ∀ j, (j = 1 ∨ j = 6 ∨ 307 ≤ j ∧ j < 307 + 10 * c) → S2 j = S j) : xRn S2 c := by
  unfold xRn at *
  rw [e 6 (by omega), e 1 (by omega), ← A.1]
  exact ⟨sI_congr (fun i hi => e _ (by omega)), A.2⟩
theorem xSp_c (A : xSp S n b) (hb : b ≤ b') (e : ∀ j, 367 ≤ j → j < 367 + 9 * n → S2 j = S j) : xSp S2 n b' := fun q hq => by
  obtain ⟨⟨s, s1, s2⟩, z, z1, z2⟩ := A q hq
  exact ⟨⟨s, by omega, by rw [e _ (by omega) (by omega)]; exact s2⟩, z, z1, by rw [e _ (by omega) (by omega)]; exact z2⟩
theorem lA_b (A : lA M d S r n c b) (hb : b ≤ b') : lA M d S r n c b' := ⟨A.1, A.2.1, A.2.2.1, A.2.2.2.1, A.2.2.2.2.1, A.2.2.2.2.2.1, A.2.2.2.2.2.2.1, A.2.2.2.2.2.2.2.1, xSp_c A.2.2.2.2.2.2.2.2 hb (fun _ _ _ => rfl)⟩
theorem lA_M (A : lA M d S r n c b) (e : ∀ y, d ≤ y → y < d + 6 → M1 y = M y) : lA M1 d S r n c b := by
  have e0 := e d (by omega) (by omega)
  have e1 := e (d + 1) (by omega) (by omega)
  have e2 := e (d + 2) (by omega) (by omega)
  have e3 := e (d + 3) (by omega) (by omega)
  have e4 := e (d + 4) (by omega) (by omega)
  have e5 := e (d + 5) (by omega) (by omega)
  unfold lA lSt lPl lLs
  rw [e0, e1, e2, e3, e4, e5]
  exact A
theorem zN4_of (Z : zRd S r c) : ∀ t, t < c → zN S t ≤ 4 := fun t ht => (lN4 Z ht).2.1
/-- a row more -/
theorem op_row (J : LJ M R a h T v m b nh r n c 0 f) (A : lA M d (M (m + 1)) r n c b) (hvd : v < d) (hdm : d + 6 ≤ m) (hr : r < 30) {v0 v1 v2 v3 w N : Nat} (h0 : v0 < 32) (h1 : v1 < 32) (h2 : v2 < 32) (h3 : v3 < 32) (hw1 : 1 ≤ w) (hw : w ≤ 999) (hN : N = v0 + 32 * v1 + 1024 * v2 + 32768 * v3)
    (hM1 : M1 = jup (jup M (d + 1) r (nI (N + 1048576 * w))) d 0 (nI (r + 1))) : LJ M1 R a h T v m (b + 1) nh r n c 0 f ∧ fRow M1 R a h v nh (nI v0) (nI v1) (nI v2) (nI v3) (nI w) = nI r ∧
      ∃ M3, (∀ y, y < m → M3 y = mRow M1 R a h v nh (nI v0) (nI v1) (nI v2) (nI v3) (nI w) y) ∧ ∃ nh' f', LJ M3 (pRow M1 R a h nh (nI v0) (nI v1) (nI v2) (nI v3) (nI w)) a h T v m (b + 2) nh' (r + 1) n c 0 f' ∧ lA M3 d (M3 (m + 1)) (r + 1) n c (b + 2) := by
  have o1 : ∀ x, (x < d ∨ d + 6 ≤ x) → M1 x = M x := fun x hx => by rw [hM1, jup_row _ _ (by omega), jup_row _ _ (by omega)]
  have J1 := LJ_law J hvd hdm o1
  obtain ⟨md, eq, nh', I3⟩ := st_row J1.1 J1.2.1 (nI v0) (nI v1) (nI v2) (nI v3) (nI w)
  have hno : ¬ zNo (nI v0) (nI v1) (nI v2) (nI v3) (nI w) = true := by
    unfold zNo
    rw [lIn_y (Nat.zero_le v0) (show v0 ≤ 31 by omega) (by decide), lIn_y (Nat.zero_le v1) (show v1 ≤ 31 by omega) (by decide), lIn_y (Nat.zero_le v2) (show v2 ≤ 31 by omega) (by decide), lIn_y (Nat.zero_le v3) (show v3 ≤ 31 by omega) (by decide), lIn_y hw1 hw (by decide)]
    decide
  have hne : ¬ nI r = nI 30 := fun q => by have := nI_inj q (by omega) (by decide); omega
  generalize hM2 : mRow M1 R a h v nh (nI v0) (nI v1) (nI v2) (nI v3) (nI w) = M2 at md eq I3 ⊢
  have e3 : zmRow M2 m nh r (nI v0) (nI v1) (nI v2) (nI v3) (nI w) = mRowX (mChg M2 m nh) m r (nI v0) (nI v1) (nI v2) (nI v3) (nI w) := by rw [zmRow, if_neg hno, if_neg hne]
  rw [e3] at I3
  generalize hM3 : mRowX (mChg M2 m nh) m r (nI v0) (nI v1) (nI v2) (nI v3) (nI w) = M3 at I3
  obtain ⟨n0, n1, n2, n3, n4, n5, n6, n7⟩ := J.num
  have lo : ∀ y, y < m → M3 y = M2 y := fun y hy => by
    rw [← hM3, mRowX, jup_row _ _ (by omega), jup_row _ _ (by omega), jup_row _ _ (by omega), jup_row _ _ (by omega), jup_row _ _ (by omega), jup_row _ _ (by omega), mChg_o _ (by omega) (by omega)]
  have em : mChg M2 m nh (m + 1) = M (m + 1) := by rw [mChg_o _ (by omega) (by omega), md _ (by omega), o1 _ (by omega)]
  have eS : ∀ j, j ≠ 0 → (j < 29 + 5 * r ∨ 29 + 5 * r + 5 ≤ j) → M3 (m + 1) j = M (m + 1) j := fun j j0 hj => by
    rw [← hM3, mRowX, jup_nk _ _ j0, jup_nk _ _ (by omega), jup_nk _ _ (by omega), jup_nk _ _ (by omega), jup_nk _ _ (by omega), jup_nk _ _ (by omega), em]
  have eR0 : M3 (m + 1) 0 = nI (r + 1) := by rw [← hM3, mRowX, jup_eq]
  have r0 : M3 (m + 1) (29 + 5 * r + 0) = nI v0 := by rw [← hM3, mRowX, jup_nk _ _ (by omega), jup_nk _ _ (by omega), jup_nk _ _ (by omega), jup_nk _ _ (by omega), jup_nk _ _ (by omega)]; exact jup_eq _ _ _ _
  have r1 : M3 (m + 1) (29 + 5 * r + 1) = nI v1 := by rw [← hM3, mRowX, jup_nk _ _ (by omega), jup_nk _ _ (by omega), jup_nk _ _ (by omega), jup_nk _ _ (by omega), jup_eq]
  have r2 : M3 (m + 1) (29 + 5 * r + 2) = nI v2 := by rw [← hM3, mRowX, jup_nk _ _ (by omega), jup_nk _ _ (by omega), jup_nk _ _ (by omega), jup_eq]
  have r3 : M3 (m + 1) (29 + 5 * r + 3) = nI v3 := by rw [← hM3, mRowX, jup_nk _ _ (by omega), jup_nk _ _ (by omega), jup_eq]
  have r4 : M3 (m + 1) (29 + 5 * r + 4) = nI w := by rw [← hM3, mRowX, jup_nk _ _ (by omega), jup_eq]
  have el : M3 m 4 = nI 0 := by
    rw [← hM3, mRowX, jup_row _ _ (by omega), jup_row _ _ (by omega), jup_row _ _ (by omega), jup_row _ _ (by omega), jup_row _ _ (by omega), jup_row _ _ (by omega), mChg_k _ (by decide), md _ (by omega), o1 _ (by omega)]
    exact n6
  obtain ⟨f', J3⟩ := LJ_to I3 eR0 (by omega) ((eS 4 (by decide) (by omega)).trans n2) n3 ((eS 3 (by decide) (by omega)).trans n4) n5 el (by decide)
  have ld : ∀ y, d ≤ y → y < d + 6 → M3 y = M1 y := fun y y1 y2 => by rw [lo y (by omega), md y (by omega)]
  refine ⟨J1, by rw [eq, zfRow, if_neg hno, if_neg hne], M3, lo, nh', f', J3, lA_M ?_ ld⟩
  have Z := zRd_of J.2.1 A.2.2.2.2.2.2.1
  obtain ⟨a1, a2, a3, a4, a5, a6, a7, a8, a9⟩ := A
  have m3 : M1 (d + 3) = M (d + 3) := by rw [hM1, jup_row _ _ (by omega), jup_row _ _ (by omega)]
  have m4 : M1 (d + 4) = M (d + 4) := by rw [hM1, jup_row _ _ (by omega), jup_row _ _ (by omega)]
  have m5 : M1 (d + 5) = M (d + 5) := by rw [hM1, jup_row _ _ (by omega), jup_row _ _ (by omega)]
  refine ⟨fun k hk => ?_, fun k hk => ?_, fun i hi => ?_, lSt_c (zN4_of Z) a4 m3 (fun j h1 h2 => eS j (by omega) (by omega)), lPl_c a5 m4 (fun j h1 h2 => eS j (by omega) (by omega)), lLs_c a6 m5 (fun j h1 h2 => eS j (by omega) (by omega)), xKn_c a7 (fun j hj => eS j (by omega) (by omega)), xRn_c a8 (fun j hj => eS j (by omega) (by omega)), xSp_c a9 (by omega) (fun j h1 h2 => eS j (by omega) (by omega))⟩
  · by_cases k0 : k = 0
    · rw [k0, hM1, jup_eq, eR0]
    · rw [hM1, jup_nk _ _ k0, jup_row _ _ (by omega), a1 k hk, eS k k0 (by omega)]
  · by_cases kr : k = r
    · subst kr
      rw [hM1, jup_row _ _ (by omega), jup_eq]
      have zz : ∀ i y, y < 2 ^ 31 → M3 (m + 1) (29 + 5 * k + i) = nI y → zV (M3 (m + 1)) k i = y := fun i y hy e => by unfold zV; rw [e, nI_clamp hy]
      unfold lPk
      rw [zz 0 v0 (by omega) r0, zz 1 v1 (by omega) r1, zz 2 v2 (by omega) r2, zz 3 v3 (by omega) r3, zz 4 w (by omega) r4, hN]
    · rw [hM1, jup_row _ _ (by omega), jup_nk _ _ kr, a2 k (by omega), lPk_c (fun i hi => eS _ (by omega) (by omega))]
  · rw [hM1, jup_row _ _ (by omega), jup_row _ _ (by omega), a3 i hi, eS _ (by omega) (by omega)]
end LO
