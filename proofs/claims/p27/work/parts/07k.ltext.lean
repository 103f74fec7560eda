/-! texts that the law types -/
def lCy (y k : Nat) : Nat := y / 4 / 12 ^ k % 12
def dS (g : Nat → Nat) : Nat → Nat
  | 0 => 0
  | k + 1 => dS g k + 12 ^ k * g k
def lCh (y i : Nat) : Nat := if i % 4 = 0 then 97 + lCy y (i / 4) / 3 else if i % 4 = 1 then (if lCy y (i / 4) % 3 = 0 then 61 else if lCy y (i / 4) % 3 = 1 then 60 else 62) else if i % 4 = 2 then 63 else 38
def lTc (y told : Nat) : Nat := told + 10 * dS (lCy y) told
theorem lCy_lt (y k : Nat) : lCy y k < 12 := Nat.mod_lt _ (by decide)
theorem lCh_rg (y i : Nat) : 32 ≤ lCh y i ∧ lCh y i ≤ 126 := by
  have := lCy_lt y (i / 4)
  unfold lCh
  split
  · omega
  · split
    · split
      · omega
      · split <;> omega
    · split <;> omega
theorem dS_lt {g : Nat → Nat} : ∀ n, (∀ k, k < n → g k < 12) → dS g n < 12 ^ n
  | 0, _ => Nat.lt_succ_self 0
  | n + 1, h => by
    have h1 := dS_lt n (fun k hk => h k (by omega))
    have h2 : 12 ^ n * g n ≤ 12 ^ n * 11 := Nat.mul_le_mul_left _ (by have := h n (by omega); omega)
    have e : dS g (n + 1) = dS g n + 12 ^ n * g n := rfl
    have e2 : 12 ^ (n + 1) = 12 ^ n * 11 + 12 ^ n := by rw [Nat.pow_succ]; omega
    omega
theorem dS_inj {g g' : Nat → Nat} : ∀ n, (∀ k, k < n → g k < 12) → (∀ k, k < n → g' k < 12) → dS g n = dS g' n → ∀ k, k < n → g k = g' k
  | 0, _, _, _, k, hk => absurd hk (Nat.not_lt_zero k)
  | n + 1, h, h', e, k, hk => by
    have a1 := dS_lt n (fun k hk => h k (by omega))
    have a2 := dS_lt n (fun k hk => h' k (by omega))
    have hp : 0 < 12 ^ n := Nat.pow_pos (by decide)
    have e' : dS g n + 12 ^ n * g n = dS g' n + 12 ^ n * g' n := e
    have d1 : (dS g n + 12 ^ n * g n) / 12 ^ n = g n := by rw [Nat.add_mul_div_left _ _ hp, Nat.div_eq_of_lt a1, Nat.zero_add]
    have d2 : (dS g' n + 12 ^ n * g' n) / 12 ^ n = g' n := by rw [Nat.add_mul_div_left _ _ hp, Nat.div_eq_of_lt a2, Nat.zero_add]
    have en : g n = g' n := by rw [← d1, ← d2, e']
    by_cases kn : k = n
    · rw [kn]; exact en
    · rw [en] at e'
      exact dS_inj n (fun k hk => h k (by omega)) (fun k hk => h' k (by omega)) (by omega) k (by omega)
theorem dS_congr {g g' : Nat → Nat} : ∀ n, (∀ k, k < n → g k = g' k) → dS g n = dS g' n
  | 0, _ => rfl
  | n + 1, h => by
    show dS g n + 12 ^ n * g n = dS g' n + 12 ^ n * g' n
    rw [dS_congr n (fun k hk => h k (by omega)), h n (by omega)]
theorem lCs_dS (S : Nat → Int32) (t : Nat) : ∀ n, lCs S t n = dS (lCd S t) n
  | 0 => rfl
  | n + 1 => by
    show lCs S t n + 12 ^ n * lCd S t n = dS (lCd S t) n + 12 ^ n * lCd S t n
    rw [lCs_dS S t n]
theorem dS_20 (y : Nat) {n : Nat} (hn : n ≤ 4) : dS (lCy y) n < 20736 := by
  have h1 := dS_lt (g := lCy y) n (fun k _ => lCy_lt y k)
  have h3 : 12 ^ n ≤ 12 ^ 4 := Nat.pow_le_pow_right (by decide) hn
  have : (12 : Nat) ^ 4 = 20736 := rfl
  omega
theorem lCh_0 (y k : Nat) : lCh y (4 * k) = 97 + lCy y k / 3 := by
  unfold lCh
  rw [if_pos (by omega), show 4 * k / 4 = k by omega]
theorem lCh_1 (y k : Nat) : lCh y (4 * k + 1) = if lCy y k % 3 = 0 then 61 else if lCy y k % 3 = 1 then 60 else 62 := by
  unfold lCh
  rw [if_neg (by omega), if_pos (by omega), show (4 * k + 1) / 4 = k by omega]
theorem lCh_2 (y k : Nat) : lCh y (4 * k + 2) = 63 := by
  unfold lCh
  rw [if_neg (by omega), if_neg (by omega), if_pos (by omega)]
theorem lCh_3 (y k : Nat) : lCh y (4 * k + 3) = 38 := by
  unfold lCh
  rw [if_neg (by omega), if_neg (by omega), if_neg (by omega)]
section TX
variable {S T : Nat → Int32} {r c y told t : Nat}
theorem txl_rem {k : Nat} (hk : k < 100) : nI k - nI k / nI 4 * nI 4 = nI (k % 4) := pk_rem (by omega) (by decide) (by decide)
theorem tx_ok (hT : ∀ i, i < 4 * told - 1 → T i = nI (lCh y i)) (h4 : told ≤ 4) {k : Nat} (hk : k < 4 * told - 1) : ¬ zOk T k = 0 := by
  have hT := hT k hk
  unfold zOk
  rw [txl_rem (by omega), hT]
  rcases (show k % 4 = 0 ∨ k % 4 = 1 ∨ k % 4 = 2 ∨ k % 4 = 3 by omega) with e | e | e | e
  · obtain ⟨q, rfl⟩ : ∃ q, k = 4 * q := ⟨k / 4, by omega⟩
    have hc := lCy_lt y q
    rw [e, if_pos nI_0, lCh_0, lIn_y (by omega) (show 97 + lCy y q / 3 ≤ 100 by omega) (by decide)]
    decide
  · obtain ⟨q, rfl⟩ : ∃ q, k = 4 * q + 1 := ⟨k / 4, by omega⟩
    rw [e, if_neg (by decide), if_pos rfl, lCh_1]
    split
    · decide
    · split <;> decide
  · obtain ⟨q, rfl⟩ : ∃ q, k = 4 * q + 2 := ⟨k / 4, by omega⟩
    rw [e, if_neg (by decide), if_neg (by decide), if_pos rfl, lCh_2, if_pos rfl]
    decide
  · obtain ⟨q, rfl⟩ : ∃ q, k = 4 * q + 3 := ⟨k / 4, by omega⟩
    rw [e, if_neg (by decide), if_neg (by decide), if_neg (by decide), lCh_3, if_pos rfl]
    decide
theorem tx_right (hT : ∀ i, i < 4 * told - 1 → T i = nI (lCh y i)) (h1 : 1 ≤ told) (h4 : told ≤ 4) : zRight T (4 * told - 1) = nI 1 := by
  unfold zRight
  rw [rFirst_no (fun j hj => zWr_f (tx_ok hT h4 hj) (fun q => by have := nI_inj q (by omega) (by decide); omega)), if_pos rfl, txl_rem (by omega), if_pos (by congr 1; omega)]
theorem tx_c (hT : ∀ i, i < 4 * told - 1 → T i = nI (lCh y i)) {k : Nat} (hk : k < told) : zMt1 T k = nI (lCy y k / 3) := by
  unfold zMt1
  rw [hT _ (by omega)]
  rw [lCh_0, pk_sub (by omega)]
  congr 1
  omega
theorem tx_o (hT : ∀ i, i < 4 * told - 1 → T i = nI (lCh y i)) {k : Nat} (hk : k < told) : zMt0 T k = nI (lCy y k % 3) := by
  unfold zMt0
  rw [hT _ (by omega), lCh_1]
  rcases (show lCy y k % 3 = 0 ∨ lCy y k % 3 = 1 ∨ lCy y k % 3 = 2 by omega) with e | e | e
  · rw [if_pos e, if_pos rfl, e]
  · rw [if_neg (show ¬ lCy y k % 3 = 0 by omega), if_pos e, if_neg (by decide), if_pos rfl, e]
  · rw [if_neg (show ¬ lCy y k % 3 = 0 by omega), if_neg (show ¬ lCy y k % 3 = 1 by omega), if_neg (by decide), if_neg (by decide), e]
theorem tx_all (Z : zRd S r c) (ht : t < c) (hT : ∀ i, i < 4 * told - 1 → T i = nI (lCh y i)) (hn : zN S t = told) : ∀ k, k ≤ told → (zTx S T (nI told) t k = nI 1 ∧ ∀ j, j < k → lCd S t j = lCy y j) ∨ (zTx S T (nI told) t k = 0 ∧ ∃ j, j < k ∧ ¬ lCd S t j = lCy y j)
  | 0, _ => Or.inl ⟨by
      simp only [zTx]
      rw [(lN4 Z ht).2.2, hn, if_pos rfl], fun j hj => absurd hj (Nat.not_lt_zero j)⟩
  | k + 1, hk => by
    have h4 := (lN4 Z ht).2.1
    have hst := (Z.2.2.2.2.2.1 t ht).1.2.2.2.2 k (by omega)
    have hop := (Z.2.2.2.2.2.1 t ht).2 k (by omega)
    have hcy := lCy_lt y k
    rcases tx_all Z ht hT hn k (by omega) with ⟨e1, e2⟩ | ⟨e1, j, e2, e3⟩
    · simp only [zTx]
      rw [e1, if_neg (by decide), hst.1, hop.1, tx_c hT (show k < told by omega), tx_o hT (show k < told by omega)]
      by_cases c1 : zCol S t k = lCy y k / 3
      · by_cases c2 : zOp S t k = lCy y k % 3
        · refine Or.inl ⟨by rw [if_pos (by rw [c1]), if_pos (by rw [c2])], fun j hj => ?_⟩
          by_cases jk : j = k
          · rw [jk]; unfold lCd; omega
          · exact e2 j (by omega)
        · exact Or.inr ⟨by rw [if_pos (by rw [c1]), if_neg (fun q => c2 (nI_inj q (by omega) (by omega)))]; exact nI_0, k, by omega, fun q => c2 (by unfold lCd at q; omega)⟩
      · exact Or.inr ⟨by rw [if_neg (fun q => c1 (nI_inj q (by omega) (by omega)))]; exact nI_0, k, by omega, fun q => c1 (by unfold lCd at q; omega)⟩
    · refine Or.inr ⟨?_, j, by omega, e3⟩
      simp only [zTx]
      rw [if_pos e1]
theorem tx_fnd (Z : zRd S r c) (ht : t < c) (hT : ∀ i, i < 4 * told - 1 → T i = nI (lCh y i)) (h1 : 1 ≤ told) (h4 : told ≤ 4) : zFnd S T (nI told) t = decide (lCode S t = lTc y told) := by
  have hn := lN4 Z ht
  have hcm := lCode_m Z ht
  unfold zFnd
  by_cases hh : zN S t = told
  · rw [hh]
    have e0 : lCode S t = told + 10 * dS (lCd S t) told := by unfold lCode; rw [hh, lCs_dS]
    rcases tx_all Z ht hT hh told (Nat.le_refl _) with ⟨e1, e2⟩ | ⟨e1, j, e2, e3⟩
    · rw [e1, decide_eq_false (by decide), decide_eq_true (by rw [e0, lTc, dS_congr told e2])]
      rfl
    · rw [e1, decide_eq_true rfl, decide_eq_false (fun q => ?_)]
      · rfl
      · rw [e0, lTc] at q
        exact e3 (dS_inj (g := lCd S t) (g' := lCy y) told (fun k hk => lCd_lt Z ht (by omega)) (fun k _ => lCy_lt y k) (by omega) j e2)
  · have z0 : zTx S T (nI told) t 0 = 0 := by
      simp only [zTx]
      rw [hn.2.2, if_neg (fun q => hh (nI_inj q (by omega) (by omega)))]
      exact nI_0
    have := zTx_z (j := zN S t) z0
    rw [Nat.zero_add] at this
    rw [this, decide_eq_true rfl, decide_eq_false (fun q => ?_)]
    · rfl
    · have h2 := dS_20 y h4
      have : lCode S t % 10 = told := by rw [q, lTc]; omega
      omega
end TX
section TO
variable {M M1 M2 M3 Mb : jM} {R : jR} {a h T v m d b bb nh r n c len y told ch : Nat} {f : Nat → Nat}
def lTS (R : jR) (a h T v m d r n c y : Nat) (Mb : jM) (bb len : Nat) (M : jM) : Prop := ∃ b nh f, bb ≤ b ∧ b ≤ bb + len ∧ LJ M R a h T v m b nh r n c len f ∧ M (m + 1) = Mb (m + 1) ∧ (∀ z, d ≤ z → z < d + 6 → M z = Mb z) ∧ ∀ i, i < len → M (m + 3) i = nI (lCh y i)
theorem lTS_type (t : lTS R a h T v m d r n c y Mb bb len M) (hvd : v < d) (hdm : d + 6 ≤ m) (hl : len < 30) (hc : lCh y len = ch) : ∃ nh, CB M R a h T nh n c r len ∧ fType len (nI ch) = nI (len + 1) ∧ ∃ M3, (∀ z, z < m → M3 z = mType M T len (nI ch) z) ∧ lTS R a h T v m d r n c y Mb bb (len + 1) M3 := by
  obtain ⟨b, nh, f, hb0, hb, J, e1, e2, e3⟩ := t
  obtain ⟨md, eq, nh', I3⟩ := st_type J.1 J.2.2 (nI ch)
  have hvm := J.1.2.2.2.2.2.2.2.2.2
  obtain ⟨n0, n1, n2, n3, n4, n5, n6, n7⟩ := J.num
  have hrg := lCh_rg y len
  rw [hc] at hrg
  have c1 : ¬ rIn (nI ch) (nI 32) (nI 126) = 0 := by rw [lIn_y hrg.1 hrg.2 (by decide)]; decide
  have c2 : ¬ nI len = nI 30 := fun q => by have := nI_inj q (by omega) (by decide); omega
  generalize hM2 : mType M T len (nI ch) = M2 at md eq I3 ⊢
  have ez : zmType M2 m len (nI ch) = jup (jup M2 (m + 3) len (nI ch)) m 4 (nI (len + 1)) := by rw [zmType, if_neg c1, if_neg c2]
  rw [ez] at I3
  generalize hM3 : jup (jup M2 (m + 3) len (nI ch)) m 4 (nI (len + 1)) = M3 at I3
  have lo : ∀ z, z < m → M3 z = M2 z := fun z hz => by rw [← hM3, jup_row _ _ (by omega), jup_row _ _ (by omega)]
  have em : M3 (m + 1) = M (m + 1) := by rw [← hM3, jup_row _ _ (by omega), jup_row _ _ (by omega), md _ (by omega)]
  obtain ⟨f', J3⟩ := LJ_to (len := len + 1) I3 (by rw [em]; exact n0) n1 (by rw [em]; exact n2) n3 (by rw [em]; exact n4) n5 (by rw [← hM3, jup_eq]) (by omega)
  refine ⟨nh, J.CB, by rw [eq, zfType, if_neg c1, if_neg c2], M3, lo, b + 1, nh', f', by omega, by omega, J3, em.trans e1, fun z z1 z2 => by rw [lo z (by omega), md z (by omega)]; exact e2 z z1 z2, fun i hi => ?_⟩
  rw [← hM3, jup_row _ _ (by omega)]
  by_cases il : i = len
  · rw [il, jup_eq, hc]
  · rw [jup_nk _ _ il, md _ (by omega)]
    exact e3 i (by omega)
theorem op_clear (J : LJ M R a h T v m b nh r n c len f) (hvd : v < d) (hdm : d + 6 ≤ m) : M T 1 = nI len ∧ ∃ M3, (∀ z, z < m → M3 z = jup M T 1 (nI 0) z) ∧ M3 (m + 1) = M (m + 1) ∧ (∀ z, d ≤ z → z < d + 6 → M3 z = M z) ∧ ∃ nh' f', LJ M3 R a h T v m (b + 1) nh' r n c 0 f' := by
  obtain ⟨md, eq, nh', I3⟩ := st_clear J.1 J.2.2
  have hvm := J.1.2.2.2.2.2.2.2.2.2
  obtain ⟨n0, n1, n2, n3, n4, n5, n6, n7⟩ := J.num
  generalize hM2 : jup M T 1 (nI 0) = M2 at md eq I3 ⊢
  generalize hM3 : jup M2 m 4 (nI 0) = M3 at I3
  have lo : ∀ z, z < m → M3 z = M2 z := fun z hz => by rw [← hM3, jup_row _ _ (by omega)]
  have em : M3 (m + 1) = M (m + 1) := by rw [← hM3, jup_row _ _ (by omega), md _ (by omega)]
  obtain ⟨f', J3⟩ := LJ_to (len := 0) I3 (by rw [em]; exact n0) n1 (by rw [em]; exact n2) n3 (by rw [em]; exact n4) n5 (by rw [← hM3, jup_eq]) (by decide)
  exact ⟨J.2.2.2.1, M3, lo, em, fun z z1 z2 => by rw [lo z (by omega), md z (by omega)], nh', f', J3⟩
theorem op_fault (J : LJ M R a h T v m b nh r n c len f) (h : zRight (M (m + 3)) len = nI 1) : fFault M T len (nI 0) = -4 := by
  obtain ⟨eq, -⟩ := st_fault J.1 J.2.2 (nI 0)
  rw [eq, zfFault, if_neg (by decide), h, if_neg (by decide)]
/-- what stands behind a call of statement -/
def lSo (Mx : jM) (Rx : jR) (a h T v m d b r n c len : Nat) : Prop := ∃ M3, (∀ z, z < m → M3 z = Mx z) ∧ ∃ nh' f', LJ M3 Rx a h T v m b nh' r n c len f' ∧ lA M3 d (M3 (m + 1)) r n c b
theorem op_statS (J : LJ M R a h T v m b nh r n c len f) (A : lA M d (M (m + 1)) r n c b) (hvd : v < d) (hdm : d + 6 ≤ m) (hT : ∀ i, i < 4 * told - 1 → M (m + 3) i = nI (lCh y i)) (h1 : 1 ≤ told) (h4 : told ≤ 4) (hl : len = 4 * told - 1) {k : Nat} (hk : k ≤ c) (h6 : k < c ∨ c = 6) (hF : ∀ j, j < k → ¬ lCode (M (m + 1)) j = lTc y told) (hE : k < c → lCode (M (m + 1)) k = lTc y told) :
    fStat M a T len c = (if k < c then nI k else -3) ∧ lSo (mStat M R a h T nh len c) (pStat M R a h T nh len c) a h T v m d (b + 1) r n c len := by
  obtain ⟨md, eq, nh', I3⟩ := st_stat J.1 J.2.1 J.2.2
  have hvm := J.1.2.2.2.2.2.2.2.2.2
  obtain ⟨n0, n1, n2, n3, n4, n5, n6, n7⟩ := J.num
  have Z := zRd_of J.2.1 A.2.2.2.2.2.2.1
  generalize hM2 : mStat M R a h T nh len c = M2 at md eq I3 ⊢
  have em2 : M2 (m + 1) = M (m + 1) := md _ (by omega)
  have em3 : M2 (m + 3) = M (m + 3) := md _ (by omega)
  have hz : ¬ zRight (M2 (m + 3)) len = 0 := by rw [em3, hl, tx_right hT h1 h4]; decide
  have eq4 : nI (len + 1) / nI 4 = nI told := by rw [pk_div (by omega) (by decide) (by decide)]; congr 1; omega
  have efn : ∀ t, t < c → zFnd (M2 (m + 1)) (M2 (m + 3)) (nI (len + 1) / nI 4) t = decide (lCode (M (m + 1)) t = lTc y told) := fun t ht => by rw [em2, em3, eq4, tx_fnd Z ht hT h1 h4]
  have e0 : zmStat M2 m len c nh = (if k < c then mChg (zmRight M2 m len) m nh else zmRight M2 m len) ∧ zfStat M2 m len c = (if k < c then nI k else -3) := by
    unfold zmStat zfStat
    rw [if_neg hz, if_neg hz]
    by_cases kc : k < c
    · have ef : rFirst (zFnd (M2 (m + 1)) (M2 (m + 3)) (nI (len + 1) / nI 4)) c = nI k := rFirst_yes kc (by rw [efn k kc, decide_eq_true (hE kc)]) (fun j hj => by rw [efn j (by omega), decide_eq_false (hF j hj)])
      rw [if_neg (rFirst_ne ef (by omega)), if_neg (rFirst_ne ef (by omega)), if_pos kc, if_pos kc, ef]
      exact ⟨rfl, rfl⟩
    · have kc' : k = c := by omega
      have c6 : c = 6 := by omega
      have ef : rFirst (zFnd (M2 (m + 1)) (M2 (m + 3)) (nI (len + 1) / nI 4)) c = -1 := rFirst_no (fun j hj => by rw [efn j hj, decide_eq_false (hF j (by omega))])
      have c6' : nI c = nI 6 := by rw [c6]
      rw [if_pos ef, if_pos ef, if_pos c6', if_pos c6', if_neg kc, if_neg kc]
      exact ⟨rfl, rfl⟩
  rw [e0.1] at I3
  rw [e0.2] at eq
  generalize hM3 : (if k < c then mChg (zmRight M2 m len) m nh else zmRight M2 m len) = M3 at I3
  have rw3 : ∀ z, z ≠ m → z ≠ m + 2 → M3 z = M2 z := fun z z1 z2 => by
    rw [← hM3]
    split
    · rw [mChg_o _ z2 z1, zmRight_o _ z1]
    · rw [zmRight_o _ z1]
  have em : M3 (m + 1) = M (m + 1) := by rw [rw3 _ (by omega) (by omega), em2]
  have el : M3 m 4 = nI len := by
    rw [← hM3]
    split
    · rw [mChg_k _ (by decide), zmRight_k _ (by decide), md m (by omega)]; exact n6
    · rw [zmRight_k _ (by decide), md m (by omega)]; exact n6
  obtain ⟨f', J3⟩ := LJ_to (len := len) I3 (by rw [em]; exact n0) n1 (by rw [em]; exact n2) n3 (by rw [em]; exact n4) n5 el n7
  refine ⟨eq, M3, fun z hz => rw3 z (by omega) (by omega), nh', f', J3, ?_⟩
  rw [em]
  exact lA_M (lA_b A (by omega)) (fun z z1 z2 => by rw [rw3 z (by omega) (by omega), md z (by omega)])
theorem op_statN (J : LJ M R a h T v m b nh r n c len f) (A : lA M d (M (m + 1)) r n c b) (hvd : v < d) (hdm : d + 6 ≤ m) (hT : ∀ i, i < 4 * told - 1 → M (m + 3) i = nI (lCh y i)) (h1 : 1 ≤ told) (h4 : told ≤ 4) (hl : len = 4 * told - 1) (hc : c < 6) (hF : ∀ j, j < c → ¬ lCode (M (m + 1)) j = lTc y told) (hM1 : M1 = jup (jup (jup M (d + 3) (2 * c) (nI (lTc y told))) (d + 3) (2 * c + 1) (nI 0)) d 3 (nI (c + 1))) :
    LJ M1 R a h T v m (b + 1) nh r n c len f ∧ M1 (m + 3) = M (m + 3) ∧ fStat M1 a T len c = nI c ∧ lSo (mStat M1 R a h T nh len c) (pStat M1 R a h T nh len c) a h T v m d (b + 2) r n (c + 1) len := by
  have o1 : ∀ x, (x < d ∨ d + 6 ≤ x) → M1 x = M x := fun x hx => by rw [hM1, jup_row _ _ (by omega), jup_row _ _ (by omega), jup_row _ _ (by omega)]
  have J1 := LJ_law J hvd hdm o1
  have hvm := J.1.2.2.2.2.2.2.2.2.2
  obtain ⟨n0, n1, n2, n3, n4, n5, n6, n7⟩ := J.num
  have Z := zRd_of J.2.1 A.2.2.2.2.2.2.1
  obtain ⟨md, eq, nh', I3⟩ := st_stat J1.1 J1.2.1 J1.2.2
  generalize hM2 : mStat M1 R a h T nh len c = M2 at md eq I3 ⊢
  have em2 : M2 (m + 1) = M (m + 1) := by rw [md _ (by omega), o1 _ (by omega)]
  have em3 : M2 (m + 3) = M (m + 3) := by rw [md _ (by omega), o1 _ (by omega)]
  have hz : ¬ zRight (M2 (m + 3)) len = 0 := by rw [em3, hl, tx_right hT h1 h4]; decide
  have eq4 : nI (len + 1) / nI 4 = nI told := by rw [pk_div (by omega) (by decide) (by decide)]; congr 1; omega
  have ef : rFirst (zFnd (M2 (m + 1)) (M2 (m + 3)) (nI (len + 1) / nI 4)) c = -1 := rFirst_no (fun j hj => by rw [em2, em3, eq4, tx_fnd Z hj hT h1 h4, decide_eq_false (hF j hj)])
  have c6 : ¬ nI c = nI 6 := fun q => by have := nI_inj q (by omega) (by decide); omega
  rw [zmStat, if_neg hz, if_pos ef, if_neg c6, eq4] at I3
  rw [zfStat, if_neg hz, if_pos ef, if_neg c6] at eq
  have eb3 : mChg (zmRight M2 m len) m nh (m + 3) = M (m + 3) := by rw [mChg_o _ (by omega) (by omega), zmRight_o _ (by omega), em3]
  have eb1 : mChg (zmRight M2 m len) m nh (m + 1) = M (m + 1) := by rw [mChg_o _ (by omega) (by omega), zmRight_o _ (by omega), em2]
  have at_ := zNw_at (mChg (zmRight M2 m len) m nh) (m := m) (a := 307 + 10 * c) (q := nI told) 4 (Nat.le_refl 4)
  generalize hM3 : zmNew (mChg (zmRight M2 m len) m nh) m c (nI told) = M3 at I3
  have ox : ∀ z, z ≠ m + 1 → M3 z = mChg (zmRight M2 m len) m nh z := fun z hz => by rw [← hM3, zmNew, jup_row _ _ hz, jup_row _ _ hz, zNw_o _ _ hz]
  have lo : ∀ z, z < m → M3 z = M2 z := fun z hz => by rw [ox z (by omega), mChg_o _ (by omega) (by omega), zmRight_o _ (by omega)]
  have eS : ∀ j, j ≠ 3 → (j < 307 + 10 * c ∨ 307 + 10 * c + 10 ≤ j) → M3 (m + 1) j = M (m + 1) j := fun j j3 hj => by
    rw [← hM3, zmNew, jup_nk _ _ j3, jup_nk _ _ (by omega)]
    rcases hj with hj | hj
    · rw [zNw_a _ _ hj, eb1]
    · rw [zNw_hi _ (by omega) 4 (Nat.le_refl 4), eb1]
  have e3 : M3 (m + 1) 3 = nI (c + 1) := by rw [← hM3, zmNew, jup_eq]
  have e9 : M3 (m + 1) (307 + 10 * c + 9) = nI 0 := by rw [← hM3, zmNew, jup_nk _ _ (by omega), jup_eq]
  have eq0 : M3 (m + 1) (307 + 10 * c) = nI told := by rw [← hM3, zmNew, jup_nk _ _ (by omega), jup_nk _ _ (by omega), zNw_q]
  have ek : ∀ k, k < told → M3 (m + 1) (307 + 10 * c + 1 + k) = nI (lCy y k / 3) ∧ M3 (m + 1) (307 + 10 * c + 5 + k) = nI (lCy y k % 3) := fun k hk => by
    obtain ⟨p1, p2⟩ := at_ k (by omega)
    rw [if_neg (nI_ge hk (by omega)), eb3] at p1 p2
    rw [← hM3, zmNew, jup_nk _ _ (by omega), jup_nk _ _ (by omega), jup_nk _ _ (by omega), jup_nk _ _ (by omega), p1, p2]
    exact ⟨tx_c hT hk, tx_o hT hk⟩
  have el : M3 m 4 = nI len := by rw [ox m (by omega), mChg_k _ (by decide), zmRight_k _ (by decide), md m (by omega), o1 _ (by omega)]; exact n6
  obtain ⟨f', J3⟩ := LJ_to (len := len) I3 ((eS 0 (by decide) (by omega)).trans n0) n1 ((eS 4 (by decide) (by omega)).trans n2) n3 e3 (by omega) el n7
  refine ⟨J1, o1 _ (by omega), eq, M3, lo, nh', f', J3, lA_M (M := M1) ?_ (fun z z1 z2 => by rw [lo z (by omega), md z (by omega)])⟩
  obtain ⟨a1, a2, a3, a4, a5, a6, a7, a8, a9⟩ := A
  have mo : ∀ i, (0 < i ∧ i < 3) ∨ i = 4 ∨ i = 5 → M1 (d + i) = M (d + i) := fun i hi => by rw [hM1, jup_row _ _ (by omega), jup_row _ _ (by omega), jup_row _ _ (by omega)]
  have m3 : ∀ i, i ≠ 2 * c → i ≠ 2 * c + 1 → M1 (d + 3) i = M (d + 3) i := fun i i1 i2 => by rw [hM1, jup_row _ _ (by omega), jup_nk _ _ i2, jup_nk _ _ i1]
  have eN : zN (M3 (m + 1)) c = told := by unfold zN; rw [eq0, nI_clamp (by omega)]
  have eC : lCode (M3 (m + 1)) c = lTc y told := by
    unfold lCode lTc
    rw [eN, lCs_dS, dS_congr told (fun k hk => ?_)]
    obtain ⟨p1, p2⟩ := ek k hk
    have hlt := lCy_lt y k
    unfold lCd zCol zOp
    rw [p1, p2, nI_clamp (by omega), nI_clamp (by omega)]
    omega
  refine ⟨fun i hi => ?_, fun i hi => by rw [mo 1 (by decide), a2 i hi, lPk_c (fun j hj => eS _ (by omega) (by omega))], fun i hi => by rw [mo 2 (by decide), a3 i hi, eS _ (by omega) (by omega)], fun t ht => ?_, lPl_c a5 (mo 4 (by decide)) (fun j h1 h2 => eS j (by omega) (by omega)), lLs_c a6 (mo 5 (by decide)) (fun j h1 h2 => eS j (by omega) (by omega)), xKn_c a7 (fun j hj => eS j (by omega) (by omega)), ⟨?_, ?_⟩, xSp_c a9 (by omega) (fun j h1 h2 => eS j (by omega) (by omega))⟩
  · by_cases k3 : i = 3
    · rw [k3, hM1, jup_eq, e3]
    · rw [hM1, jup_nk _ _ k3, jup_row _ _ (by omega), jup_row _ _ (by omega), a1 i hi, eS i k3 (by omega)]
  · by_cases tc : t = c
    · subst tc
      refine ⟨?_, ?_⟩
      · rw [eC, hM1, jup_row _ _ (by omega), jup_nk _ _ (by omega), jup_eq]
      · rw [e9, hM1, jup_row _ _ (by omega), jup_eq]
    · rw [m3 _ (by omega) (by omega), m3 _ (by omega) (by omega), lCode_c (zN4_of Z t (by omega)) (fun j p q => eS j (by omega) (by omega)), eS _ (by omega) (by omega)]
      exact a4 t (by omega)
  · show sI (fun t => M3 (m + 1) (307 + 10 * t + 9)) c + M3 (m + 1) (307 + 10 * c + 9) = _
    rw [e9, eS 6 (by decide) (by omega), ← a8.1, nI_0, Int32.add_zero]
    exact sI_congr (fun i hi => eS _ (by omega) (by omega))
  · rw [eS 1 (by decide) (by omega)]
    exact a8.2
end TO
