/-- what is summed up in the statistics behind k cells of the rows -/
def lAcN (S : Nat → Int32) : Nat → Nat → Nat
  | 0, _ => 0
  | k + 1, i => lAcN S k i + (if i = 32 * (k % 4) + zV S (k / 4) (k % 4) then zV S (k / 4) 4 else 0)
def lZr (M : jM) (d k : Nat) : jM := fun b i => if b = d + 2 ∧ i < 2 * k then 0 else M b i
def lAcM (M : jM) (d : Nat) (S : Nat → Int32) (k : Nat) : jM := fun b i => if b = d + 2 ∧ i < 128 then nI (lAcN S k i) else M b i
theorem lZr_0 (M : jM) (d : Nat) : lZr M d 0 = M := by
  funext b i
  simp only [lZr]
  rw [if_neg (by omega)]
theorem jLo_0 : jLo (lN 0) = 0 := by
  have := jLo_N (a := 0) (b := 0) (by decide) (by decide)
  exact this.trans nI_0
theorem jHi_0 : jHi (lN 0) = 0 := by
  have := jHi_N (a := 0) (b := 0) (by decide) (by decide)
  exact this.trans nI_0
theorem lZr_s (M : jM) (d k : Nat) : jupL (lZr M d k) (d + 2) k (lN 0) = lZr M d (k + 1) := by
  funext b i
  simp only [jupL, jLo_0, jHi_0, jup, lZr]
  by_cases h : b = d + 2
  · by_cases h1 : i = 2 * k + 1
    · rw [if_pos ⟨h, h1⟩, if_pos ⟨h, by omega⟩]
    · rw [if_neg (fun q => h1 q.2)]
      by_cases h2 : i = 2 * k
      · rw [if_pos ⟨h, h2⟩, if_pos ⟨h, by omega⟩]
      · rw [if_neg (fun q => h2 q.2)]
        by_cases h3 : i < 2 * k
        · rw [if_pos ⟨h, h3⟩, if_pos ⟨h, by omega⟩]
        · rw [if_neg (fun q => h3 q.2), if_neg (by omega)]
  · rw [if_neg (fun q => h q.1), if_neg (fun q => h q.1), if_neg (fun q => h q.1), if_neg (fun q => h q.1)]
theorem lAcM_0 (M : jM) (d : Nat) (S : Nat → Int32) : lZr M d 64 = lAcM M d S 0 := by
  funext b i
  simp only [lZr, lAcM, lAcN, nI_0]
theorem lAcM_o (M : jM) {d : Nat} (S : Nat → Int32) {k b : Nat} (h : b ≠ d + 2) : lAcM M d S k b = M b := by
  funext i
  simp only [lAcM]
  rw [if_neg (fun q => h q.1)]
theorem lAcM_i (M : jM) {d : Nat} (S : Nat → Int32) {k i : Nat} (h : i < 128) : lAcM M d S k (d + 2) i = nI (lAcN S k i) := by
  simp only [lAcM]
  rw [if_pos ⟨trivial, h⟩]
section AC
variable {S : Nat → Int32} {r c k : Nat}
theorem lAcN_lt (Z : zRd S r c) (i : Nat) : ∀ k, k ≤ 4 * r → lAcN S k i ≤ 999 * k
  | 0, _ => Nat.le_refl 0
  | k + 1, hk => by
    have h1 := lAcN_lt Z i k (by omega)
    have h2 := (Z.2.2.2.1 (k / 4) (by omega)).1
    show lAcN S k i + (if _ then _ else _) ≤ _
    split <;> omega
theorem lAcM_s (Z : zRd S r c) (M : jM) (d : Nat) (hk : k < 4 * r) {v w : Nat} (hv : zV S (k / 4) (k % 4) = v) (hw : zV S (k / 4) 4 = w) :
    jupL (lAcM M d S k) (d + 2) (16 * (k % 4) + v / 2) (lN (lAcN S k (2 * (16 * (k % 4) + v / 2)) + 2 ^ 32 * lAcN S k (2 * (16 * (k % 4) + v / 2) + 1) + w * 2 ^ (32 * (v % 2)))) = lAcM M d S (k + 1) := by
  have hr := Z.2.1
  have hv32 : v < 32 := by rw [← hv]; exact (Z.2.2.1 (k / 4) (by omega) (k % 4) (by omega)).2
  have hw9 : w ≤ 999 := by rw [← hw]; exact (Z.2.2.2.1 (k / 4) (by omega)).1
  have b1 := lAcN_lt Z (2 * (16 * (k % 4) + v / 2)) k (by omega)
  have b2 := lAcN_lt Z (2 * (16 * (k % 4) + v / 2) + 1) k (by omega)
  have es : ∀ i, lAcN S (k + 1) i = lAcN S k i + (if i = 32 * (k % 4) + v then w else 0) := fun i => by rw [← hv, ← hw]; rfl
  have key : ∀ x y : Nat, x < 2 ^ 31 → y < 2 ^ 31 → lAcN S k (2 * (16 * (k % 4) + v / 2)) + 2 ^ 32 * lAcN S k (2 * (16 * (k % 4) + v / 2) + 1) + w * 2 ^ (32 * (v % 2)) = x + 2 ^ 32 * y → x = lAcN S (k + 1) (2 * (16 * (k % 4) + v / 2)) → y = lAcN S (k + 1) (2 * (16 * (k % 4) + v / 2) + 1) →
      jupL (lAcM M d S k) (d + 2) (16 * (k % 4) + v / 2) (lN (lAcN S k (2 * (16 * (k % 4) + v / 2)) + 2 ^ 32 * lAcN S k (2 * (16 * (k % 4) + v / 2) + 1) + w * 2 ^ (32 * (v % 2)))) = lAcM M d S (k + 1) := fun x y hx hy e ex ey => by
    rw [e]
    funext b i
    simp only [jupL, jLo_N hx hy, jHi_N hx hy, jup]
    by_cases h : b = d + 2
    · subst h
      by_cases h1 : i = 2 * (16 * (k % 4) + v / 2) + 1
      · rw [if_pos ⟨rfl, h1⟩, lAcM_i M S (by omega), ey, h1]
      · rw [if_neg (fun q => h1 q.2)]
        by_cases h2 : i = 2 * (16 * (k % 4) + v / 2)
        · rw [if_pos ⟨rfl, h2⟩, lAcM_i M S (by omega), ex, h2]
        · rw [if_neg (fun q => h2 q.2)]
          by_cases h3 : i < 128
          · rw [lAcM_i M S h3, lAcM_i M S h3, es i, if_neg (by omega), Nat.add_zero]
          · simp only [lAcM]
            rw [if_neg (fun q => h3 q.2), if_neg (fun q => h3 q.2)]
    · rw [if_neg (fun q => h q.1), if_neg (fun q => h q.1), lAcM_o M S h, lAcM_o M S h]
  rcases (show v % 2 = 0 ∨ v % 2 = 1 by omega) with e0 | e0
  · refine key (lAcN S k (2 * (16 * (k % 4) + v / 2)) + w) (lAcN S k (2 * (16 * (k % 4) + v / 2) + 1)) (by omega) (by omega) ?_ ?_ ?_
    · rw [e0]
      show _ + _ + w * 1 = _
      omega
    · rw [es, if_pos (by omega)]
    · rw [es, if_neg (by omega)]; rfl
  · refine key (lAcN S k (2 * (16 * (k % 4) + v / 2))) (lAcN S k (2 * (16 * (k % 4) + v / 2) + 1) + w) (by omega) (by omega) ?_ ?_ ?_
    · rw [e0]
      show _ + _ + w * 2 ^ 32 = _
      omega
    · rw [es, if_neg (by omega)]; rfl
    · rw [es, if_pos (by omega)]
theorem lAcN_at (Z : zRd S r c) {w u : Nat} (hw : w < 4) (hu : u < 32) : ∀ q, q ≤ r → nI (lAcN S (4 * q) (32 * w + u)) = sI (eOne S w u) q
  | 0, _ => rfl
  | q + 1, hq => by
    have ih := lAcN_at Z hw hu q (by omega)
    have hz := Z.2.2.1 q (by omega)
    have hwt := Z.2.2.2.1 q (by omega)
    have z0 := (hz 0 (by decide)).2
    have z1 := (hz 1 (by decide)).2
    have z2 := (hz 2 (by decide)).2
    have z3 := (hz 3 (by decide)).2
    have s : ∀ j, j < 4 → lAcN S (4 * q + j + 1) (32 * w + u) = lAcN S (4 * q + j) (32 * w + u) + (if 32 * w + u = 32 * j + zV S q j then zV S q 4 else 0) := fun j hj => by
      show lAcN S (4 * q + j) _ + (if _ = 32 * ((4 * q + j) % 4) + zV S ((4 * q + j) / 4) ((4 * q + j) % 4) then zV S ((4 * q + j) / 4) 4 else 0) = _
      rw [show (4 * q + j) % 4 = j by omega, show (4 * q + j) / 4 = q by omega]
    have e : lAcN S (4 * (q + 1)) (32 * w + u) = lAcN S (4 * q) (32 * w + u) + (if u = zV S q w then zV S q 4 else 0) := by
      rw [show 4 * (q + 1) = 4 * q + 3 + 1 by omega, s 3 (by decide), show 4 * q + 3 = 4 * q + 2 + 1 by omega, s 2 (by decide), show 4 * q + 2 = 4 * q + 1 + 1 by omega, s 1 (by decide), show 4 * q + 1 = 4 * q + 0 + 1 by omega, s 0 (by decide), Nat.add_zero]
      match w, hw with
      | 0, _ => rw [if_neg (show ¬ 32 * 0 + u = 32 * 3 + zV S q 3 by omega), if_neg (show ¬ 32 * 0 + u = 32 * 2 + zV S q 2 by omega), if_neg (show ¬ 32 * 0 + u = 32 * 1 + zV S q 1 by omega)]; split <;> split <;> omega
      | 1, _ => rw [if_neg (show ¬ 32 * 1 + u = 32 * 3 + zV S q 3 by omega), if_neg (show ¬ 32 * 1 + u = 32 * 2 + zV S q 2 by omega), if_neg (show ¬ 32 * 1 + u = 32 * 0 + zV S q 0 by omega)]; split <;> split <;> omega
      | 2, _ => rw [if_neg (show ¬ 32 * 2 + u = 32 * 3 + zV S q 3 by omega), if_neg (show ¬ 32 * 2 + u = 32 * 1 + zV S q 1 by omega), if_neg (show ¬ 32 * 2 + u = 32 * 0 + zV S q 0 by omega)]; split <;> split <;> omega
      | 3, _ => rw [if_neg (show ¬ 32 * 3 + u = 32 * 2 + zV S q 2 by omega), if_neg (show ¬ 32 * 3 + u = 32 * 1 + zV S q 1 by omega), if_neg (show ¬ 32 * 3 + u = 32 * 0 + zV S q 0 by omega)]; split <;> split <;> omega
    rw [e]
    show _ = sI (eOne S w u) q + eOne S w u q
    rw [← ih, eOne, (hz w hw).1, hwt.2, ← nI_add]
    congr 1
    by_cases h : u = zV S q w
    · rw [if_pos h, if_pos (by rw [h])]
    · rw [if_neg h, if_neg (fun z => h (nI_inj z (by have := (hz w hw).2; omega) (by omega)).symm)]
theorem lAcN_sum (Z : zRd S r c) : ∀ q, q ≤ r → sI (fun i => nI (lAcN S (4 * q) i)) 128 = nI 4 * sI (zRowW S) q
  | 0, _ => by
    have : (fun i => nI (lAcN S (4 * 0) i)) = fun _ => (0 : Int32) := by
      funext i
      exact nI_0
    rw [this, sI_zero]
    rfl
  | q + 1, hq => by
    have ih := lAcN_sum Z q (by omega)
    have hz := Z.2.2.1 q (by omega)
    have hwt := Z.2.2.2.1 q (by omega)
    have s : ∀ j, j < 4 → sI (fun i => nI (lAcN S (4 * q + j + 1) i)) 128 = sI (fun i => nI (lAcN S (4 * q + j) i)) 128 + zRowW S q := fun j hj => by
      have hlt : 32 * j + zV S q j < 128 := by have := (hz j hj).2; omega
      have e : (fun i => nI (lAcN S (4 * q + j + 1) i)) = fun i => nI (lAcN S (4 * q + j) i) + (if i = 32 * j + zV S q j then zRowW S q else 0) := by
        funext i
        show nI (lAcN S (4 * q + j) i + (if i = 32 * ((4 * q + j) % 4) + zV S ((4 * q + j) / 4) ((4 * q + j) % 4) then zV S ((4 * q + j) / 4) 4 else 0)) = _
        rw [show (4 * q + j) % 4 = j by omega, show (4 * q + j) / 4 = q by omega, ← nI_add]
        congr 1
        by_cases h : i = 32 * j + zV S q j
        · rw [if_pos h, if_pos h]
          exact hwt.2.symm
        · rw [if_neg h, if_neg h]
          exact nI_0
      rw [e, sI_add, sI_one, if_pos hlt]
    rw [show 4 * (q + 1) = 4 * q + 3 + 1 by omega, s 3 (by decide), show 4 * q + 3 = 4 * q + 2 + 1 by omega, s 2 (by decide), show 4 * q + 2 = 4 * q + 1 + 1 by omega, s 1 (by decide), show 4 * q + 1 = 4 * q + 0 + 1 by omega, s 0 (by decide)]
    show sI (fun i => nI (lAcN S (4 * q) i)) 128 + zRowW S q + zRowW S q + zRowW S q + zRowW S q = nI 4 * (sI (zRowW S) q + zRowW S q)
    rw [ih, Int32.mul_add]
    generalize zRowW S q = y
    have : nI 4 * y = y + y + y + y := by
      rw [show nI 4 = 1 + 1 + 1 + 1 by decide, Int32.add_mul, Int32.add_mul, Int32.add_mul, Int32.one_mul]
    rw [this, Int32.add_assoc, Int32.add_assoc, Int32.add_assoc, Int32.add_assoc, Int32.add_assoc]
end AC
section LP3
variable {ω : jW} {γ : jG} {M M1 M2 M3 : jM} {R R1 : jR} {x a h T v m d b b' nh r n c len r' n' c' : Nat} {f : Nat → Nat} {S S2 : Nat → Int32}
theorem op_ana (J : LJ M R a h T v m b nh r n c 0 f) (A : lA M d (M (m + 1)) r n c b) (hvd : v < d) (hdm : d + 6 ≤ m) (hM1 : M1 = jup (lAcM M d (M (m + 1)) (4 * r)) d 2 (sI (zRowW (M (m + 1))) r)) :
    LJ M1 R a h T v m (b + 1) nh r n c 0 f ∧ mAna M1 R a h nh (a + 5) 1 = sI (zRowW (M (m + 1))) r ∧ ∃ M3, (∀ y, y < m → M3 y = mAna M1 R a h nh y) ∧ ∃ nh' f', LJ M3 (rPuR R h nh) a h T v m (b + 2) nh' r n c 0 f' ∧ lA M3 d (M3 (m + 1)) r n c (b + 2) ∧ M3 (m + 1) 2 = sI (zRowW (M (m + 1))) r := by
  have o1 : ∀ x, (x < d ∨ d + 6 ≤ x) → M1 x = M x := fun x hx => by rw [hM1, jup_row _ _ (by omega), lAcM_o _ _ (by omega)]
  have J1 := LJ_law J hvd hdm o1
  have hvm := J.1.2.2.2.2.2.2.2.2.2
  obtain ⟨n0, n1, n2, n3, n4, n5, n6, n7⟩ := J.num
  have Z := zRd_of J.2.1 A.2.2.2.2.2.2.1
  have hz := Z.2.2.1
  obtain ⟨md, eq, nh', I3⟩ := st_analyse J1.1 J1.2.1
  generalize hM2 : mAna M1 R a h nh = M2 at md eq I3 ⊢
  have em2 : M2 (m + 1) = M (m + 1) := by rw [md _ (by omega), o1 _ (by omega)]
  have em : ∀ j, mChg M2 m nh (m + 1) j = M (m + 1) j := fun j => by rw [mChg_o _ (by omega) (by omega), em2]
  have hzo : ∀ y, y ≠ m + 1 → zmAna M2 m nh r y = mChg M2 m nh y := fun y hy => by
    rw [zmAna, jup_row _ _ hy, zAo_o (M2 (m + 1)) _ hy r]
    funext i
    simp only [zZr]
    rw [if_neg (fun q => hy q.1)]
  have s2 : zmAna M2 m nh r (m + 1) 2 = sI (zRowW (M (m + 1))) r := by rw [zmAna, jup_eq, em2]
  have s1 : ∀ j, j ≠ 2 → (j < 179 ∨ 307 ≤ j) → zmAna M2 m nh r (m + 1) j = M (m + 1) j := fun j h2 hj => by
    rcases hj with hj | hj
    · rw [zmAna, jup_nk _ _ h2, zAo_a _ _ _ hj, zZr_a _ hj, em]
    · rw [zmAna, jup_nk _ _ (by omega), em2, zAo_hi hj r hz]
      simp only [zZr]
      rw [if_neg (by omega), em]
  have sk : ∀ w, w < 4 → ∀ u, u < 32 → zmAna M2 m nh r (m + 1) (179 + 32 * w + u) = sI (eOne (M (m + 1)) w u) r := fun w hw u hu => by
    rw [zmAna, jup_nk _ _ (by omega), em2, zAo_v hw hu r hz]
    have : zZr (mChg M2 m nh) m 128 (m + 1) (179 + 32 * w + u) = 0 := by
      simp only [zZr]
      rw [if_pos ⟨trivial, by omega, by omega⟩]
    rw [this, Int32.zero_add]
  have sk' : ∀ i, i < 128 → zmAna M2 m nh r (m + 1) (179 + i) = nI (lAcN (M (m + 1)) (4 * r) i) := fun i hi => by
    have e1 := sk (i / 32) (by omega) (i % 32) (by omega)
    have e2 := lAcN_at Z (w := i / 32) (u := i % 32) (by omega) (by omega) r (Nat.le_refl r)
    rw [show 179 + 32 * (i / 32) + i % 32 = 179 + i by omega] at e1
    rw [show 32 * (i / 32) + i % 32 = i by omega] at e2
    rw [e1, e2]
  generalize hM3 : zmAna M2 m nh r = M3 at I3 hzo s2 s1 sk'
  have lo : ∀ y, y < m → M3 y = M2 y := fun y hy => by rw [hzo y (by omega), mChg_o _ (by omega) (by omega)]
  have el : M3 m 4 = nI 0 := by rw [hzo m (by omega), mChg_k _ (by decide), md _ (by omega), o1 _ (by omega)]; exact n6
  obtain ⟨f', J3⟩ := LJ_to I3 ((s1 0 (by decide) (by decide)).trans n0) n1 ((s1 4 (by decide) (by decide)).trans n2) n3 ((s1 3 (by decide) (by decide)).trans n4) n5 el (by decide)
  refine ⟨J1, by rw [eq, em2], M3, lo, nh', f', J3, lA_M (M := M1) ?_ (fun y y1 y2 => by rw [lo y (by omega), md y (by omega)]), s2⟩
  obtain ⟨a1, a2, a3, a4, a5, a6, a7, a8, a9⟩ := A
  have mo : ∀ i, i = 1 ∨ i = 3 ∨ i = 4 ∨ i = 5 → M1 (d + i) = M (d + i) := fun i hi => by rw [hM1, jup_row _ _ (by omega), lAcM_o _ _ (by omega)]
  refine ⟨fun i hi => ?_, fun i hi => by rw [mo 1 (by decide), a2 i hi, lPk_c (fun j hj => s1 _ (by omega) (by omega))], fun i hi => ?_, lSt_c (zN4_of Z) a4 (mo 3 (by decide)) (fun j h1 h2 => s1 j (by omega) (by omega)), lPl_c a5 (mo 4 (by decide)) (fun j h1 h2 => s1 j (by omega) (by omega)), lLs_c a6 (mo 5 (by decide)) (fun j h1 h2 => s1 j (by omega) (by omega)), ⟨fun i hi => ?_, ?_⟩, xRn_c a8 (fun j hj => s1 j (by omega) (by omega)), xSp_c a9 (by omega) (fun j h1 h2 => s1 j (by omega) (by omega))⟩
  · by_cases k0 : i = 2
    · rw [k0, hM1, jup_eq, s2]
    · rw [hM1, jup_nk _ _ k0, lAcM_o _ _ (by omega), a1 i hi, s1 i k0 (by omega)]
  · rw [hM1, jup_row _ _ (by omega), lAcM_i _ _ hi, sk' i hi]
  · have := lAcN_lt Z i (4 * r) (Nat.le_refl _)
    exact ⟨_, by omega, sk' i hi⟩
  · rw [s2, ← lAcN_sum Z r (Nat.le_refl r)]
    exact sI_congr (fun i hi => sk' i hi)
end LP3
