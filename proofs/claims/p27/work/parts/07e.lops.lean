/-- the rows move down by one: row k of r is gone -/
def lDel (M : jM) (d r k : Nat) : jM := fun b i => if b = d then (if i = 0 then nI (r - 1) else M b i) else if b = d + 1 then (if k ≤ i ∧ i < r - 1 then M b (i + 1) else M b i) else M b i
def lDelK (M : jM) (d r k j : Nat) : jM := fun b i => if b = d then (if i = 0 then nI (r - 1) else M b i) else if b = d + 1 then (if k ≤ i ∧ i < k + j then M b (i + 1) else M b i) else M b i
theorem lDelK_0 (M : jM) (d r k : Nat) : jup M d 0 (nI (r - 1)) = lDelK M d r k 0 := by
  funext b i
  simp only [lDelK, jup]
  by_cases h : b = d
  · subst h
    by_cases h2 : i = 0
    · simp [h2]
    · simp [h2]
  · rw [if_neg (fun q => h q.1), if_neg h, if_neg (show ¬ (k ≤ i ∧ i < k + 0) by omega)]
    split <;> rfl
theorem lDelK_s (M : jM) (d r k j : Nat) : jup (lDelK M d r k j) (d + 1) (k + j) (lDelK M d r k j (d + 1) (k + j + 1)) = lDelK M d r k (j + 1) := by
  have e : lDelK M d r k j (d + 1) (k + j + 1) = M (d + 1) (k + j + 1) := by
    simp only [lDelK]
    rw [if_neg (by omega), if_pos trivial, if_neg (by omega)]
  rw [e]
  funext b i
  simp only [lDelK, jup]
  by_cases h : b = d + 1
  · subst h
    by_cases h2 : i = k + j
    · subst h2
      rw [if_pos ⟨rfl, rfl⟩, if_neg (by omega), if_pos rfl, if_pos (by omega)]
    · rw [if_neg (fun q => h2 q.2)]
      simp only [if_neg (show ¬ d + 1 = d by omega), if_true]
      by_cases h3 : k ≤ i ∧ i < k + j
      · rw [if_pos h3, if_pos (by omega)]
      · rw [if_neg h3, if_neg (by omega)]
  · rw [if_neg (fun q => h q.1), if_neg h, if_neg h]
theorem lDelK_e (M : jM) {d r k : Nat} (h : k < r) : lDelK M d r k (r - 1 - k) = lDel M d r k := by
  unfold lDelK lDel
  rw [show k + (r - 1 - k) = r - 1 by omega]
theorem lDelK_n (M : jM) (d r k j : Nat) : lDelK M d r k j d 0 = nI (r - 1) := by
  simp only [lDelK]
  rw [if_pos trivial, if_pos trivial]
theorem lDel_o (M : jM) {d r k b : Nat} (h : b ≠ d) (h4 : b ≠ d + 1) : lDel M d r k b = M b := by
  funext i
  simp only [lDel]
  rw [if_neg h, if_neg h4]
/-- the words behind a call: where they lie the law's rows fit them -/
def lOp (Mx : jM) (Rx : jR) (a h T v m d b r n c : Nat) : Prop := ∃ M3, (∀ y, y < m → M3 y = Mx y) ∧ ∃ nh' f', LJ M3 Rx a h T v m b nh' r n c 0 f' ∧ lA M3 d (M3 (m + 1)) r n c b
theorem zBad_of {k y : Nat} (hk : k < 5) (hy : if k < 2 then y ≤ 1000 else if k = 2 then 1 ≤ y ∧ y ≤ 9 else if k = 3 then 1 ≤ y ∧ y ≤ 4 else 1 ≤ y ∧ y ≤ 8) : ¬ zBad (nI k) (nI y) = 0 := by
  rcases (show k = 0 ∨ k = 1 ∨ k = 2 ∨ k = 3 ∨ k = 4 by omega) with rfl | rfl | rfl | rfl | rfl
  · rw [if_pos (by decide)] at hy
    unfold zBad
    rw [if_neg (by decide), if_neg (by decide), lIn_y (Nat.zero_le y) hy (by decide)]
    decide
  · rw [if_pos (by decide)] at hy
    unfold zBad
    rw [if_neg (by decide), if_neg (by decide), lIn_y (Nat.zero_le y) hy (by decide)]
    decide
  · rw [if_neg (by decide), if_pos rfl] at hy
    unfold zBad
    rw [if_pos (by decide), if_pos (by decide), if_pos rfl, lIn_y hy.1 (show y ≤ 99 by omega) (by decide)]
    decide
  · rw [if_neg (by decide), if_neg (by decide), if_pos rfl] at hy
    unfold zBad
    rw [if_pos (by decide), if_pos (by decide), if_neg (by decide), if_pos rfl, lIn_y hy.1 (show y ≤ 9 by omega) (by decide)]
    decide
  · rw [if_neg (by decide), if_neg (by decide), if_neg (by decide)] at hy
    unfold zBad
    rw [if_pos (by decide), if_pos (by decide), if_neg (by decide), if_neg (by decide), lIn_y hy.1 (show y ≤ 8 by omega) (by decide)]
    decide
section LP
variable {ω : jW} {γ : jG} {M M1 M2 M3 : jM} {R R1 : jR} {x a h T v m d b b' nh r n c len r' n' c' : Nat} {f : Nat → Nat} {S S2 : Nat → Int32}
theorem op_mk (I3 : eInv M3 R1 a h T v m b' nh) (lo : ∀ y, y < m → M3 y = M2 y) (ld : ∀ y, d ≤ y → y < d + 6 → M2 y = M1 y) (hdm : d + 6 ≤ m) (A1 : lA M1 d (M3 (m + 1)) r n c b') (h0 : M3 (m + 1) 0 = nI r) (hr : r ≤ 30) (h4 : M3 (m + 1) 4 = nI n) (hn : n ≤ 8) (h3 : M3 (m + 1) 3 = nI c) (hc : c ≤ 6) (hl : M3 m 4 = nI 0) : lOp M2 R1 a h T v m d b' r n c := by
  obtain ⟨f', J3⟩ := LJ_to I3 h0 hr h4 hn h3 hc hl (by decide)
  exact ⟨M3, lo, nh, f', J3, lA_M A1 (fun y y1 y2 => by rw [lo y (by omega), ld y y1 y2])⟩
/-- a call that changes nothing that is told -/
theorem op_same (J : LJ M R a h T v m b nh r n c 0 f) (A : lA M d (M (m + 1)) r n c b) (hvd : v < d) (hdm : d + 6 ≤ m) (md : ∀ y, v < y → M2 y = M y) {nh2 : Nat} (I3 : eInv M2 R1 a h T v m b' nh2) (hb : b ≤ b') : lOp M2 R1 a h T v m d b' r n c := by
  have hvm := J.1.2.2.2.2.2.2.2.2.2
  obtain ⟨n0, n1, n2, n3, n4, n5, n6, n7⟩ := J.num
  have e1 : M2 (m + 1) = M (m + 1) := md _ (by omega)
  exact op_mk (M1 := M) (M3 := M2) I3 (fun _ _ => rfl) (fun y y1 y2 => md y (by omega)) hdm (by rw [e1]; exact lA_b A hb) (by rw [e1]; exact n0) n1 (by rw [e1]; exact n2) n3 (by rw [e1]; exact n4) n5 (by rw [md m hvm]; exact n6)
theorem op_full (J : LJ M R a h T v m b nh r n c 0 f) (A : lA M d (M (m + 1)) r n c b) (hvd : v < d) (hdm : d + 6 ≤ m) (hr : r = 30) {v0 v1 v2 v3 w : Nat} (h0 : v0 < 32) (h1 : v1 < 32) (h2 : v2 < 32) (h3 : v3 < 32) (hw1 : 1 ≤ w) (hw : w ≤ 999) :
    fRow M R a h v nh (nI v0) (nI v1) (nI v2) (nI v3) (nI w) = -3 ∧ lOp (mRow M R a h v nh (nI v0) (nI v1) (nI v2) (nI v3) (nI w)) (pRow M R a h nh (nI v0) (nI v1) (nI v2) (nI v3) (nI w)) a h T v m d (b + 1) r n c := by
  obtain ⟨md, eq, nh', I3⟩ := st_row J.1 J.2.1 (nI v0) (nI v1) (nI v2) (nI v3) (nI w)
  have hno : ¬ zNo (nI v0) (nI v1) (nI v2) (nI v3) (nI w) = true := by
    unfold zNo
    rw [lIn_y (Nat.zero_le v0) (show v0 ≤ 31 by omega) (by decide), lIn_y (Nat.zero_le v1) (show v1 ≤ 31 by omega) (by decide), lIn_y (Nat.zero_le v2) (show v2 ≤ 31 by omega) (by decide), lIn_y (Nat.zero_le v3) (show v3 ≤ 31 by omega) (by decide), lIn_y hw1 hw (by decide)]
    decide
  have he : nI r = nI 30 := by rw [hr]
  rw [zmRow, if_neg hno, if_pos he] at I3
  exact ⟨by rw [eq, zfRow, if_neg hno, if_pos he], op_same J A hvd hdm md I3 (by omega)⟩
theorem op_drowN (J : LJ M R a h T v m b nh r n c 0 f) (A : lA M d (M (m + 1)) r n c b) (hvd : v < d) (hdm : d + 6 ≤ m) {k : Nat} (hk : r ≤ k) (hk2 : k < 2 ^ 31) : fDrow M R a h nh (nI k) = -1 ∧ lOp (mDrow M R a h nh r (nI k)) (pDrow M R a h nh (nI k)) a h T v m d (b + 1) r n c := by
  obtain ⟨md, eq, nh', I3⟩ := st_drow J.1 J.2.1 (nI k)
  have hvm := J.1.2.2.2.2.2.2.2.2.2
  have z : zIs (mDrow M R a h nh r (nI k) (m + 1) 0) (nI k) = 0 := by rw [md _ (by omega)]; exact lIs_n J.num.1 hk hk2
  rw [zmDrow, if_pos z] at I3
  exact ⟨by rw [eq, zfDrow, if_pos z], op_same J A hvd hdm md I3 (by omega)⟩
theorem op_drow (J : LJ M R a h T v m b nh r n c 0 f) (A : lA M d (M (m + 1)) r n c b) (hvd : v < d) (hdm : d + 6 ≤ m) {k : Nat} (hk : k < r) (hM1 : M1 = lDel M d r k) : LJ M1 R a h T v m (b + 1) nh r n c 0 f ∧ fDrow M1 R a h nh (nI k) = M (m + 1) (29 + 5 * k + 4) ∧ lOp (mDrow M1 R a h nh r (nI k)) (pDrow M1 R a h nh (nI k)) a h T v m d (b + 2) (r - 1) n c := by
  have o1 : ∀ x, (x < d ∨ d + 6 ≤ x) → M1 x = M x := fun x hx => by rw [hM1, lDel_o _ (by omega) (by omega)]
  have J1 := LJ_law J hvd hdm o1
  have hvm := J.1.2.2.2.2.2.2.2.2.2
  obtain ⟨n0, n1, n2, n3, n4, n5, n6, n7⟩ := J.num
  obtain ⟨md, eq, nh', I3⟩ := st_drow J1.1 J1.2.1 (nI k)
  generalize hM2 : mDrow M1 R a h nh r (nI k) = M2 at md eq I3 ⊢
  have em2 : M2 (m + 1) = M (m + 1) := by rw [md _ (by omega), o1 _ (by omega)]
  have z : ¬ zIs (M2 (m + 1) 0) (nI k) = 0 := by rw [em2, lIs_y n0 hk (by omega)]; decide
  have z' : ¬ zIs (M (m + 1) 0) (nI k) = 0 := by rw [em2] at z; exact z
  rw [zmDrow, if_neg z, nI_clamp (by omega)] at I3
  generalize hM3 : zTo (mChg M2 m nh) m 0 5 (r - 1) (29 + 5 * k) (5 * (r - 1 - k)) = M3 at I3
  have em : ∀ j, mChg M2 m nh (m + 1) j = M (m + 1) j := fun j => by rw [mChg_o _ (by omega) (by omega), em2]
  have lo : ∀ y, y < m → M3 y = M2 y := fun y hy => by rw [← hM3, zTo_o _ (by omega), mChg_o _ (by omega) (by omega)]
  have eS : ∀ j, j ≠ 0 → (j < 29 + 5 * k ∨ 29 + 5 * k + 5 * (r - 1 - k) ≤ j) → M3 (m + 1) j = M (m + 1) j := fun j j0 hj => by
    rw [← hM3]
    simp only [zTo]
    rw [if_pos trivial, if_neg j0, if_neg (by omega), em]
  have eT : ∀ j, 29 + 5 * k ≤ j → j < 29 + 5 * k + 5 * (r - 1 - k) → M3 (m + 1) j = M (m + 1) (j + 5) := fun j h1 h2 => by
    rw [← hM3]
    simp only [zTo]
    rw [if_pos trivial, if_neg (by omega), if_pos (by omega), em]
  have eR0 : M3 (m + 1) 0 = nI (r - 1) := by rw [← hM3]; exact zTo_c _ _ _ _ _ _ _
  have el : M3 m 4 = nI 0 := by rw [← hM3, zTo_o _ (by omega), mChg_k _ (by decide), md _ (by omega), o1 _ (by omega)]; exact n6
  have hr30 := n1
  refine ⟨J1, by rw [eq, zfDrow, if_neg z, em2, nI_clamp (by omega)], op_mk (M1 := M1) I3 lo (fun y y1 y2 => md y (by omega)) hdm ?_ eR0 (by omega) ((eS 4 (by decide) (by omega)).trans n2) n3 ((eS 3 (by decide) (by omega)).trans n4) n5 el⟩
  have Z := zRd_of J.2.1 A.2.2.2.2.2.2.1
  obtain ⟨a1, a2, a3, a4, a5, a6, a7, a8, a9⟩ := A
  refine ⟨fun i hi => ?_, fun i hi => ?_, fun i hi => ?_, lSt_c (zN4_of Z) a4 (by rw [hM1, lDel_o _ (by omega) (by omega)]) (fun j h1 h2 => eS j (by omega) (by omega)), lPl_c a5 (by rw [hM1, lDel_o _ (by omega) (by omega)]) (fun j h1 h2 => eS j (by omega) (by omega)), lLs_c a6 (by rw [hM1, lDel_o _ (by omega) (by omega)]) (fun j h1 h2 => eS j (by omega) (by omega)), xKn_c a7 (fun j hj => eS j (by omega) (by omega)), xRn_c a8 (fun j hj => eS j (by omega) (by omega)), xSp_c a9 (by omega) (fun j h1 h2 => eS j (by omega) (by omega))⟩
  · rw [hM1]
    simp only [lDel]
    rw [if_pos trivial]
    by_cases k0 : i = 0
    · rw [if_pos k0, k0, eR0]
    · rw [if_neg k0, a1 i hi, eS i k0 (by omega)]
  · rw [hM1]
    simp only [lDel]
    rw [if_neg (by omega), if_pos trivial]
    by_cases ik : k ≤ i
    · rw [if_pos ⟨ik, hi⟩, a2 (i + 1) (by omega)]
      have z : ∀ j, j < 5 → zV (M3 (m + 1)) i j = zV (M (m + 1)) (i + 1) j := fun j hj => by
        unfold zV
        rw [eT _ (by omega) (by omega)]
        congr 2
        omega
      unfold lPk
      rw [z 0 (by decide), z 1 (by decide), z 2 (by decide), z 3 (by decide), z 4 (by decide)]
    · rw [if_neg (fun q => ik q.1), a2 i (by omega), lPk_c (fun j hj => eS _ (by omega) (by omega))]
  · rw [hM1, lDel_o _ (by omega) (by omega), a3 i hi, eS _ (by omega) (by omega)]
theorem op_set (J : LJ M R a h T v m b nh r n c 0 f) (A : lA M d (M (m + 1)) r n c b) (hvd : v < d) (hdm : d + 6 ≤ m) {k y : Nat} (hk : k < 5) (hy : if k < 2 then y ≤ 1000 else if k = 2 then 1 ≤ y ∧ y ≤ 9 else if k = 3 then 1 ≤ y ∧ y ≤ 4 else 1 ≤ y ∧ y ≤ 8) (hM1 : M1 = jup M d (11 + k) (nI y)) :
    LJ M1 R a h T v m (b + 1) nh r n c 0 f ∧ fSet M1 R a h nh (nI k) (nI y) = M (m + 1) (11 + k) ∧ lOp (mSet M1 R a h nh (nI k) (nI y)) (pSet R h nh (nI k) (nI y)) a h T v m d (b + 2) r n c := by
  have o1 : ∀ x, (x < d ∨ d + 6 ≤ x) → M1 x = M x := fun x hx => by rw [hM1, jup_row _ _ (by omega)]
  have J1 := LJ_law J hvd hdm o1
  have hvm := J.1.2.2.2.2.2.2.2.2.2
  obtain ⟨n0, n1, n2, n3, n4, n5, n6, n7⟩ := J.num
  obtain ⟨md, eq, nh', I3⟩ := st_set J1.1 J1.2.1 (nI k) (nI y)
  generalize hM2 : mSet M1 R a h nh (nI k) (nI y) = M2 at md eq I3 ⊢
  have em2 : M2 (m + 1) = M (m + 1) := by rw [md _ (by omega), o1 _ (by omega)]
  have c1 : ¬ rIn (nI k) (nI 0) (nI 4) = 0 := by rw [lIn_y (Nat.zero_le k) (show k ≤ 4 by omega) (by decide)]; decide
  have c2 : ¬ zBad (nI k) (nI y) = 0 := zBad_of hk hy
  rw [zmSet, if_neg c1, if_neg c2, nI_clamp (by omega)] at I3
  generalize hM3 : jup (mChg M2 m nh) (m + 1) (11 + k) (nI y) = M3 at I3
  have lo : ∀ y, y < m → M3 y = M2 y := fun y hy => by rw [← hM3, jup_row _ _ (by omega), mChg_o _ (by omega) (by omega)]
  have eS : ∀ j, j ≠ 11 + k → M3 (m + 1) j = M (m + 1) j := fun j hj => by rw [← hM3, jup_nk _ _ hj, mChg_o _ (by omega) (by omega), em2]
  have eK : M3 (m + 1) (11 + k) = nI y := by rw [← hM3, jup_eq]
  have el : M3 m 4 = nI 0 := by rw [← hM3, jup_row _ _ (by omega), mChg_k _ (by decide), md _ (by omega), o1 _ (by omega)]; exact n6
  refine ⟨J1, by rw [eq, zfSet, if_neg c1, if_neg c2, em2, nI_clamp (by omega)], op_mk (M1 := M1) I3 lo (fun y y1 y2 => md y (by omega)) hdm ?_ ((eS 0 (by omega)).trans n0) n1 ((eS 4 (by omega)).trans n2) n3 ((eS 3 (by omega)).trans n4) n5 el⟩
  have Z := zRd_of J.2.1 A.2.2.2.2.2.2.1
  obtain ⟨a1, a2, a3, a4, a5, a6, a7, a8, a9⟩ := A
  have mo : ∀ i, 0 < i → M1 (d + i) = M (d + i) := fun i hi => by rw [hM1, jup_row _ _ (by omega)]
  refine ⟨fun i hi => ?_, fun i hi => by rw [mo 1 (by decide), a2 i hi, lPk_c (fun j hj => eS _ (by omega))], fun i hi => by rw [mo 2 (by decide), a3 i hi, eS _ (by omega)], lSt_c (zN4_of Z) a4 (mo 3 (by decide)) (fun j h1 h2 => eS j (by omega)), lPl_c a5 (mo 4 (by decide)) (fun j h1 h2 => eS j (by omega)), lLs_c a6 (mo 5 (by decide)) (fun j h1 h2 => eS j (by omega)), xKn_c a7 (fun j hj => eS j (by omega)), xRn_c a8 (fun j hj => eS j (by omega)), xSp_c a9 (by omega) (fun j h1 h2 => eS j (by omega))⟩
  by_cases ik : i = 11 + k
  · rw [ik, hM1, jup_eq, eK]
  · rw [hM1, jup_nk _ _ ik, a1 i hi, eS i ik]
end LP
