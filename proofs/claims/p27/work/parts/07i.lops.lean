section LP4
variable {ω : jW} {γ : jG} {M M1 M2 M3 N N1 N2 : jM} {R R1 : jR} {x a h T v m d b b' nh r n c len r' n' c' k : Nat} {f : Nat → Nat} {S S2 : Nat → Int32}
theorem zRd_k (Z : zRd S r c) (e : ∀ j, j ≠ 1 → (j < 179 ∨ 307 ≤ j ∧ j < 367) → S2 j = S j) (hk : ∀ i, i < 128 → ∃ j, j < 2 ^ 20 ∧ S2 (179 + i) = nI j) : zRd S2 r c := by
  obtain ⟨h1, h2, h3, h4, h5, h6, -⟩ := Z
  have zv : ∀ i, i < r → ∀ j, j < 5 → zV S2 i j = zV S i j := fun i hi j hj => by unfold zV; rw [e _ (by omega) (by omega)]
  have zn : ∀ t, t < c → zN S2 t = zN S t := fun t ht => by unfold zN; rw [e _ (by omega) (by omega)]
  refine ⟨by rw [e 0 (by decide) (by decide)]; exact h1, h2, fun i hi j hj => by rw [e _ (by omega) (by omega), zv i hi j (by omega)]; exact h3 i hi j hj, fun i hi => by rw [e _ (by omega) (by omega), zv i hi 4 (by decide)]; exact h4 i hi, h5, fun t ht => ?_, hk⟩
  rw [zn t ht]
  obtain ⟨g1, g2⟩ := h6 t ht
  have h4' := g1.2.2.2.1
  refine ⟨zSt_cong g1 (fun j a b => e j (by omega) (by omega)), fun k hk => ?_⟩
  have eo : zOp S2 t k = zOp S t k := by unfold zOp; rw [e _ (by omega) (by omega)]
  rw [e _ (by omega) (by omega), eo]
  exact g2 k hk
/-- the words while statistics are taken -/
def lAcS (S : Nat → Int32) (k : Nat) : Nat → Int32 := fun i => if 179 ≤ i ∧ i < 307 then nI (lAcN S k (i - 179)) else S i
theorem lAcS_o {S : Nat → Int32} {k i : Nat} (h : i < 179 ∨ 307 ≤ i) : lAcS S k i = S i := if_neg (by omega)
theorem lAcS_Z (Z : zRd S r c) (hk : k ≤ 4 * r) : zRd (lAcS S k) r c := zRd_k Z (fun j _ hj => lAcS_o (by omega)) (fun i hi => ⟨lAcN S k i, by have := lAcN_lt Z i k hk; have := Z.2.1; omega, by
  unfold lAcS
  rw [if_pos (by omega), show 179 + i - 179 = i by omega]⟩)
theorem lAcS_H (H : lRd M d S r c) (Z : zRd S r c) (k : Nat) : lRd (lAcM M d S k) d (lAcS S k) r c := by
  have hr := Z.2.1
  obtain ⟨h1, h2, h3, h4⟩ := H
  refine ⟨fun i hi => by rw [lAcM_o _ _ (by omega), lAcS_o (by omega)]; exact h1 i hi, fun i hi => ?_, fun i hi => ?_, fun t ht => ?_⟩
  · rw [lAcM_o _ _ (by omega), h2 i hi, lPk_c (S2 := lAcS S k) (fun j hj => lAcS_o (by omega))]
  · rw [lAcM_i _ _ hi]
    unfold lAcS
    rw [if_pos (by omega), show 179 + i - 179 = i by omega]
  · have hc := Z.2.2.2.2.1
    rw [lAcM_o _ _ (by omega), h4 t ht, lCode_c (S2 := lAcS S k) (zN4_of Z t ht) (fun j a b => lAcS_o (by omega))]
theorem zIdx_u {u j : Nat} (e : S 1 = nI u) (hu : u < 2 ^ 31) (hj : j < 32) : zIdx S (nI j) = nI (u / 2 ^ j % 2) := by
  unfold zIdx
  rw [e, lx_shr hu hj, lx_m1]
  have : u / 2 ^ j % 2 < 2 := Nat.mod_lt _ (by decide)
  by_cases h : u / 2 ^ j % 2 = 1
  · rw [h, if_pos rfl]
  · have h0 : u / 2 ^ j % 2 = 0 := by omega
    rw [h0, if_neg (by decide)]
theorem ix_all : ∀ u : Fin 16, ∀ j : Fin 4, (u.val / 2 ^ j.val % 2 = 0 → nI u.val + (nI 1 <<< (nI j.val &&& 31)) = nI u.val ^^^ (nI 1 <<< (nI j.val &&& 31)) ∧ nI u.val ^^^ (nI 1 <<< (nI j.val &&& 31)) = nI (u.val + 2 ^ j.val) ∧ u.val + 2 ^ j.val < 16) ∧
    (u.val / 2 ^ j.val % 2 = 1 → nI u.val + -(nI 1 <<< (nI j.val &&& 31)) = nI u.val ^^^ (nI 1 <<< (nI j.val &&& 31)) ∧ nI u.val ^^^ (nI 1 <<< (nI j.val &&& 31)) = nI (u.val - 2 ^ j.val) ∧ u.val - 2 ^ j.val < 16) := by decide +kernel
theorem ix_on {u j : Nat} (hu : u < 16) (hj : j < 4) (h : u / 2 ^ j % 2 = 0) : nI u + (nI 1 <<< (nI j &&& 31)) = nI u ^^^ (nI 1 <<< (nI j &&& 31)) ∧ ∃ u', u' < 16 ∧ nI u ^^^ (nI 1 <<< (nI j &&& 31)) = nI u' := by
  obtain ⟨h1, h2, h3⟩ := (ix_all ⟨u, hu⟩ ⟨j, hj⟩).1 h
  exact ⟨h1, _, h3, h2⟩
theorem ix_off {u j : Nat} (hu : u < 16) (hj : j < 4) (h : u / 2 ^ j % 2 = 1) : nI u + -(nI 1 <<< (nI j &&& 31)) = nI u ^^^ (nI 1 <<< (nI j &&& 31)) ∧ ∃ u', u' < 16 ∧ nI u ^^^ (nI 1 <<< (nI j &&& 31)) = nI u' := by
  obtain ⟨h1, h2, h3⟩ := (ix_all ⟨u, hu⟩ ⟨j, hj⟩).2 h
  exact ⟨h1, _, h3, h2⟩
theorem zGo_row {w : Int32} {cc : Int32} {p : Nat} (e : N (m + 1) = N2 (m + 1)) : zGo N m cc w p = zGo N2 m cc w p := by
  unfold zGo
  rw [e]
theorem mOut_row {p : Nat} (e : N (m + 1) = N2 (m + 1)) : mOut N m n p (m + 1) = mOut N2 m n p (m + 1) := by
  funext i
  simp only [mOut, zTo, e]
theorem zIx_row {w cc : Int32} : ∀ (p n : Nat) (N N2 : jM) (k : Nat), N (m + 1) = N2 (m + 1) → (zIx m cc w p n N k).1 (m + 1) = (zIx m cc w p n N2 k).1 (m + 1) ∧ (zIx m cc w p n N k).2 = (zIx m cc w p n N2 k).2
  | 0, n, N, N2, k, e => ⟨e, rfl⟩
  | p + 1, n, N, N2, k, e => by
    simp only [zIx]
    rw [zGo_row (N := N) (N2 := N2) e]
    split
    · exact zIx_row p (n - 1) _ _ (k + 1) (mOut_row e)
    · exact zIx_row p n _ _ k e
theorem zIx_o {w cc : Int32} {y : Nat} (hy : y ≠ m + 1) : ∀ (p n : Nat) (N : jM) (k : Nat), (zIx m cc w p n N k).1 y = N y
  | 0, n, N, k => rfl
  | p + 1, n, N, k => by
    simp only [zIx]
    split
    · rw [zIx_o hy p (n - 1) _ (k + 1), mOut_o _ hy]
    · exact zIx_o hy p n _ k
theorem zIx_w {w cc : Int32} (hw : ¬ w = 0) : ∀ (p n : Nat) (N : jM) (k : Nat), zIx m cc w p n N k = (N, n, k)
  | 0, n, N, k => rfl
  | p + 1, n, N, k => by
    simp only [zIx]
    rw [if_neg (zGo_f3 hw)]
    exact zIx_w hw p n N k
theorem op_idxN (J : LJ M R a h T v m b nh r n c 0 f) (A : lA M d (M (m + 1)) r n c b) (hvd : v < d) (hdm : d + 6 ≤ m) {u j w : Nat} (hj : j < 4) (hw : w < 2) (hu : u < 16) (eu : M (m + 1) 1 = nI u) (hb : u / 2 ^ j % 2 = w) : fIndex M R a h nh n (nI j) (nI w) = -2 ∧ lOp (mIndex M R a h nh n (nI j) (nI w)) (pIndex M R a h nh n (nI j) (nI w)) a h T v m d (b + 1) r n c := by
  obtain ⟨md, eq, nh', I3⟩ := st_index J.1 J.2.1 (nI j) (nI w)
  have hvm := J.1.2.2.2.2.2.2.2.2.2
  have em : mIndex M R a h nh n (nI j) (nI w) (m + 1) = M (m + 1) := md _ (by omega)
  have c1 : ¬ rIn (nI j) (nI 0) (nI 3) = 0 := by rw [lIn_y (Nat.zero_le j) (show j ≤ 3 by omega) (by decide)]; decide
  have c2 : ¬ rIn (nI w) (nI 0) (nI 1) = 0 := by rw [lIn_y (Nat.zero_le w) (show w ≤ 1 by omega) (by decide)]; decide
  have c3 : zIdx (mIndex M R a h nh n (nI j) (nI w) (m + 1)) (nI j) = (if nI w = nI 1 then nI 1 else nI 0) := by
    rw [em, zIdx_u eu (by omega) (by omega), hb]
    rcases (show w = 0 ∨ w = 1 by omega) with rfl | rfl <;> rfl
  rw [zmIndex, if_neg c1, if_neg c2, if_pos c3] at I3
  exact ⟨by rw [eq, zfIndex, if_neg c1, if_neg c2, if_pos c3], op_same J A hvd hdm md I3 (by omega)⟩
theorem op_idx (J : LJ M R a h T v m b nh r n c 0 f) (A : lA M d (M (m + 1)) r n c b) (hvd : v < d) (hdm : d + 6 ≤ m) {u j w : Nat} (hj : j < 4) (hw : w < 2) (hu : u < 16) (eu : M (m + 1) 1 = nI u) (hb : ¬ u / 2 ^ j % 2 = w)
    (hN : N = jup M (m + 1) 1 (nI u ^^^ (nI 1 <<< (nI j &&& 31)))) (hX : zIx m (nI j) (nI w) n n N 0 = (N1, n', k)) (hn' : n' ≤ n) (hN1 : ∀ i, i < 367 → i ≠ 4 → N1 (m + 1) i = N (m + 1) i) (hN4 : N1 (m + 1) 4 = nI n') (hMo : ∀ x, x ≠ d → x ≠ d + 4 → M1 x = M x) (h10 : M1 d 10 = M (m + 1) 10 + nI k) (h4 : M1 d 4 = nI n') (h1 : M1 d 1 = N (m + 1) 1)
    (hMi : ∀ i, i ≠ 1 → i ≠ 4 → i ≠ 10 → M1 d i = M d i) (hP : lPl M1 d (N1 (m + 1)) n') (hSp : xSp (N1 (m + 1)) n' b) (hu2 : ∃ u', u' < 16 ∧ nI u ^^^ (nI 1 <<< (nI j &&& 31)) = nI u') :
    LJ M1 R a h T v m (b + 1) nh r n c 0 f ∧ fIndex M1 R a h nh n (nI j) (nI w) = nI k ∧ lOp (mIndex M1 R a h nh n (nI j) (nI w)) (pIndex M1 R a h nh n (nI j) (nI w)) a h T v m d (b + 2) r n' c := by
  have o1 : ∀ x, (x < d ∨ d + 6 ≤ x) → M1 x = M x := fun x hx => hMo x (by omega) (by omega)
  have J1 := LJ_law J hvd hdm o1
  have hvm := J.1.2.2.2.2.2.2.2.2.2
  obtain ⟨n0, n1, n2, n3, n4, n5, n6, n7⟩ := J.num
  obtain ⟨md, eq, nh', I3⟩ := st_index J1.1 J1.2.1 (nI j) (nI w)
  generalize hM2 : mIndex M1 R a h nh n (nI j) (nI w) = M2 at md eq I3 ⊢
  have em2 : M2 (m + 1) = M (m + 1) := by rw [md _ (by omega), o1 _ (by omega)]
  have c1 : ¬ rIn (nI j) (nI 0) (nI 3) = 0 := by rw [lIn_y (Nat.zero_le j) (show j ≤ 3 by omega) (by decide)]; decide
  have c2 : ¬ rIn (nI w) (nI 0) (nI 1) = 0 := by rw [lIn_y (Nat.zero_le w) (show w ≤ 1 by omega) (by decide)]; decide
  have c3 : ¬ zIdx (M2 (m + 1)) (nI j) = (if nI w = nI 1 then nI 1 else nI 0) := by
    rw [em2, zIdx_u eu (by omega) (by omega)]
    have hlt : u / 2 ^ j % 2 < 2 := Nat.mod_lt _ (by decide)
    rcases (show w = 0 ∨ w = 1 by omega) with rfl | rfl
    · rw [show u / 2 ^ j % 2 = 1 by omega]; decide
    · rw [show u / 2 ^ j % 2 = 0 by omega]; decide
  have eN : zIxM M2 m nh (nI j) (m + 1) = N (m + 1) := by
    funext i
    rw [zIxM, hN, em2, eu]
    simp only [jup]
    rw [mChg_o _ (by omega) (by omega), em2]
  obtain ⟨x1, x2⟩ := zIx_row (w := nI w) (cc := nI j) n n (zIxM M2 m nh (nI j)) N 0 eN
  rw [hX] at x1 x2
  replace x1 : (zIx m (nI j) (nI w) n n (zIxM M2 m nh (nI j)) 0).1 (m + 1) = N1 (m + 1) := x1
  have xo := fun y (hy : y ≠ m + 1) => zIx_o (w := nI w) (cc := nI j) hy n n (zIxM M2 m nh (nI j)) 0
  have ek : (zIxR M2 m nh n (nI j) (nI w)).2.2 = k := congrArg Prod.snd x2
  rw [zfIndex, if_neg c1, if_neg c2, if_neg c3, ek] at eq
  rw [zmIndex, if_neg c1, if_neg c2, if_neg c3, ek] at I3
  unfold zIxR at I3
  generalize hX1 : (zIx m (nI j) (nI w) n n (zIxM M2 m nh (nI j)) 0).1 = X1 at I3 x1 xo
  generalize hM3 : jup X1 (m + 1) 10 (X1 (m + 1) 10 + nI k) = M3 at I3
  have xo' : ∀ y, y ≠ m + 1 → X1 y = mChg M2 m nh y := fun y hy => by rw [xo y hy, zIxM, jup_row _ _ hy]
  have lo : ∀ y, y < m → M3 y = M2 y := fun y hy => by rw [← hM3, jup_row _ _ (by omega), xo' y (by omega), mChg_o _ (by omega) (by omega)]
  have e10 : M3 (m + 1) 10 = M (m + 1) 10 + nI k := by rw [← hM3, jup_eq, x1, hN1 10 (by decide) (by decide), hN, jup_nk _ _ (by decide)]
  have eX : ∀ i, i ≠ 10 → M3 (m + 1) i = N1 (m + 1) i := fun i hi => by rw [← hM3, jup_nk _ _ hi, x1]
  have eS : ∀ i, i < 367 → i ≠ 1 → i ≠ 4 → i ≠ 10 → M3 (m + 1) i = M (m + 1) i := fun i h1 h2 h3 h4 => by rw [eX i h4, hN1 i h1 h3, hN, jup_nk _ _ h2]
  have el : M3 m 4 = nI 0 := by rw [← hM3, jup_row _ _ (by omega), xo' m (by omega), mChg_k _ (by decide), md _ (by omega), o1 _ (by omega)]; exact n6
  refine ⟨J1, eq, op_mk (M1 := M1) I3 lo (fun y y1 y2 => md y (by omega)) hdm ?_ ((eS 0 (by decide) (by decide) (by decide) (by decide)).trans n0) n1 ((eX 4 (by decide)).trans hN4) (by omega) ((eS 3 (by decide) (by decide) (by decide) (by decide)).trans n4) n5 el⟩
  have Z := zRd_of J.2.1 A.2.2.2.2.2.2.1
  obtain ⟨a1, a2, a3, a4, a5, a6, a7, a8, a9⟩ := A
  refine ⟨fun i hi => ?_, fun i hi => by rw [hMo _ (by omega) (by omega), a2 i hi, lPk_c (fun j hj => eS _ (by omega) (by omega) (by omega) (by omega))], fun i hi => by rw [hMo _ (by omega) (by omega), a3 i hi, eS _ (by omega) (by omega) (by omega) (by omega)], lSt_c (zN4_of Z) a4 (hMo _ (by omega) (by omega)) (fun j h1 h2 => eS j (by omega) (by omega) (by omega) (by omega)), lPl_c hP rfl (fun j h1 h2 => eX j (by omega)), lLs_c a6 (hMo _ (by omega) (by omega)) (fun j h1 h2 => eS j (by omega) (by omega) (by omega) (by omega)), xKn_c a7 (fun j hj => eS j (by omega) (by omega) (by omega) (by omega)), ⟨?_, ?_⟩, xSp_c hSp (by omega) (fun j h1 h2 => eX j (by omega))⟩
  · by_cases k1 : i = 1
    · rw [k1, h1, eX 1 (by decide), hN1 1 (by decide) (by decide)]
    · by_cases k4 : i = 4
      · rw [k4, h4, eX 4 (by decide), hN4]
      · by_cases k10 : i = 10
        · rw [k10, h10, e10]
        · rw [hMi i k1 k4 k10, a1 i hi, eS i (by omega) k1 k4 k10]
  · rw [eS 6 (by decide) (by decide) (by decide) (by decide), ← a8.1]
    exact sI_congr (fun i hi => eS _ (by omega) (by omega) (by omega) (by omega))
  · obtain ⟨u', u1, u2⟩ := hu2
    exact ⟨u', u1, by rw [eX 1 (by decide), hN1 1 (by decide) (by decide), hN, jup_eq]; exact u2⟩
end LP4
section LP5
variable {M M1 : jM} {m d r c : Nat} {w : Int32}
theorem lIx_Z (Z : zRd (M (m + 1)) r c) : zRd (jup M (m + 1) 1 w (m + 1)) r c := zRd_k Z (fun j h1 _ => jup_nk _ _ h1) (fun i hi => by rw [jup_nk _ _ (by omega)]; exact Z.2.2.2.2.2.2 i hi)
theorem lIx_H (H : lRd M d (M (m + 1)) r c) (Z : zRd (M (m + 1)) r c) (hMo : ∀ x, x ≠ d → x ≠ d + 4 → M1 x = M x) (h1 : M1 d 1 = w) (hMi : ∀ i, i ≠ 1 → i ≠ 4 → M1 d i = M d i) : lRd M1 d (jup M (m + 1) 1 w (m + 1)) r c := by
  obtain ⟨H1, H2, H3, H4⟩ := H
  have hc := Z.2.2.2.2.1
  refine ⟨fun i hi => ?_, fun i hi => ?_, fun i hi => ?_, fun t ht => ?_⟩
  · by_cases e : i = 1
    · rw [e, h1, jup_eq]
    · rw [hMi i e (by omega), jup_nk _ _ e]
      exact H1 i hi
  · rw [hMo _ (by omega) (by omega), lPk_c (S := M (m + 1)) (fun j hj => jup_nk _ _ (by omega))]
    exact H2 i hi
  · rw [hMo _ (by omega) (by omega), jup_nk _ _ (by omega)]
    exact H3 i hi
  · rw [hMo _ (by omega) (by omega), lCode_c (S := M (m + 1)) (zN4_of Z t ht) (fun j a b => jup_nk _ _ (by omega))]
    exact H4 t ht
end LP5
