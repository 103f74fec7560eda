section LP2
variable {ω : jW} {γ : jG} {M M1 M2 M3 : jM} {R R1 : jR} {x a h T v m d b b' nh r n c len r' n' c' : Nat} {f : Nat → Nat} {S S2 : Nat → Int32}
theorem mOut_pl (M : jM) (m : Nat) {n p q w : Nat} (hp : p < n) (hq : q < n - 1) (hw : w < 9) : mOut M m n p (m + 1) (367 + 9 * q + w) = M (m + 1) (367 + 9 * outG p q + w) := by
  simp only [mOut, zTo, outG]
  rw [if_pos trivial, if_neg (by omega)]
  by_cases h : q < p
  · rw [if_pos h, if_neg (by omega)]
  · rw [if_neg h, if_pos (by omega)]
    congr 1
    omega
theorem lOut_pl (M : jM) (d : Nat) {n p q j : Nat} (hp : p < n) (hq : q < n - 1) (hj : j < 8) : lOut M d n p (d + 4) (8 * q + j) = M (d + 4) (8 * outG p q + j) := by
  simp only [lOut, outG]
  rw [if_neg (by omega), if_pos trivial]
  by_cases h : q < p
  · rw [if_pos h, if_neg (by omega)]
  · rw [if_neg h, if_pos (by omega)]
    congr 1
    omega
theorem lPl_out (P : lPl M d S n) {p : Nat} (hp : p < n) (e : ∀ q, q < n - 1 → ∀ w, w < 9 → S2 (367 + 9 * q + w) = S (367 + 9 * outG p q + w)) : lPl (lOut M d n p) d S2 (n - 1) := fun q hq => by
  obtain ⟨h1, h2, h3⟩ := P (outG p q) (outG_lt hp hq)
  refine ⟨fun j hj => ?_, ?_, ?_⟩
  · rw [lOut_pl M d hp hq (by omega), e q hq j (by omega)]; exact h1 j hj
  · rw [lOut_pl M d hp hq (by omega), e q hq 7 (by omega), e q hq 6 (by omega)]; exact h2
  · rw [lOut_pl M d hp hq (by omega), e q hq 8 (by omega)]; exact h3
theorem xSp_out (A : xSp S n b) (hb : b ≤ b') {p : Nat} (hp : p < n) (e : ∀ q, q < n - 1 → ∀ w, w < 9 → S2 (367 + 9 * q + w) = S (367 + 9 * outG p q + w)) : xSp S2 (n - 1) b' := fun q hq => by
  obtain ⟨⟨s, s1, s2⟩, z, z1, z2⟩ := A (outG p q) (outG_lt hp hq)
  exact ⟨⟨s, by omega, by rw [e q hq 6 (by omega)]; exact s2⟩, z, z1, by rw [e q hq 2 (by omega)]; exact z2⟩
theorem zPn_out (A : zPn S n) {p : Nat} (hp : p < n) (e : ∀ q, q < n - 1 → ∀ w, w < 9 → S2 (367 + 9 * q + w) = S (367 + 9 * outG p q + w)) : zPn S2 (n - 1) := fun q hq => by
  rw [e q hq 7 (by omega), e q hq 6 (by omega)]
  exact A (outG p q) (outG_lt hp hq)
theorem op_pinN (J : LJ M R a h T v m b nh r n c 0 f) (A : lA M d (M (m + 1)) r n c b) (hvd : v < d) (hdm : d + 6 ≤ m) {y : Int32} (hz : zLast (zPlc (M (m + 1)) y) n = -4) (w : Int32) : fPin M R a h nh n y w = -1 ∧ lOp (mPin M R a h nh n y w) (pPin M R a h nh n y w) a h T v m d (b + 1) r n c := by
  obtain ⟨md, eq, nh', I3⟩ := st_pin J.1 J.2.1 y w
  have hvm := J.1.2.2.2.2.2.2.2.2.2
  have z : zLast (zPlc (mPin M R a h nh n y w (m + 1)) y) n < 0 := by rw [md _ (by omega), hz]; decide
  rw [zmPin, if_pos z] at I3
  exact ⟨by rw [eq, zfPin, if_pos z], op_same J A hvd hdm md I3 (by omega)⟩
theorem op_dropN (J : LJ M R a h T v m b nh r n c 0 f) (A : lA M d (M (m + 1)) r n c b) (hvd : v < d) (hdm : d + 6 ≤ m) {y : Int32} (hz : zLast (zPlc (M (m + 1)) y) n = -4) : fDrop M R a h nh n y = -1 ∧ lOp (mDrop M R a h nh n y) (pDrop M R a h nh n y) a h T v m d (b + 1) r n c := by
  obtain ⟨md, eq, nh', I3⟩ := st_drop J.1 J.2.1 y
  have hvm := J.1.2.2.2.2.2.2.2.2.2
  have z : ¬ 0 ≤ zLast (zPlc (mDrop M R a h nh n y (m + 1)) y) n := by rw [md _ (by omega), hz]; decide
  rw [zmDrop, if_neg z] at I3
  exact ⟨by rw [eq, zfDrop, if_neg z], op_same J A hvd hdm md I3 (by omega)⟩
theorem op_dropP (J : LJ M R a h T v m b nh r n c 0 f) (A : lA M d (M (m + 1)) r n c b) (hvd : v < d) (hdm : d + 6 ≤ m) {y : Int32} {q : Nat} (hq : q < n) (hz : zLast (zPlc (M (m + 1)) y) n = nI q) (hp : M (m + 1) (367 + 9 * q + 7) = nI 1) : fDrop M R a h nh n y = -2 ∧ lOp (mDrop M R a h nh n y) (pDrop M R a h nh n y) a h T v m d (b + 1) r n c := by
  obtain ⟨md, eq, nh', I3⟩ := st_drop J.1 J.2.1 y
  have hvm := J.1.2.2.2.2.2.2.2.2.2
  have hn8 := J.num.2.2.2.1
  have em : mDrop M R a h nh n y (m + 1) = M (m + 1) := md _ (by omega)
  have z : 0 ≤ zLast (zPlc (M (m + 1)) y) n := by rw [hz]; exact nI_pos' (by omega)
  have z2 : M (m + 1) (367 + 9 * (zLast (zPlc (M (m + 1)) y) n).toNatClampNeg + 7) = nI 1 := by rw [hz, nI_clamp (by omega)]; exact hp
  rw [zmDrop, em, if_pos z, if_pos z2] at I3
  exact ⟨by rw [eq, em, zfDrop, if_pos z, if_pos z2], op_same J A hvd hdm md I3 (by omega)⟩
theorem op_pin (J : LJ M R a h T v m b nh r n c 0 f) (A : lA M d (M (m + 1)) r n c b) (hvd : v < d) (hdm : d + 6 ≤ m) (hb : b ≤ 100000) {y : Int32} {q w s : Nat} (hq : q < n) (hw : w < 2) (hz : zLast (zPlc (M (m + 1)) y) n = nI q) (hs : M (m + 1) (367 + 9 * q + 6) = nI s) (hM1 : M1 = jup M (d + 4) (8 * q + 6) (nI (2 * s + w))) :
    LJ M1 R a h T v m (b + 1) nh r n c 0 f ∧ ∃ S2, lPl M1 d S2 n ∧ zPn S2 n ∧ fPin M1 R a h nh n y (nI w) = sI (zPinF S2) n ∧ lOp (mPin M1 R a h nh n y (nI w)) (pPin M1 R a h nh n y (nI w)) a h T v m d (b + 2) r n c := by
  have o1 : ∀ x, (x < d ∨ d + 6 ≤ x) → M1 x = M x := fun x hx => by rw [hM1, jup_row _ _ (by omega)]
  have J1 := LJ_law J hvd hdm o1
  have hvm := J.1.2.2.2.2.2.2.2.2.2
  obtain ⟨n0, n1, n2, n3, n4, n5, n6, n7⟩ := J.num
  obtain ⟨md, eq, nh', I3⟩ := st_pin J1.1 J1.2.1 y (nI w)
  generalize hM2 : mPin M1 R a h nh n y (nI w) = M2 at md eq I3 ⊢
  have em2 : M2 (m + 1) = M (m + 1) := by rw [md _ (by omega), o1 _ (by omega)]
  have z1 : ¬ zLast (zPlc (M2 (m + 1)) y) n < 0 := by rw [em2, hz]; exact nI_pos (by omega)
  have z2 : ¬ rIn (nI w) (nI 0) (nI 1) = 0 := by rw [lIn_y (Nat.zero_le w) (show w ≤ 1 by omega) (by decide)]; decide
  have ez : zmPin M2 m nh n y (nI w) = jup (mChg M2 m nh) (m + 1) (367 + 9 * q + 7) (nI w) := by rw [zmPin, if_neg z1, if_neg z2, em2, hz, nI_clamp (by omega)]
  rw [zfPin, if_neg z1, if_neg z2, ez] at eq
  rw [ez] at I3
  generalize hM3 : jup (mChg M2 m nh) (m + 1) (367 + 9 * q + 7) (nI w) = M3 at I3 eq
  have lo : ∀ y, y < m → M3 y = M2 y := fun y hy => by rw [← hM3, jup_row _ _ (by omega), mChg_o _ (by omega) (by omega)]
  have eS : ∀ j, j ≠ 367 + 9 * q + 7 → M3 (m + 1) j = M (m + 1) j := fun j hj => by rw [← hM3, jup_nk _ _ hj, mChg_o _ (by omega) (by omega), em2]
  have eK : M3 (m + 1) (367 + 9 * q + 7) = nI w := by rw [← hM3, jup_eq]
  have el : M3 m 4 = nI 0 := by rw [← hM3, jup_row _ _ (by omega), mChg_k _ (by decide), md _ (by omega), o1 _ (by omega)]; exact n6
  have Z := zRd_of J.2.1 A.2.2.2.2.2.2.1
  have Q := zPn_of J.2.1 A.2.2.2.2.2.2.2.2 hb
  obtain ⟨a1, a2, a3, a4, a5, a6, a7, a8, a9⟩ := A
  have mo : ∀ i, i < 4 ∨ i = 5 → M1 (d + i) = M (d + i) := fun i hi => by rw [hM1, jup_row _ _ (by omega)]
  have P1 : lPl M1 d (M3 (m + 1)) n := fun p hp => by
    by_cases pq : p = q
    · subst pq
      refine ⟨fun j hj => ?_, ?_, ?_⟩
      · rw [hM1, jup_nk _ _ (by omega), (a5 p hp).1 j hj, eS _ (by omega)]
      · rw [hM1, jup_eq, eK, eS _ (by omega), hs, pk_mul, nI_add, Nat.add_comm]
      · rw [hM1, jup_nk _ _ (by omega), (a5 p hp).2.2, eS _ (by omega)]
    · refine ⟨fun j hj => ?_, ?_, ?_⟩
      · rw [hM1, jup_nk _ _ (by omega), (a5 p hp).1 j hj, eS _ (by omega)]
      · rw [hM1, jup_nk _ _ (by omega), (a5 p hp).2.1, eS _ (by omega), eS _ (by omega)]
      · rw [hM1, jup_nk _ _ (by omega), (a5 p hp).2.2, eS _ (by omega)]
  have Q1 : zPn (M3 (m + 1)) n := fun p hp => by
    rw [eS (367 + 9 * p + 6) (by omega)]
    refine ⟨?_, (Q p hp).2⟩
    by_cases pq : p = q
    · subst pq
      rw [eK]
      rcases (show w = 0 ∨ w = 1 by omega) with rfl | rfl
      · exact Or.inl rfl
      · exact Or.inr rfl
    · rw [eS _ (by omega)]
      exact (Q p hp).1
  refine ⟨J1, M3 (m + 1), P1, Q1, eq, op_mk (M1 := M1) I3 lo (fun y y1 y2 => md y (by omega)) hdm ?_ ((eS 0 (by omega)).trans n0) n1 ((eS 4 (by omega)).trans n2) n3 ((eS 3 (by omega)).trans n4) n5 el⟩
  refine ⟨fun i hi => by rw [show M1 d = M d from mo 0 (by decide), a1 i hi, eS _ (by omega)], fun i hi => by rw [mo 1 (by decide), a2 i hi, lPk_c (fun j hj => eS _ (by omega))], fun i hi => by rw [mo 2 (by decide), a3 i hi, eS _ (by omega)], lSt_c (zN4_of Z) a4 (mo 3 (by decide)) (fun j h1 h2 => eS j (by omega)), P1, lLs_c a6 (mo 5 (by decide)) (fun j h1 h2 => eS j (by omega)), xKn_c a7 (fun j hj => eS j (by omega)), xRn_c a8 (fun j hj => eS j (by omega)), fun p hp => ?_⟩
  obtain ⟨⟨s', s1, s2⟩, z, z1, z2⟩ := a9 p hp
  exact ⟨⟨s', by omega, by rw [eS _ (by omega)]; exact s2⟩, z, z1, by rw [eS _ (by omega)]; exact z2⟩
theorem op_drop (J : LJ M R a h T v m b nh r n c 0 f) (A : lA M d (M (m + 1)) r n c b) (hvd : v < d) (hdm : d + 6 ≤ m) {y : Int32} {q : Nat} (hq : q < n) (hz : zLast (zPlc (M (m + 1)) y) n = nI q) (hp : ¬ M (m + 1) (367 + 9 * q + 7) = nI 1) (hM1 : M1 = jup (lOut M d n q) d 10 (M (m + 1) 10 + nI 1)) :
    LJ M1 R a h T v m (b + 1) nh r n c 0 f ∧ fDrop M1 R a h nh n y = nI (n - 1) ∧ lOp (mDrop M1 R a h nh n y) (pDrop M1 R a h nh n y) a h T v m d (b + 2) r (n - 1) c := by
  have o1 : ∀ x, (x < d ∨ d + 6 ≤ x) → M1 x = M x := fun x hx => by rw [hM1, jup_row _ _ (by omega), lOut_o _ (by omega) (by omega)]
  have J1 := LJ_law J hvd hdm o1
  have hvm := J.1.2.2.2.2.2.2.2.2.2
  obtain ⟨n0, n1, n2, n3, n4, n5, n6, n7⟩ := J.num
  obtain ⟨md, eq, nh', I3⟩ := st_drop J1.1 J1.2.1 y
  generalize hM2 : mDrop M1 R a h nh n y = M2 at md eq I3 ⊢
  have em2 : M2 (m + 1) = M (m + 1) := by rw [md _ (by omega), o1 _ (by omega)]
  have z1 : 0 ≤ zLast (zPlc (M2 (m + 1)) y) n := by rw [em2, hz]; exact nI_pos' (by omega)
  have z2 : ¬ M2 (m + 1) (367 + 9 * (zLast (zPlc (M2 (m + 1)) y) n).toNatClampNeg + 7) = nI 1 := by rw [em2, hz, nI_clamp (by omega)]; exact hp
  have ez : zmDrop M2 m nh n y = jup (mOut (mChg M2 m nh) m n q) (m + 1) 10 (mOut (mChg M2 m nh) m n q (m + 1) 10 + nI 1) := by rw [zmDrop, if_pos z1, if_neg z2, em2, hz, nI_clamp (by omega)]
  rw [zfDrop, if_pos z1, if_neg z2] at eq
  rw [ez] at I3
  generalize hM3 : jup (mOut (mChg M2 m nh) m n q) (m + 1) 10 (mOut (mChg M2 m nh) m n q (m + 1) 10 + nI 1) = M3 at I3
  have emc : mChg M2 m nh (m + 1) = M (m + 1) := by rw [mChg_o _ (by omega) (by omega), em2]
  have lo : ∀ y, y < m → M3 y = M2 y := fun y hy => by rw [← hM3, jup_row _ _ (by omega), mOut_o _ (by omega), mChg_o _ (by omega) (by omega)]
  have eS : ∀ j, j < 367 → j ≠ 4 → j ≠ 10 → M3 (m + 1) j = M (m + 1) j := fun j h1 h2 h3 => by rw [← hM3, jup_nk _ _ h3, mOut_l _ h1 h2, emc]
  have e10 : M3 (m + 1) 10 = M (m + 1) 10 + nI 1 := by rw [← hM3, jup_eq, mOut_l _ (by decide) (by decide), emc]
  have e4 : M3 (m + 1) 4 = nI (n - 1) := by rw [← hM3, jup_nk _ _ (by decide)]; exact mOut_n _ _ _ _
  have eP : ∀ p, p < n - 1 → ∀ w, w < 9 → M3 (m + 1) (367 + 9 * p + w) = M (m + 1) (367 + 9 * outG q p + w) := fun p hp w hw => by rw [← hM3, jup_nk _ _ (by omega), mOut_pl _ _ hq hp hw, emc]
  have el : M3 m 4 = nI 0 := by rw [← hM3, jup_row _ _ (by omega), mOut_o _ (by omega), mChg_k _ (by decide), md _ (by omega), o1 _ (by omega)]; exact n6
  refine ⟨J1, eq, op_mk (M1 := M1) I3 lo (fun y y1 y2 => md y (by omega)) hdm ?_ ((eS 0 (by decide) (by decide) (by decide)).trans n0) n1 e4 (by omega) ((eS 3 (by decide) (by decide) (by decide)).trans n4) n5 el⟩
  have Z := zRd_of J.2.1 A.2.2.2.2.2.2.1
  obtain ⟨a1, a2, a3, a4, a5, a6, a7, a8, a9⟩ := A
  have mo : ∀ i, (0 < i ∧ i < 4) ∨ i = 5 → M1 (d + i) = M (d + i) := fun i hi => by rw [hM1, jup_row _ _ (by omega), lOut_o _ (by omega) (by omega)]
  have m4 : M1 (d + 4) = lOut M d n q (d + 4) := by rw [hM1, jup_row _ _ (by omega)]
  have P1 := lPl_out (S2 := M3 (m + 1)) a5 hq eP
  refine ⟨fun i hi => ?_, fun i hi => by rw [mo 1 (by decide), a2 i hi, lPk_c (fun j hj => eS _ (by omega) (by omega) (by omega))], fun i hi => by rw [mo 2 (by decide), a3 i hi, eS _ (by omega) (by omega) (by omega)], lSt_c (zN4_of Z) a4 (mo 3 (by decide)) (fun j h1 h2 => eS j (by omega) (by omega) (by omega)), fun p hp => by rw [m4]; exact P1 p hp, lLs_c a6 (mo 5 (by decide)) (fun j h1 h2 => eS j (by omega) (by omega) (by omega)), xKn_c a7 (fun j hj => eS j (by omega) (by omega) (by omega)), xRn_c a8 (fun j hj => eS j (by omega) (by omega) (by omega)), xSp_out a9 (by omega) hq eP⟩
  by_cases k0 : i = 10
  · rw [k0, hM1, jup_eq, e10]
  · rw [hM1, jup_nk _ _ k0]
    by_cases k4 : i = 4
    · rw [k4, lOut_4, e4]
    · rw [lOut_g _ k4, a1 i hi, eS i (by omega) k4 k0]
end LP2
