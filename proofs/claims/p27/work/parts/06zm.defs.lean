section DRW
variable {M M1 M2 N : jM} {R R1 : jR} {a h T v m b nh : Nat} {S S2 : Nat → Int32} {r n n' c b' k len : Nat} {f f' : Nat → Nat}
theorem st_drow (I : eInv M R a h T v m b nh) (e : eR M R a (M (m + 1)) b r n c f) (x : Int32) : (∀ y, v < y → mDrow M R a h nh r x y = M y) ∧ fDrow M R a h nh x = zfDrow (mDrow M R a h nh r x (m + 1)) x ∧ ∃ nh', eInv (zmDrow (mDrow M R a h nh r x) m nh r x) (pDrow M R a h nh x) a h T v m (b + 1) nh' := by
  obtain ⟨I1, I2, I3, I4, I5, -, I7, I8, I9, I10⟩ := id I
  obtain ⟨b1, b2, b3, b4, b5, b6⟩ := e.1
  have e0 : rHasR M (a + 1) x = zIs (M (m + 1) 0) x := by simp only [rHasR, zIs, b1, b2]
  by_cases c0 : zIs (M (m + 1) 0) x = 0
  · have c0' := e0.trans c0
    have q1 : mDrow M R a h nh r x = M := by rw [mDrow, if_pos c0']
    have q2 : pDrow M R a h nh x = R := by rw [pDrow, if_pos c0']
    rw [q1, q2]
    refine ⟨fun _ _ => rfl, by rw [fDrow, if_pos c0', zfDrow, if_pos c0], nh, ?_⟩
    rw [zmDrow, if_pos c0]
    exact e_same0 I
  · have c0' : ¬ rHasR M (a + 1) x = 0 := by rw [e0]; exact c0
    obtain ⟨p, hp, rfl⟩ := zIs_N b2 (by omega) c0
    obtain ⟨pe, pA, oa, ra⟩ := e_psh I e
    have ep : (nI p).toNatClampNeg = p := nI_clamp (by omega)
    have ew : rCell (rPuM M R h a nh) (a + 1) (nI p) (nI 4) = M (m + 1) (29 + 5 * p + 4) := by
      rw [rCell_N _ (by omega), oa _ (by omega), Nat.mul_comm p 5]
      exact b4 p hp 4 (by decide)
    generalize hw : M (m + 1) (29 + 5 * p + 4) = w at ew
    have q1 : mDrow M R a h nh r (nI p) = rShift (jup (rAddTo (rPuM M R h a nh) (a + 1) (nI p) (-w)) (a + 1) 2 (nI (r - 1))) (a + 1) p (5 * (r - 1)) := by
      rw [mDrow, if_neg c0', ep, rDel]
      simp only [ew]
    have q2 : pDrow M R a h nh (nI p) = rPuR R h nh := by rw [pDrow, if_neg c0']
    have hu : ∀ y, y < 4 → rPuM M R h a nh (a + 1 + 1) (p * 5 + y) = nI (zV (M (m + 1)) p y) ∧ zV (M (m + 1)) p y < 32 := fun y hy => by
      rw [oa _ (by omega), Nat.mul_comm p 5]
      exact ⟨(b4 p hp y (by omega)).trans (b5 p hp y hy).1, (b5 p hp y hy).2⟩
    obtain ⟨A1, A2⟩ := rAddTo_at (rPuM M R h a nh) (w := -w) (by omega) hu
    have o1 : ∀ y, (y < a + 1 ∨ a + 5 ≤ y) → mDrow M R a h nh r (nI p) y = rPuM M R h a nh y := fun y hy => by rw [q1, rShift_o _ (by omega), jup_row _ _ (by omega), rAddTo_o _ (by omega) (by omega)]
    have r2 : mDrow M R a h nh r (nI p) (a + 1) 2 = nI (r - 1) := by rw [q1, rShift_o _ (by omega), jup_eq]
    have rc : ∀ k, k < r - 1 → ∀ y, y < 5 → mDrow M R a h nh r (nI p) (a + 2) (5 * k + y) = M (a + 2) (5 * outG p k + y) := fun k hk y hy => by
      rw [q1]
      unfold rShift outG
      by_cases d : k < p
      · rw [if_neg (by omega), if_pos d, jup_row _ _ (by omega), rAddTo_o _ (by omega) (by omega), oa _ (by omega)]
      · rw [if_pos ⟨rfl, by omega, by omega⟩, if_neg d, jup_row _ _ (by omega), rAddTo_o _ (by omega) (by omega), oa _ (by omega)]
        exact congrArg (M (a + 2)) (by omega)
    have c1 : ∀ y, (y < a ∨ a + 43 ≤ y) → y ≠ v → mDrow M R a h nh r (nI p) y = rPuM M R h a nh y := fun y hy _ => o1 y (by omega)
    have md := e_mod I c1
    have q3 : zmDrow (mDrow M R a h nh r (nI p)) m nh r (nI p) = zTo (mChg (mDrow M R a h nh r (nI p)) m nh) m 0 5 (r - 1) (29 + 5 * p) (5 * (r - 1 - p)) := by rw [zmDrow, md (m + 1) (by omega), if_neg c0, ep]
    have em : mChg (mDrow M R a h nh r (nI p)) m nh (m + 1) = M (m + 1) := by rw [mChg_o _ (by omega) (by omega), md (m + 1) (by omega)]
    have s1 : ∀ j, j ≠ 0 → (j < 29 ∨ 179 ≤ j) → zmDrow (mDrow M R a h nh r (nI p)) m nh r (nI p) (m + 1) j = M (m + 1) j := fun j hj hj2 => by
      rw [q3]
      unfold zTo
      rw [if_pos rfl, if_neg hj, if_neg (by omega), em]
    have s0 : zmDrow (mDrow M R a h nh r (nI p)) m nh r (nI p) (m + 1) 0 = nI (r - 1) := by rw [q3, zTo_c]
    have sk : ∀ k, k < r - 1 → ∀ y, y < 5 → zmDrow (mDrow M R a h nh r (nI p)) m nh r (nI p) (m + 1) (29 + 5 * k + y) = M (m + 1) (29 + 5 * outG p k + y) := fun k hk y hy => by
      rw [q3]
      unfold zTo outG
      rw [if_pos rfl, if_neg (by omega)]
      by_cases d : k < p
      · rw [if_neg (by omega), if_pos d, em]
      · rw [if_pos (by omega), if_neg d, em]
        exact congrArg (M (m + 1)) (by omega)
    refine ⟨md, ?_, hNp nh, ?_⟩
    · rw [fDrow, if_neg c0', ew, md (m + 1) (by omega), zfDrow, if_neg c0, ep, hw]
    · rw [q2]
      refine e_op I c1 (fun _ _ => rfl) (fun y h1 h2 h3 => by rw [q3, zTo_o _ h2]) (fun i hi => by rw [q3, zTo_o _ (by omega)]) ⟨r - 1, n, c, f, ?_⟩ ⟨pA.1, pA.2.1, fun i hi => by
            obtain ⟨j0, hj0, ej0⟩ := pA.2.1.rg hi
            rw [o1 _ (by omega)]
            exact pA.2.2.1 i hi, by rw [o1 _ (by omega)]; exact pA.2.2.2.1, by rw [o1 _ (by omega)]; exact pA.2.2.2.2⟩
      have hU := e.2.1
      refine eR_table pe pA.2.1 (fun x h1 h2 h3 => o1 x h3) (fun j h0 hj => s1 j h0 hj) ⟨r2, s0, by omega, fun k hk y hy => ?_, fun k hk y hy => ?_, fun k hk => ?_⟩ ⟨fun x hx y hy => ?_, ?_⟩ (Nat.le_succ b)
      · rw [rc k hk y hy, sk k hk y hy]
        exact b4 _ (outG_lt hp hk) y hy
      · rw [zV, sk k hk y (by omega)]
        exact b5 _ (outG_lt hp hk) y hy
      · rw [sk k hk 4 (by decide)]
        exact b6 _ (outG_lt hp hk)
      · have e1 : mDrow M R a h nh r (nI p) (a + 4) (32 * x + y) = M (a + 4) (32 * x + y) + (if zV (M (m + 1)) p x = y then -w else 0) := by
          rw [q1, rShift_o _ (by omega), jup_row _ _ (by omega)]
          refine (A1 x hx y hy).trans ?_
          rw [oa _ (by omega)]
        have e2 : sI (eOne (zmDrow (mDrow M R a h nh r (nI p)) m nh r (nI p) (m + 1)) x y) (r - 1) = sI (fun k => eOne (M (m + 1)) x y (outG p k)) (r - 1) := sI_congr (fun k hk => by rw [eOne, eOne, sk k hk x (by omega), sk k hk 4 (by decide)])
        have e3 := sI_out (eOne (M (m + 1)) x y) r hp
        rw [e1, hU.1 x hx y hy, e2, ← e3, eOne, (b5 p hp x hx).1, hw]
        by_cases d : zV (M (m + 1)) p x = y
        · rw [if_pos d, if_pos (by rw [d]), Int32.add_assoc, Int32.add_right_neg, Int32.add_zero]
        · rw [if_neg d, if_neg (fun q => d ((nI_eq (by have := (b5 p hp x hx).2; omega) (by omega)).mp q)), nI_0, Int32.add_zero, Int32.add_zero]
      · have e1 : mDrow M R a h nh r (nI p) (a + 3) 1 = M (a + 3) 1 + -w := by
          rw [q1, rShift_o _ (by omega), jup_row _ _ (by omega)]
          refine A2.trans ?_
          rw [oa _ (by omega)]
        have e2 : sI (zRowW (zmDrow (mDrow M R a h nh r (nI p)) m nh r (nI p) (m + 1))) (r - 1) = sI (fun k => zRowW (M (m + 1)) (outG p k)) (r - 1) := sI_congr (fun k hk => by rw [zRowW, zRowW, sk k hk 4 (by decide)])
        have e3 := sI_out (zRowW (M (m + 1))) r hp
        rw [e1, hU.2, e2, ← e3]
        show _ + M (m + 1) (29 + 5 * p + 4) + -w = _
        rw [hw, Int32.add_assoc, Int32.add_right_neg, Int32.add_zero]
theorem st_undo (I : eInv M R a h T v m b nh) : (∀ y, v < y → mUndo M R a h nh y = M y) ∧ fUndo nh = zfUndo nh ∧ ∃ nh', eInv (zmUndo (mUndo M R a h nh) m nh) R a h T v m (b + 1) nh' := by
  obtain ⟨⟨hs, hk, hn, hA, hH⟩, I2, I3, I4, I5, ⟨len, I6⟩, I7, I8, I9, I10⟩ := id I
  by_cases c0 : nh = 0
  · have c0' : nI nh = 0 := by rw [c0]; exact nI_0
    have q1 : mUndo M R a h nh = M := by rw [mUndo, if_pos c0']
    rw [q1]
    refine ⟨fun _ _ => rfl, by rw [fUndo, if_pos c0', zfUndo, if_pos c0], nh, ?_⟩
    rw [zmUndo, if_pos c0]
    exact e_same0 I
  · have c0' : ¬ nI nh = 0 := nI_ne0 (by omega) (by omega)
    have q1 : mUndo M R a h nh = jup (kState M R (sa R h (nh - 1)) a) h 1 (nI (nh - 1)) := by rw [mUndo, if_neg c0']
    have lohi : ∀ i, i < 4 → h + 2 ≤ sa R h i ∧ sa R h i + 43 ≤ h + 174 := fun i hi => by
      obtain ⟨i', _, ei⟩ := hs.rg hi
      omega
    have l := lohi (nh - 1) (by omega)
    have o1 : ∀ y, (y < a ∨ a + 43 ≤ y) → y ≠ h → mUndo M R a h nh y = M y := fun y hy hy2 => by rw [q1, jup_row _ _ hy2, kState_o _ hA.2.1 (by omega)]
    have qb : eqB M R (sa R h (nh - 1)) (mUndo M R a h nh) R a := eqB_trans (eqB_copy hA.2.1 (hH (nh - 1) (by omega)).2.1 (by omega)) (eqB_same hA.2.1 (fun x h1 h2 => by rw [q1]; exact jup_row _ _ (by omega)) rfl)
    have md : ∀ y, v < y → mUndo M R a h nh y = M y := fun y hy => o1 y (by omega) (by omega)
    have q3 : zmUndo (mUndo M R a h nh) m nh = zBk (jup (mUndo M R a h nh) m 2 (nI (nh - 1))) m (nh - 1) 439 := by rw [zmUndo, if_neg c0]
    have ox : ∀ y, y ≠ m → y ≠ m + 1 → zmUndo (mUndo M R a h nh) m nh y = mUndo M R a h nh y := fun y h1 h2 => by rw [q3, zBk_o _ h2, jup_row _ _ h1]
    refine ⟨md, by rw [fUndo, if_neg c0', zfUndo, if_neg c0], nh - 1, ⟨hs, ?_, by omega, ?_, fun i hi => ?_⟩, ?_, fun i hi => ?_, ?_, ?_, ⟨len, I6.1, ?_, ?_, fun k hk => ?_⟩, I7, I8, I9, I10⟩
    · rw [ox _ (by omega) (by omega), q1, jup_eq]
    · exact SA_same (SA_eqB (hH (nh - 1) (by omega)) qb hA.1 hA.2.1) (fun x h1 h2 => ox x (by omega) (by omega)) (fun _ _ _ => rfl)
    · have l2 := lohi i hi
      exact SA_same (hH i hi) (fun x h1 h2 => by rw [ox x (by omega) (by omega), o1 x (by omega) (by omega)]) (fun _ _ _ => rfl)
    · rw [q3, zBk_o _ (by omega), jup_eq]
    · have l2 := lohi i (by omega)
      refine eRep_c (I3 i (by omega)) (eqB_same (hH i (by omega)).2.1 (fun x h1 h2 => by rw [ox x (by omega) (by omega), o1 x (by omega) (by omega)]) rfl) (fun j hj => ?_) (Nat.le_succ b)
      show zmUndo (mUndo M R a h nh) m nh (m + 2) (439 * i + j) = _
      rw [ox _ (by omega) (by omega), md _ (by omega)]
    · refine eRep_c (I3 (nh - 1) (by omega)) (eqB_trans qb (eqB_same hA.2.1 (fun x h1 h2 => ox x (by omega) (by omega)) rfl)) (fun j hj => ?_) (Nat.le_succ b)
      rw [q3]
      simp only [zBk]
      rw [if_pos ⟨trivial, hj⟩, jup_row _ _ (by omega), md _ (by omega)]
    · exact TC_o I5 (by rw [ox _ (by omega) (by omega), o1 _ (by omega) (by omega)])
    · rw [ox _ (by omega) (by omega), o1 _ (by omega) (by omega)]
      exact I6.2.1
    · rw [q3, zBk_o _ (by omega), jup_nk _ _ (by decide), md _ (by omega)]
      exact I6.2.2.1
    · rw [ox _ (by omega) (by omega), o1 _ (by omega) (by omega), ox _ (by omega) (by omega), md _ (by omega)]
      exact I6.2.2.2 k hk
theorem e_txt (I : eInv M R a h T v m b nh) (hM : ∀ x, a ≤ x → x < T → M2 x = M x) (hm : M2 m 2 = M m 2) (hm1 : M2 (m + 1) = M (m + 1)) (hm2 : M2 (m + 2) = M (m + 2)) (hT : TC M2 T) (hx : eTxt M2 T m len) : eInv M2 R a h T v m (b + 1) nh := by
  obtain ⟨⟨p1, p2, p3, p4, p5⟩, I2, I3, I4, I5, I6, I7, I8, I9, I10⟩ := I
  have lohi : ∀ i, i < 4 → h + 2 ≤ sa R h i ∧ sa R h i + 43 ≤ h + 174 := fun i hi => by
    obtain ⟨i', _, ei⟩ := p1.rg hi
    omega
  refine ⟨⟨p1, by rw [hM _ (by omega) (by omega)]; exact p2, p3, SA_same p4 (fun x h1 h2 => hM x (by omega) (by omega)) (fun _ _ _ => rfl), fun i hi => ?_⟩, by rw [hm]; exact I2, fun i hi => ?_, ?_, hT, ⟨len, hx⟩, I7, I8, I9, I10⟩
  · have l := lohi i hi
    exact SA_same (p5 i hi) (fun x h1 h2 => hM x (by omega) (by omega)) (fun _ _ _ => rfl)
  · have l := lohi i (by omega)
    rw [hm2]
    exact eRep_c (I3 i hi) (eqB_same (p5 i (by omega)).2.1 (fun x h1 h2 => hM x (by omega) (by omega)) rfl) (fun _ _ => rfl) (Nat.le_succ b)
  · rw [hm1]
    exact eRep_c I4 (eqB_same p4.2.1 (fun x h1 h2 => hM x (by omega) (by omega)) rfl) (fun _ _ => rfl) (Nat.le_succ b)
theorem st_type (I : eInv M R a h T v m b nh) (hx : eTxt M T m len) (x : Int32) : (∀ y, v < y → mType M T len x y = M y) ∧ fType len x = zfType len x ∧ ∃ nh', eInv (zmType (mType M T len x) m len x) R a h T v m (b + 1) nh' := by
  obtain ⟨I1, I2, I3, I4, I5, -, I7, I8, I9, I10⟩ := id I
  obtain ⟨x1, x2, x3, x4⟩ := id hx
  refine ⟨fun y hy => ?_, q_type x1 x, nh, ?_⟩
  · unfold mType
    split
    · rfl
    · split
      · rw [jup_row _ _ (by omega), jup_row _ _ (by omega)]
      · rfl
  · by_cases c0 : rIn x (nI 32) (nI 126) = 0
    · rw [zmType, if_pos c0, mType, if_pos c0]
      exact e_same0 I
    · by_cases c1 : len = 30
      · subst c1
        rw [zmType, if_neg c0, if_pos rfl, mType, if_neg c0, if_neg (by decide)]
        exact e_same0 I
      · have c2 : nI len < nI 30 := (nI_ltI (by omega) (by decide)).mpr (by omega)
        have c3 : ¬ nI len = nI 30 := fun q => c1 ((nI_eq (by omega) (by decide)).mp q)
        rw [zmType, if_neg c0, if_neg c3, mType, if_neg c0, if_pos c2]
        refine e_txt (len := len + 1) I (fun x h1 h2 => by rw [jup_row _ _ (by omega), jup_row _ _ (by omega), jup_row _ _ (by omega), jup_row _ _ (by omega)]) ?_ ?_ ?_ (fun j hj => ?_) ⟨by omega, ?_, ?_, fun k hk => ?_⟩
        · rw [jup_nk _ _ (by decide), jup_row _ _ (by omega), jup_row _ _ (by omega), jup_row _ _ (by omega)]
        · rw [jup_row _ _ (by omega), jup_row _ _ (by omega), jup_row _ _ (by omega), jup_row _ _ (by omega)]
        · rw [jup_row _ _ (by omega), jup_row _ _ (by omega), jup_row _ _ (by omega), jup_row _ _ (by omega)]
        · rw [jup_row _ _ (by omega), jup_row _ _ (by omega), jup_row _ _ (by omega)]
          by_cases d : j = len
          · subst d
            obtain ⟨k, k1, k2, rfl⟩ := rIn_of c0 (by decide) (by decide)
            exact ⟨k, by omega, jup_eq _ _ _ _⟩
          · rw [jup_nk _ _ d]
            exact I5 j hj
        · rw [jup_row _ _ (by omega), jup_row _ _ (by omega), jup_eq]
        · rw [jup_eq]
        · rw [jup_row _ _ (by omega), jup_row _ _ (by omega), jup_row _ _ (by omega), jup_row _ _ (show m + 3 ≠ m by omega)]
          by_cases d : k = len
          · subst d
            rw [jup_eq, jup_eq]
          · rw [jup_nk _ _ d, jup_nk _ _ d, jup_row _ _ (by omega), jup_row _ _ (by omega)]
            exact x4 k (by omega)
theorem st_clear (I : eInv M R a h T v m b nh) (hx : eTxt M T m len) : (∀ y, v < y → jup M T 1 (nI 0) y = M y) ∧ M T 1 = jup M T 1 (nI 0) m 4 ∧ ∃ nh', eInv (jup (jup M T 1 (nI 0)) m 4 (nI 0)) R a h T v m (b + 1) nh' := by
  obtain ⟨I1, I2, I3, I4, I5, -, I7, I8, I9, I10⟩ := id I
  obtain ⟨x1, x2, x3, x4⟩ := id hx
  refine ⟨fun y hy => jup_row _ _ (by omega), by rw [jup_row _ _ (by omega), x2, x3], nh, ?_⟩
  refine e_txt (len := 0) I (fun x h1 h2 => by rw [jup_row _ _ (by omega), jup_row _ _ (by omega)]) ?_ ?_ ?_ ?_ ⟨by omega, ?_, ?_, fun k hk => absurd hk (Nat.not_lt_zero k)⟩
  · rw [jup_nk _ _ (by decide), jup_row _ _ (by omega)]
  · rw [jup_row _ _ (by omega), jup_row _ _ (by omega)]
  · rw [jup_row _ _ (by omega), jup_row _ _ (by omega)]
  · exact TC_o I5 (by rw [jup_row _ _ (by omega), jup_row _ _ (by omega)])
  · rw [jup_row _ _ (by omega), jup_eq]
  · rw [jup_eq]
end DRW
