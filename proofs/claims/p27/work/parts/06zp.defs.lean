section IDY
variable {M M1 M2 N : jM} {R R1 : jR} {a h T v m b nh : Nat} {S S2 V : Nat → Int32} {r n n' c b' k len : Nat} {f f' : Nat → Nat}
theorem st_index (I : eInv M R a h T v m b nh) (e : eR M R a (M (m + 1)) b r n c f) (x w : Int32) : (∀ y, v < y → mIndex M R a h nh n x w y = M y) ∧ fIndex M R a h nh n x w = zfIndex (mIndex M R a h nh n x w) m nh n x w ∧ ∃ nh', eInv (zmIndex (mIndex M R a h nh n x w) m nh n x w) (pIndex M R a h nh n x w) a h T v m (b + 1) nh' := by
  obtain ⟨I1, I2, I3, I4, I5, -, I7, I8, I9, I10⟩ := id I
  obtain ⟨hk2, hk4, hn8, hf, hw, hv⟩ := e.2.2.2.2.2.2.2.1
  have hd := e.2.2.2.2.2.2.2.2
  have hS := e.2.2.2.1
  have hc6 := hS.2.2.1
  have e7 := e.2.2.2.2.2.1.1
  have eix : rIdx M a x = zIdx (M (m + 1)) x := by rw [rIdx, zIdx, e7]
  by_cases c0 : rIn x (nI 0) (nI 3) = 0
  · have q1 : mIndex M R a h nh n x w = M := by rw [mIndex, if_pos c0]
    have q2 : pIndex M R a h nh n x w = R := by rw [pIndex, if_pos c0]
    rw [q1, q2]
    refine ⟨fun _ _ => rfl, by rw [fIndex, if_pos c0, zfIndex, if_pos c0], nh, ?_⟩
    rw [zmIndex, if_pos c0]
    exact e_same0 I
  by_cases c1 : rIn w (nI 0) (nI 1) = 0
  · have q1 : mIndex M R a h nh n x w = M := by rw [mIndex, if_neg c0, if_pos c1]
    have q2 : pIndex M R a h nh n x w = R := by rw [pIndex, if_neg c0, if_pos c1]
    rw [q1, q2]
    refine ⟨fun _ _ => rfl, by rw [fIndex, if_neg c0, if_pos c1, zfIndex, if_neg c0, if_pos c1], nh, ?_⟩
    rw [zmIndex, if_neg c0, if_pos c1]
    exact e_same0 I
  by_cases c2 : zIdx (M (m + 1)) x = (if w = nI 1 then nI 1 else nI 0)
  · have c2' := eix.trans c2
    have q1 : mIndex M R a h nh n x w = M := by rw [mIndex, if_neg c0, if_neg c1, if_pos c2']
    have q2 : pIndex M R a h nh n x w = R := by rw [pIndex, if_neg c0, if_neg c1, if_pos c2']
    rw [q1, q2]
    refine ⟨fun _ _ => rfl, by rw [fIndex, if_neg c0, if_neg c1, if_pos c2', zfIndex, if_neg c0, if_neg c1, if_pos c2], nh, ?_⟩
    rw [zmIndex, if_neg c0, if_neg c1, if_pos c2]
    exact e_same0 I
  have c2' : ¬ rIdx M a x = (if w = nI 1 then nI 1 else nI 0) := by rw [eix]; exact c2
  obtain ⟨pe, pA, oa, ra⟩ := e_psh I e
  have hSR := I1.2.2.2.1.2.1
  have epa : ∀ i, pa (rPuR R h nh) (a + 11) i = pa R (a + 11) i := fun i => by simp only [pa]; rw [ra _ (by omega)]
  have lohi : ∀ i, i < 8 → a + 14 ≤ pa R (a + 11) i ∧ pa R (a + 11) i < a + 22 := fun i hi => by
    obtain ⟨j0, hj0, ej0⟩ := hSR.rg hi
    omega
  have ob : ∀ y, y ≠ a → m2Idx M R a h nh x y = rPuM M R h a nh y := fun y hy => by rw [m2Idx, jup_row _ _ hy]
  have ob8 : ∀ j, j ≠ 7 → m2Idx M R a h nh x a j = M a j := fun j hj => by rw [m2Idx, jup_nk _ _ hj, oa _ (by omega)]
  have ob7 : m2Idx M R a h nh x a 7 = M (m + 1) 1 ^^^ (nI 1 <<< (x &&& 31)) := by rw [m2Idx, jup_eq, oa _ (by omega), e7]
  by_cases c3 : w = nI 1
  · have w0 : ¬ w = 0 := by rw [c3]; decide
    have q1 : mIndex M R a h nh n x w = m2Idx M R a h nh x := by rw [mIndex, if_neg c0, if_neg c1, if_neg c2', if_pos c3]
    have q2 : pIndex M R a h nh n x w = rPuR R h nh := by rw [pIndex, if_neg c0, if_neg c1, if_neg c2', if_pos c3]
    have c1' : ∀ y, (y < a ∨ a + 43 ≤ y) → y ≠ v → mIndex M R a h nh n x w y = rPuM M R h a nh y := fun y hy _ => by rw [q1, ob y (by omega)]
    have md := e_mod I c1'
    have emm : mIndex M R a h nh n x w (m + 1) = M (m + 1) := md _ (by omega)
    have eX : zIxR (mIndex M R a h nh n x w) m nh n x w = (zIxM (mIndex M R a h nh n x w) m nh x, n, 0) := by rw [zIxR, ix_no w0]
    have q3 : zmIndex (mIndex M R a h nh n x w) m nh n x w = jup (zIxM (mIndex M R a h nh n x w) m nh x) (m + 1) 10 (zIxM (mIndex M R a h nh n x w) m nh x (m + 1) 10 + nI 0) := by rw [zmIndex, if_neg c0, if_neg c1, emm, if_neg c2, eX]
    have ex : ∀ j, j ≠ 1 → zIxM (mIndex M R a h nh n x w) m nh x (m + 1) j = M (m + 1) j := fun j hj => by rw [zIxM, jup_nk _ _ hj, mChg_o _ (by omega) (by omega), emm]
    have s1 : ∀ j, j ≠ 1 → zmIndex (mIndex M R a h nh n x w) m nh n x w (m + 1) j = M (m + 1) j := fun j hj => by
      rw [q3]
      by_cases d : j = 10
      · subst d
        rw [jup_eq, ex _ hj, nI_0, Int32.add_zero]
      · rw [jup_nk _ _ d, ex _ hj]
    have sa1 : zmIndex (mIndex M R a h nh n x w) m nh n x w (m + 1) 1 = M (m + 1) 1 ^^^ (nI 1 <<< (x &&& 31)) := by rw [q3, jup_nk _ _ (by decide), zIxM, jup_eq, emm]
    refine ⟨md, ?_, hNp nh, ?_⟩
    · rw [fIndex, if_neg c0, if_neg c1, if_neg c2', if_pos c3, zfIndex, if_neg c0, if_neg c1, emm, if_neg c2, eX]
    · rw [q2]
      refine e_op I c1' (fun _ _ => rfl) (fun y h1 h2 h3 => by rw [q3, jup_row _ _ h2, zIxM, jup_row _ _ h2]) (fun i hi => by rw [q3, jup_row _ _ (by omega), zIxM, jup_row _ _ (by omega)]) ⟨r, n, c, f, ?_⟩ ⟨pA.1, pA.2.1, fun i hi => by
            obtain ⟨j0, hj0, ej0⟩ := pA.2.1.rg hi
            rw [q1, ob _ (by omega)]
            exact pA.2.2.1 i hi, by rw [q1, ob _ (by omega)]; exact pA.2.2.2.1, by rw [q1, ob _ (by omega)]; exact pA.2.2.2.2⟩
      obtain ⟨t1, t2, t3, t4, t5, t6, t7⟩ := e.2.2.2.2.2.1
      refine eR_shelf pe (fun y h1 h2 h3 => by rw [q1, ob y (by omega)]) (by rw [q1, ob8 _ (by decide), oa _ (by omega)]) (fun j hj => s1 j (by omega)) ⟨by rw [sa1, q1, ob7], by rw [s1 _ (by decide), q1, ob8 _ (by decide), t2], by rw [s1 _ (by decide), q1, ob8 _ (by decide), t3], by rw [s1 _ (by decide), q1, ob8 _ (by decide), t4], by rw [s1 _ (by decide), q1, ob _ (by omega), oa _ (by omega), t5], by rw [s1 _ (by decide), q1, ob _ (by omega), oa _ (by omega), t6], by rw [s1 _ (by decide), q1, ob _ (by omega), oa _ (by omega), t7]⟩
        (eShf_c pe.2.2.2.2.2.2.2.1 (Nat.le_refl c) (by rw [q1, ob _ (by omega)]) (fun k hk y hy => by
          have l := lohi k hk
          rw [epa, q1, ob _ (by omega)]) (fun j _ => s1 j (by omega)) (fun t ht => zN_c (by omega) (fun j _ _ => s1 j (by omega)))) (eDis_c hd hn8 (Nat.le_succ b) (fun j _ => s1 j (by omega)))
  · have w0 : w = nI 0 := by
      obtain ⟨j, hj, rfl⟩ := rIn_N (by decide) c1
      have : j ≠ 1 := fun q => c3 (by rw [q])
      rw [show j = 0 by omega]
    -- the class's loop
    have hB2 : m2Idx M R a h nh x (a + 11) 2 = nI n := by rw [ob _ (by omega), oa _ (by omega)]; exact hk2
    have hBR : SR (rPuR R h nh) (a + 11) := pA.2.1
    obtain ⟨g1, i1, i2, i3, i4, i5, i6, i7, i8, i9, i10⟩ := tb_inv (a := a) (c := x) n n (m2Idx M R a h nh x) (rPuR R h nh) (Nat.le_refl n) hn8 hBR hB2 (fun i h1 h2 => absurd h2 (by omega))
    have q1 : mIndex M R a h nh n x w = (rTB a x n n (m2Idx M R a h nh x) (rPuR R h nh)).1 := by rw [mIndex, if_neg c0, if_neg c1, if_neg c2', if_neg c3]
    have q2 : pIndex M R a h nh n x w = (rTB a x n n (m2Idx M R a h nh x) (rPuR R h nh)).2.1 := by rw [pIndex, if_neg c0, if_neg c1, if_neg c2', if_neg c3]
    have q0 : fIndex M R a h nh n x w = nI n - nI (rTB a x n n (m2Idx M R a h nh x) (rPuR R h nh)).2.2 := by rw [fIndex, if_neg c0, if_neg c1, if_neg c2', if_neg c3]
    rw [← q1] at i5 i6 i7 i8
    rw [← q2] at i9 i10
    generalize hX : rTB a x n n (m2Idx M R a h nh x) (rPuR R h nh) = X at *
    have c1' : ∀ y, (y < a ∨ a + 43 ≤ y) → y ≠ v → mIndex M R a h nh n x w y = rPuM M R h a nh y := fun y hy _ => by rw [i7 y (by omega), ob y (by omega)]
    have md := e_mod I c1'
    have emm : mIndex M R a h nh n x w (m + 1) = M (m + 1) := md _ (by omega)
    -- the model's loop
    have ex : ∀ j, j ≠ 1 → zIxM (mIndex M R a h nh n x w) m nh x (m + 1) j = M (m + 1) j := fun j hj => by rw [zIxM, jup_nk _ _ hj, mChg_o _ (by omega) (by omega), emm]
    have hzp : zPl (zIxM (mIndex M R a h nh n x w) m nh x) m n := fun q hq => by
      obtain ⟨-, t, t1, t2, y, t3, t4⟩ := hv q hq
      have := (hS.2.2.2 t t1).1.2.2.2.1
      exact ⟨t, y, by omega, by omega, by rw [ex _ (by omega)]; exact t2, by rw [ex _ (by omega)]; exact t4⟩
    obtain ⟨g2, k1, k2, k3, k4, k5, k6, k7, k8, k9⟩ := ix_inv (m := m) (c := x) n n (zIxM (mIndex M R a h nh n x w) m nh x) 0 (Nat.le_refl n) hn8 (by rw [ex _ (by decide)]; exact hk4) hzp (fun q h1 h2 => absurd h2 (by omega))
    have eX : zIxR (mIndex M R a h nh n x w) m nh n x w = zIx m x (nI 0) n n (zIxM (mIndex M R a h nh n x w) m nh x) 0 := by rw [zIxR, w0]
    rw [← eX] at k1 k2 k3 k4 k5 k6 k7 k8 k9
    have q3 : zmIndex (mIndex M R a h nh n x w) m nh n x w = jup (zIxR (mIndex M R a h nh n x w) m nh n x w).1 (m + 1) 10 ((zIxR (mIndex M R a h nh n x w) m nh n x w).1 (m + 1) 10 + nI (zIxR (mIndex M R a h nh n x w) m nh n x w).2.2) := by rw [zmIndex, if_neg c0, if_neg c1, emm, if_neg c2]
    -- they throw the same away
    have eg : ∀ i, i < n → gBk (m2Idx M R a h nh x) (rPuR R h nh) a x i = zGo (zIxM (mIndex M R a h nh n x w) m nh x) m x (nI 0) (f i) := fun i hi => by
      have l := lohi i (by omega)
      obtain ⟨-, t, t1, t2, y, t3, t4⟩ := hv _ (hf.1 i hi)
      have hst := hS.2.2.2 t t1
      have h4' := hst.1.2.2.2.1
      have hfi := hf.1 i hi
      have w1 : m2Idx M R a h nh x (pa (rPuR R h nh) (a + 11) i) 1 = nI t := by rw [epa, ob _ (by omega), oa _ (by omega), ← t2]; exact hw i hi 1 (by decide)
      have w3 : m2Idx M R a h nh x (pa (rPuR R h nh) (a + 11) i) 3 = nI y := by rw [epa, ob _ (by omega), oa _ (by omega), ← t4]; exact hw i hi 3 (by decide)
      have z1 : zIxM (mIndex M R a h nh n x w) m nh x (m + 1) (367 + 9 * f i + 1) = nI t := by rw [ex _ (by omega)]; exact t2
      have z3 : zIxM (mIndex M R a h nh n x w) m nh x (m + 1) (367 + 9 * f i + 3) = nI y := by rw [ex _ (by omega)]; exact t4
      unfold gBk gB zGo
      rw [w1, w3, z1, z3, nI_clamp (by omega), nI_clamp (by omega), rSA_N a (by omega), ← nI_0, decide_eq_true (rfl : nI 0 = nI 0), Bool.and_true]
      rcases t3 with rfl | t3
      · simp
      · rw [rCol, rAt_N _ (by omega) (by decide), ob _ (by omega), oa _ (by omega), (hst.2.2.2.2 y t3).1, ex _ (by omega)]
        by_cases d : nI y = nI 9
        · simp [d]
        · simp [d]
    have en : X.2.2 = (zIxR (mIndex M R a h nh n x w) m nh n x w).2.1 := by
      rw [i3, k4, ← rCnt_bij n f (fun q => !zGo (zIxM (mIndex M R a h nh n x w) m nh x) m x (nI 0) q) hf]
      refine rCnt_congr (fun i hi => ?_)
      rw [eg i hi]
    have hex : ∀ i, i < X.2.2 → ∃ j, j < X.2.2 ∧ g2 j = f (g1 i) := fun i hi => by
      obtain ⟨a1, a2, a3⟩ := i1 i hi
      rw [eg _ a1] at a3
      obtain ⟨j, j1, j2⟩ := k3 _ (hf.1 _ a1) a3
      exact ⟨j, by rw [en]; exact j1, j2⟩
    have hch : ∃ fn : Nat → Nat, ∀ i, i < X.2.2 → fn i < X.2.2 ∧ g2 (fn i) = f (g1 i) := ⟨fun i => if hi : i < X.2.2 then (hex i hi).choose else 0, fun i hi => by
      show (if hi' : i < X.2.2 then (hex i hi').choose else 0) < X.2.2 ∧ g2 (if hi' : i < X.2.2 then (hex i hi').choose else 0) = f (g1 i)
      rw [dif_pos hi]
      exact (hex i hi).choose_spec⟩
    obtain ⟨fn, hfn⟩ := hch
    have hbij : eBij fn X.2.2 := ⟨fun i hi => (hfn i hi).1, fun i j hi hj q => by
      have a1 := (hfn i hi).2
      have a2 := (hfn j hj).2
      rw [q, a2] at a1
      exact i2 i j hi hj (hf.2 _ _ (i1 i hi).1 (i1 j hj).1 a1.symm)⟩
    have s1 : ∀ j, j < 367 → j ≠ 1 → j ≠ 4 → j ≠ 10 → zmIndex (mIndex M R a h nh n x w) m nh n x w (m + 1) j = M (m + 1) j := fun j h1 h2 h3 h4 => by rw [q3, jup_nk _ _ h4, k7 j h1 h3, ex j h2]
    have sa1 : zmIndex (mIndex M R a h nh n x w) m nh n x w (m + 1) 1 = M (m + 1) 1 ^^^ (nI 1 <<< (x &&& 31)) := by rw [q3, jup_nk _ _ (by decide), k7 1 (by decide) (by decide), zIxM, jup_eq, emm]
    have s4 : zmIndex (mIndex M R a h nh n x w) m nh n x w (m + 1) 4 = nI X.2.2 := by rw [q3, jup_nk _ _ (by decide), k6, en]
    have s10 : zmIndex (mIndex M R a h nh n x w) m nh n x w (m + 1) 10 = M (m + 1) 10 + nI (n - X.2.2) := by rw [q3, jup_eq, k7 10 (by decide) (by decide), ex _ (by decide), k9, en, Nat.zero_add]
    have sw : ∀ j, j < X.2.2 → ∀ y, y < 9 → zmIndex (mIndex M R a h nh n x w) m nh n x w (m + 1) (367 + 9 * j + y) = M (m + 1) (367 + 9 * g2 j + y) := fun j hj y hy => by
      have hj' : j < (zIxR (mIndex M R a h nh n x w) m nh n x w).2.1 := by rw [← en]; exact hj
      rw [q3, jup_nk _ _ (by omega), (k1 j hj').2.1 y hy, ex _ (by omega)]
    have g2lt : ∀ j, j < X.2.2 → g2 j < n := fun j hj => (k1 j (by rw [← en]; exact hj)).1
    have o1 : ∀ y, y ≠ a → y ≠ a + 11 → mIndex M R a h nh n x w y = rPuM M R h a nh y := fun y h1 h2 => by rw [i7 y h2, ob y h1]
    refine ⟨md, ?_, hNp nh, ?_⟩
    · rw [q0, pk_sub i4, zfIndex, if_neg c0, if_neg c1, emm, if_neg c2, k9, en, Nat.zero_add]
    · refine e_op I c1' (fun y hy => i10 y (by omega)) (fun y h1 h2 h3 => by rw [q3, jup_row _ _ h2, k8 y h2, zIxM, jup_row _ _ h2]) (fun i hi => by rw [q3, jup_row _ _ (by omega), k8 m (by omega), zIxM, jup_row _ _ (by omega)]) ⟨r, X.2.2, c, fn, ?_⟩ ⟨fun j hj => by rw [i10 _ (by omega)]; exact pA.1 j hj, i9, fun i hi => ?_, by rw [o1 _ (by omega) (by omega)]; exact pA.2.2.2.1, by rw [o1 _ (by omega) (by omega)]; exact pA.2.2.2.2⟩
      · obtain ⟨t1, t2, t3, t4, t5, t6, t7⟩ := e.2.2.2.2.2.1
        refine eR_shelf pe (fun y h1 h2 h3 => o1 y (by omega) (by omega)) (by rw [i7 _ (by omega), ob8 _ (by decide), oa _ (by omega)]) (fun j hj => s1 j (by omega) (by omega) (by omega) (by omega)) ⟨by rw [i7 _ (by omega), ob7, sa1], by rw [i7 _ (by omega), ob8 _ (by decide), t2, s1 _ (by decide) (by decide) (by decide) (by decide)], by rw [i7 _ (by omega), ob8 _ (by decide), t3, s1 _ (by decide) (by decide) (by decide) (by decide)], by rw [i7 _ (by omega), ob8 _ (by decide), t4, s1 _ (by decide) (by decide) (by decide) (by decide)], by rw [i8 _ (by decide) (by decide), ob _ (by omega), oa _ (by omega), t5, s1 _ (by decide) (by decide) (by decide) (by decide)], by rw [i8 _ (by decide) (by decide), ob _ (by omega), oa _ (by omega), t6, s1 _ (by decide) (by decide) (by decide) (by decide)], by rw [i6, ob _ (by omega), oa _ (by omega), t7, s10]⟩
          ⟨i5, s4, by omega, hbij, fun i hi y hy => ?_, eVal_g (g := g2) hv g2lt (fun q hq => ⟨sw q hq 1 (by decide), sw q hq 3 (by decide), by rw [sw q hq 7 (by decide)]; exact (hv _ (g2lt q hq)).1⟩) (fun t ht => zN_c (by omega) (fun j _ _ => s1 j (by omega) (by omega) (by omega) (by omega)))⟩
          (eDis_g (g := g2) hd g2lt (fun p q hp hq => k2 p q (by rw [← en]; exact hp) (by rw [← en]; exact hq)) (fun q hq y hy => sw q hq y (by omega)) (s1 _ (by decide) (by decide) (by decide) (by decide)) (s1 _ (by decide) (by decide) (by decide) (by decide)) (Nat.le_succ b))
        obtain ⟨a1, a2, a3⟩ := i1 i hi
        have l := lohi (g1 i) (by omega)
        rw [q2, a2, epa, o1 _ (by omega) (by omega), oa _ (by omega), hw _ a1 y hy, sw _ (hfn i hi).1 y hy, (hfn i hi).2]
      · obtain ⟨j0, hj0, ej0⟩ := i9.rg hi
        obtain ⟨j, hj, ej⟩ := SR_sur hSR hj0
        have := pA.2.2.1 j hj
        rw [epa, ej] at this
        rw [ej0, o1 _ (by omega) (by omega)]
        exact this
end IDY
