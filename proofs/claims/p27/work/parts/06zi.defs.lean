section DRO
variable {M M1 M2 N : jM} {R R1 : jR} {a h T v m b nh : Nat} {S S2 : Nat → Int32} {r n n' c b' k : Nat} {f f' : Nat → Nat}
/-- how rows of the model stand when one has left -/
def outG (p q : Nat) : Nat := if q < p then q else q + 1
theorem outG_lt {p q : Nat} (hp : p < n) (hq : q < n - 1) : outG p q < n := by
  unfold outG
  split <;> omega
theorem outG_inj {p i j : Nat} (e : outG p i = outG p j) : i = j := by
  unfold outG at e
  split at e <;> split at e <;> omega
theorem st_drop (I : eInv M R a h T v m b nh) (e : eR M R a (M (m + 1)) b r n c f) (p : Int32) : (∀ x, v < x → mDrop M R a h nh n p x = M x) ∧ fDrop M R a h nh n p = zfDrop (mDrop M R a h nh n p (m + 1)) n p ∧ ∃ nh', eInv (zmDrop (mDrop M R a h nh n p) m nh n p) (pDrop M R a h nh n p) a h T v m (b + 1) nh' := by
  obtain ⟨hk2, hk4, hn8, hf, hw, hv⟩ := e.2.2.2.2.2.2.2.1
  have hd := e.2.2.2.2.2.2.2.2
  obtain ⟨I1, I2, I3, I4, I5, I6, I7, I8, I9, I10⟩ := id I
  rcases sh_plc (b := a + 11) hf hw hd.num p with ⟨k, hk, e1, e2, e3⟩ | ⟨e1, e2, e3⟩
  · have e1' : fPlc M R a n p = nI k := e1
    have hne : ¬ nI k = -1 := nI_nem1 (by omega)
    have hfk := hf.1 k hk
    have hpos : 0 ≤ nI (f k) := nI_pos' (by omega)
    have e7 : M (pa R (a + 11) k) 7 = M (m + 1) (367 + 9 * f k + 7) := hw k hk 7 (by decide)
    have hB := (hv _ hfk).1
    by_cases c7 : M (m + 1) (367 + 9 * f k + 7) = 0
    · have c7' : ¬ M (m + 1) (367 + 9 * f k + 7) = nI 1 := by rw [c7]; decide
      obtain ⟨pe, pA, oa, ra⟩ := e_psh I e
      have hSR := I1.2.2.2.1.2.1
      have lohi : ∀ i, i < 8 → a + 14 ≤ pa R (a + 11) i ∧ pa R (a + 11) i < a + 22 := fun i hi => by
        obtain ⟨j0, hj0, ej0⟩ := hSR.rg hi
        omega
      have epa : ∀ i, pa (rPuR R h nh) (a + 11) i = pa R (a + 11) i := fun i => by simp only [pa]; rw [ra _ (by omega)]
      have q1 : mDrop M R a h nh n p = rThr (rPuM M R h a nh) (a + 11) n := by rw [mDrop, e1', if_neg hne, rPA_N R _ (by omega), e7, if_pos c7]
      have q2 : pDrop M R a h nh n p = jswap (rPuR R h nh) (a + 11) k (n - 1) := by rw [pDrop, e1', if_neg hne, rPA_N R _ (by omega), e7, if_pos c7, nI_clamp (by omega)]
      have o1 : ∀ x, x ≠ a + 11 → mDrop M R a h nh n p x = rPuM M R h a nh x := fun x hx => by rw [q1, rThr, jup_row _ _ hx, rRem, jup_row _ _ hx]
      have o2 : ∀ x, x ≠ a + 12 → pDrop M R a h nh n p x = rPuR R h nh x := fun x hx => by rw [q2, jswap, jup_row _ _ (by omega), jup_row _ _ (by omega)]
      have c1 : ∀ x, (x < a ∨ a + 43 ≤ x) → x ≠ v → mDrop M R a h nh n p x = rPuM M R h a nh x := fun x hx _ => o1 x (by omega)
      have md := e_mod I c1
      have q3 : zmDrop (mDrop M R a h nh n p) m nh n p = jup (mOut (mChg (mDrop M R a h nh n p) m nh) m n (f k)) (m + 1) 10 (mOut (mChg (mDrop M R a h nh n p) m nh) m n (f k) (m + 1) 10 + nI 1) := by rw [zmDrop, md (m + 1) (by omega), e2, if_pos hpos, nI_clamp (by omega), if_neg c7']
      have em : mChg (mDrop M R a h nh n p) m nh (m + 1) = M (m + 1) := by rw [mChg_o _ (by omega) (by omega), md (m + 1) (by omega)]
      have s1 : ∀ j, j < 367 → j ≠ 4 → j ≠ 10 → zmDrop (mDrop M R a h nh n p) m nh n p (m + 1) j = M (m + 1) j := fun j h1 h2 h3 => by rw [q3, jup_nk _ _ h3, mOut_l _ h1 h2, em]
      have s4 : zmDrop (mDrop M R a h nh n p) m nh n p (m + 1) 4 = nI (n - 1) := by rw [q3, jup_nk _ _ (by decide), mOut_n]
      have s10 : zmDrop (mDrop M R a h nh n p) m nh n p (m + 1) 10 = M (m + 1) 10 + nI 1 := by rw [q3, jup_eq, mOut_l _ (by decide) (by decide), em]
      have sw : ∀ q, q < n - 1 → ∀ w, w < 9 → zmDrop (mDrop M R a h nh n p) m nh n p (m + 1) (367 + 9 * q + w) = M (m + 1) (367 + 9 * outG (f k) q + w) := fun q hq w hw9 => by rw [q3, jup_nk _ _ (by omega), mOut_w hfk hq hw9, em, outG]
      have k11 : ∀ j, j ≠ 2 → j ≠ 5 → mDrop M R a h nh n p (a + 11) j = M (a + 11) j := fun j h1 h2 => by rw [q1, rThr, jup_nk _ _ h2, rRem, jup_nk _ _ h1, oa _ (by omega)]
      refine ⟨md, ?_, hNp nh, ?_⟩
      · rw [fDrop, e1', if_neg hne, rPA_N R _ (by omega), e7, if_pos c7, rThr_k, md (m + 1) (by omega), zfDrop, e2, if_pos hpos, nI_clamp (by omega), if_neg c7']
      · refine e_op I c1 (fun x hx => o2 x (by omega)) (fun x h1 h2 h3 => by rw [q3, jup_row _ _ h2, mOut_o _ h2]) (fun j hj => by rw [q3, jup_row _ _ (by omega), mOut_o _ (by omega)]) ⟨r, n - 1, c, remF f n k, ?_⟩ ?_
        · refine eR_shelf pe (fun x h1 h2 h3 => o1 x (by omega)) (by rw [o1 _ (by omega)]) (fun j hj => s1 j (by omega) (by omega) (by omega)) ?_ ?_ ?_
          · obtain ⟨t1, t2, t3, t4, t5, t6, t7⟩ := pe.2.2.2.2.2.1
            refine ⟨by rw [o1 _ (by omega), t1, s1 _ (by decide) (by decide) (by decide)], by rw [o1 _ (by omega), t2, s1 _ (by decide) (by decide) (by decide)], by rw [o1 _ (by omega), t3, s1 _ (by decide) (by decide) (by decide)], by rw [o1 _ (by omega), t4, s1 _ (by decide) (by decide) (by decide)], ?_, ?_, ?_⟩
            · rw [k11 _ (by decide) (by decide), s1 _ (by decide) (by decide) (by decide), ← t5, oa _ (by omega)]
            · rw [k11 _ (by decide) (by decide), s1 _ (by decide) (by decide) (by decide), ← t6, oa _ (by omega)]
            · rw [s10, q1, rThr, jup_eq, t7]
          · refine ⟨by rw [q1, rThr_k], s4, by omega, rem_bij hf hk, ?_, eVal_g (g := outG (f k)) hv (fun q hq => outG_lt hfk hq) (fun q hq => ⟨sw q hq 1 (by decide), sw q hq 3 (by decide), by rw [sw q hq 7 (by decide)]; exact (hv _ (outG_lt hfk hq)).1⟩) (fun t ht => zN_c (by have := e.2.2.2.1.2.2.1; omega) (fun j h1 h2 => s1 j (by omega) (by omega) (by omega)))⟩
            rw [q2]
            refine rem_wds (M := M) (R := rPuR R h nh) (S := M (m + 1)) hf hk ?_ ?_ sw
            · intro i hi w hw9
              rw [epa]
              exact hw i hi w hw9
            · intro i hi w hw9
              have l := lohi i (by omega)
              rw [epa, o1 _ (by omega), oa _ (by omega)]
          · exact eDis_g (g := outG (f k)) hd (fun q hq => outG_lt hfk hq) (fun _ _ _ _ q => outG_inj q) (fun q hq w hw' => sw q hq w (by omega)) (s1 _ (by decide) (by decide) (by decide)) (s1 _ (by decide) (by decide) (by decide)) (Nat.le_succ b)
        · rw [q2]
          exact SA_swap pA (by omega) (by omega) (fun x h1 h2 => o1 x (by omega))
    · have c7' : M (m + 1) (367 + 9 * f k + 7) = nI 1 := hB.n1 c7
      have q1 : mDrop M R a h nh n p = M := by rw [mDrop, e1', if_neg hne, rPA_N R _ (by omega), e7, if_neg c7]
      have q2 : pDrop M R a h nh n p = R := by rw [pDrop, e1', if_neg hne, rPA_N R _ (by omega), e7, if_neg c7]
      rw [q1, q2]
      refine ⟨fun _ _ => rfl, ?_, nh, ?_⟩
      · rw [fDrop, e1', if_neg hne, rPA_N R _ (by omega), e7, if_neg c7, zfDrop, e2, if_pos hpos, nI_clamp (by omega), if_pos c7']
      · rw [zmDrop, e2, if_pos hpos, nI_clamp (by omega), if_pos c7']
        exact e_same0 I
  · have e1' : fPlc M R a n p = -1 := e1
    have q1 : mDrop M R a h nh n p = M := by rw [mDrop, e1', if_pos rfl]
    have q2 : pDrop M R a h nh n p = R := by rw [pDrop, e1', if_pos rfl]
    rw [q1, q2]
    refine ⟨fun _ _ => rfl, ?_, nh, ?_⟩
    · rw [fDrop, e1', if_pos rfl, zfDrop, e2, if_neg (by decide)]
    · rw [zmDrop, e2, if_neg (by decide)]
      exact e_same0 I
theorem set_rg : ∀ j, j ≤ 4 → ∀ x : Int32, rIn x (rAt jLeast 5 (nI j)) (rAt jMost 5 (nI j)) = zBad (nI j) x := by
  intro j hj x
  match j, hj with
  | 0, _ => rfl
  | 1, _ => rfl
  | 2, _ => rfl
  | 3, _ => rfl
  | 4, _ => rfl
theorem st_set (I : eInv M R a h T v m b nh) (e : eR M R a (M (m + 1)) b r n c f) (w x : Int32) : (∀ y, v < y → mSet M R a h nh w x y = M y) ∧ fSet M R a h nh w x = zfSet (mSet M R a h nh w x (m + 1)) w x ∧ ∃ nh', eInv (zmSet (mSet M R a h nh w x) m nh w x) (pSet R h nh w x) a h T v m (b + 1) nh' := by
  obtain ⟨I1, I2, I3, I4, I5, I6, I7, I8, I9, I10⟩ := id I
  by_cases cw : rIn w (nI 0) (nI 4) = 0
  · have q1 : mSet M R a h nh w x = M := by rw [mSet, if_pos cw]
    rw [q1, pSet, if_pos cw]
    refine ⟨fun _ _ => rfl, ?_, nh, ?_⟩
    · rw [fSet, if_pos cw, zfSet, if_pos cw]
    · rw [zmSet, if_pos cw]
      exact e_same0 I
  · obtain ⟨j, hj, rfl⟩ := rIn_N (by decide) cw
    have er := set_rg j hj x
    by_cases cx : zBad (nI j) x = 0
    · have cx' := er.trans cx
      have q1 : mSet M R a h nh (nI j) x = M := by rw [mSet, if_neg cw, if_pos cx']
      rw [q1, pSet, if_neg cw, if_pos cx']
      refine ⟨fun _ _ => rfl, ?_, nh, ?_⟩
      · rw [fSet, if_neg cw, if_pos cx', zfSet, if_neg cw, if_pos cx]
      · rw [zmSet, if_neg cw, if_pos cx]
        exact e_same0 I
    · have cx' : ¬ rIn x (rAt jLeast 5 (nI j)) (rAt jMost 5 (nI j)) = 0 := by rw [er]; exact cx
      obtain ⟨pe, pA, oa, ra⟩ := e_psh I e
      have ej : (nI j).toNatClampNeg = j := nI_clamp (by omega)
      have q1 : mSet M R a h nh (nI j) x = jup (rPuM M R h a nh) (a + 24) j x := by rw [mSet, if_neg cw, if_neg cx', ej]
      have q2 : pSet R h nh (nI j) x = rPuR R h nh := by rw [pSet, if_neg cw, if_neg cx']
      have o1 : ∀ y, y ≠ a + 24 → mSet M R a h nh (nI j) x y = rPuM M R h a nh y := fun y hy => by rw [q1, jup_row _ _ hy]
      have c1 : ∀ y, (y < a ∨ a + 43 ≤ y) → y ≠ v → mSet M R a h nh (nI j) x y = rPuM M R h a nh y := fun y hy _ => o1 y (by omega)
      have md := e_mod I c1
      have q3 : zmSet (mSet M R a h nh (nI j) x) m nh (nI j) x = jup (mChg (mSet M R a h nh (nI j) x) m nh) (m + 1) (11 + j) x := by rw [zmSet, if_neg cw, if_neg cx, ej]
      have s1 : ∀ i, i ≠ 11 + j → zmSet (mSet M R a h nh (nI j) x) m nh (nI j) x (m + 1) i = M (m + 1) i := fun i hi => by rw [q3, jup_nk _ _ hi, mChg_o _ (by omega) (by omega), md (m + 1) (by omega)]
      have s2 : zmSet (mSet M R a h nh (nI j) x) m nh (nI j) x (m + 1) (11 + j) = x := by rw [q3, jup_eq]
      obtain ⟨h1, h2, h3, h4, h5, h6, h7, h8, h9⟩ := pe
      have hc6 := h4.2.2.1
      have ez : ∀ t, t < c → zN (zmSet (mSet M R a h nh (nI j) x) m nh (nI j) x (m + 1)) t = zN (M (m + 1)) t := fun t ht => zN_c (by omega) (fun i _ _ => s1 i (by omega))
      refine ⟨md, ?_, hNp nh, ?_⟩
      · rw [fSet, if_neg cw, if_neg cx', ej, md (m + 1) (by omega), zfSet, if_neg cw, if_neg cx, ej]
        exact h5.1 j (by omega)
      · rw [q2]
        refine e_op I c1 (fun _ _ => rfl) (fun y h1 h2 h3 => by rw [q3, jup_row _ _ h2]) (fun i hi => by rw [q3, jup_row _ _ (by omega)]) ⟨r, n, c, f, ?_⟩ ⟨pA.1, pA.2.1, fun i hi => by
          obtain ⟨j0, hj0, ej0⟩ := pA.2.1.rg hi
          rw [o1 _ (by omega)]
          exact pA.2.2.1 i hi, by rw [o1 _ (by omega)]; exact pA.2.2.2.1, by rw [o1 _ (by omega)]; exact pA.2.2.2.2⟩
        · refine ⟨eTab_c h1 (by rw [o1 _ (by omega)]) (fun i _ => by rw [o1 _ (by omega)]) (fun i _ => s1 i (by omega)), eSum_c h2 h1.2.2.1 (by rw [o1 _ (by omega)]) (fun i _ => by rw [o1 _ (by omega)]) (fun i _ _ => s1 i (by omega)),
            eKno_c h3 (by rw [o1 _ (by omega)]) (fun i _ => by rw [o1 _ (by omega)]) (fun i _ => s1 i (by omega)),
            eStm_c h4 (by rw [o1 _ (by omega)]) (fun t ht i _ _ => by rw [o1 _ (by omega)]) (fun t ht k hk => ⟨by rw [o1 _ (by omega)], by rw [o1 _ (by omega)]⟩) (fun i _ => s1 i (by omega)), ?_,
            eCnt_c h6 ⟨by rw [o1 _ (by omega)], by rw [o1 _ (by omega)], by rw [o1 _ (by omega)], by rw [o1 _ (by omega)]⟩ ⟨by rw [o1 _ (by omega)], by rw [o1 _ (by omega)], by rw [o1 _ (by omega)]⟩ (fun i _ _ => s1 i (by omega)),
            eLst_c h7 (Nat.le_refl c) (fun i _ _ => by rw [o1 _ (by omega)]) (fun k _ => by rw [o1 _ (by omega)]) (fun i _ _ => s1 i (by omega)) ez,
            eShf_c h8 (Nat.le_refl c) (by rw [o1 _ (by omega)]) (fun k hk w hw => ?_) (fun i _ => s1 i (by omega)) ez, eDis_c h9 h8.2.2.1 (Nat.le_succ b) (fun i _ => s1 i (by omega))⟩
          · refine ⟨fun k hk => ?_, ?_⟩
            · by_cases d : k = j
              · subst d
                rw [s2, q1, jup_eq]
              · rw [s1 _ (by omega), q1, jup_nk _ _ d]
                exact h5.1 k hk
            · by_cases d : j = 4
              · subst d
                have cx2 : ¬ rIn x (nI 1) (nI 8) = 0 := cx
                obtain ⟨k, k1, k2, rfl⟩ := rIn_of cx2 (by decide) (by decide)
                exact ⟨k, k2, k1, s2⟩
              · rw [s1 _ (by omega)]
                exact h5.2
          · obtain ⟨j0, hj0, ej0⟩ := pA.2.1.rg hk
            rw [o1 _ (by omega)]
end DRO
