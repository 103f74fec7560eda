section SHO
variable {M M1 M2 N : jM} {R R1 : jR} {a h T v m b nh : Nat} {S S2 : Nat → Int32} {r n n' c b' k : Nat} {f f' : Nat → Nat}
theorem e_same0 (I : eInv M R a h T v m b nh) : eInv M R a h T v m (b + 1) nh := e_same I (fun _ _ _ => rfl) (fun _ _ => rfl) rfl rfl rfl
def remF (f : Nat → Nat) (n k : Nat) : Nat → Nat := fun i => if f (if i = k then n - 1 else i) < f k then f (if i = k then n - 1 else i) else f (if i = k then n - 1 else i) - 1
theorem rem_st (hf : eBij f n) (hk : k < n) {i : Nat} (hi : i < n - 1) : (if i = k then n - 1 else i) < n ∧ (if i = k then n - 1 else i) ≠ k ∧ f (if i = k then n - 1 else i) ≠ f k ∧ f (if i = k then n - 1 else i) < n := by
  have h1 : (if i = k then n - 1 else i) < n ∧ (if i = k then n - 1 else i) ≠ k := by split <;> omega
  exact ⟨h1.1, h1.2, fun q => h1.2 (hf.2 _ _ h1.1 hk q), hf.1 _ h1.1⟩
theorem rem_bij (hf : eBij f n) (hk : k < n) : eBij (remF f n k) (n - 1) := by
  refine ⟨fun i hi => ?_, fun i j hi hj e => ?_⟩
  · obtain ⟨h1, h2, h3, h4⟩ := rem_st hf hk hi
    have := hf.1 k hk
    unfold remF
    generalize f (if i = k then n - 1 else i) = y at *
    split <;> omega
  · obtain ⟨h1, h2, h3, h4⟩ := rem_st hf hk hi
    obtain ⟨g1, g2, g3, g4⟩ := rem_st hf hk hj
    have e2 : f (if i = k then n - 1 else i) = f (if j = k then n - 1 else j) := by
      unfold remF at e
      generalize f (if i = k then n - 1 else i) = y at *
      generalize f (if j = k then n - 1 else j) = z at *
      split at e <;> split at e <;> omega
    have e3 := hf.2 _ _ h1 g1 e2
    split at e3 <;> split at e3 <;> omega
theorem rem_wds (hf : eBij f n) (hk : k < n) (hw : eWds M R b S n f) (hM : ∀ i, i < n → ∀ w, w < 9 → M1 (pa R b i) w = M (pa R b i) w) (hS : ∀ q, q < n - 1 → ∀ w, w < 9 → S2 (367 + 9 * q + w) = S (367 + 9 * (if q < f k then q else q + 1) + w)) : eWds M1 (jswap R b k (n - 1)) b S2 (n - 1) (remF f n k) := by
  intro i hi w hw9
  obtain ⟨h1, h2, h3, h4⟩ := rem_st hf hk hi
  have hq := (rem_bij hf hk).1 i hi
  have ep : pa (jswap R b k (n - 1)) b i = pa R b (if i = k then n - 1 else i) := by
    rw [pa_swap, if_neg (show ¬ i = n - 1 by omega)]
    split <;> rfl
  have eq : (if remF f n k i < f k then remF f n k i else remF f n k i + 1) = f (if i = k then n - 1 else i) := by
    unfold remF
    generalize f (if i = k then n - 1 else i) = y at *
    by_cases c : y < f k
    · rw [if_pos c, if_pos c]
    · rw [if_neg c, if_neg (by omega)]
      omega
  rw [ep, hM _ h1 w hw9, hw _ h1 w hw9, hS _ hq w hw9, eq]
theorem mOut_w {p q w : Nat} (hp : p < n) (hq : q < n - 1) (hw : w < 9) : mOut N m n p (m + 1) (367 + 9 * q + w) = N (m + 1) (367 + 9 * (if q < p then q else q + 1) + w) := by
  unfold mOut zTo
  rw [if_pos rfl, if_neg (show ¬ 367 + 9 * q + w = 4 by omega)]
  by_cases d : q < p
  · rw [if_neg (by omega), if_pos d]
  · rw [if_pos (by omega), if_neg d]
    exact congrArg (N (m + 1)) (by omega)
theorem SA_swap {p q : Nat} (H : SA M R a) (hp : p < 8) (hq : q < 8) (hM : ∀ x, a + 14 ≤ x → x < a + 23 → M1 x = M x) : SA M1 (jswap R (a + 11) p q) a := by
  obtain ⟨h1, h2, h3, h4, h5⟩ := H
  have hb : ∀ i, i < 8 → isB (M1 (pa R (a + 11) i) 7) := fun i hi => by
    obtain ⟨j, hj, ej⟩ := h2.rg hi
    rw [hM _ (by omega) (by omega)]
    exact h3 i hi
  refine ⟨SS_sw h1, SR_swap h2 hp hq, fun i hi => ?_, by rw [hM _ (by omega) (by omega)]; exact h4, by rw [hM _ (by omega) (by omega)]; exact h5⟩
  rw [pa_swap]
  split
  · exact hb p hp
  · split
    · exact hb q hq
    · exact hb i hi
theorem st_pin (I : eInv M R a h T v m b nh) (e : eR M R a (M (m + 1)) b r n c f) (p w : Int32) : (∀ x, v < x → mPin M R a h nh n p w x = M x) ∧ fPin M R a h nh n p w = zfPin (mPin M R a h nh n p w) m nh n p w ∧ ∃ nh', eInv (zmPin (mPin M R a h nh n p w) m nh n p w) (pPin M R a h nh n p w) a h T v m (b + 1) nh' := by
  obtain ⟨hk2, hk4, hn8, hf, hw, hv⟩ := e.2.2.2.2.2.2.2.1
  have hd := e.2.2.2.2.2.2.2.2
  obtain ⟨I1, I2, I3, I4, I5, I6, I7, I8, I9, I10⟩ := id I
  rcases sh_plc (b := a + 11) hf hw hd.num p with ⟨k, hk, e1, e2, e3⟩ | ⟨e1, e2, e3⟩
  · have e1' : fPlc M R a n p = nI k := e1
    have hne : ¬ nI k = -1 := nI_nem1 (by omega)
    have hfk := hf.1 k hk
    have hneg : ¬ nI (f k) < 0 := nI_pos (by omega)
    by_cases cw : rIn w (nI 0) (nI 1) = 0
    · have q1 : mPin M R a h nh n p w = M := by rw [mPin, e1', if_neg hne, if_pos cw]
      have q2 : pPin M R a h nh n p w = R := by rw [pPin, e1', if_neg hne, if_pos cw]
      rw [q1, q2]
      refine ⟨fun _ _ => rfl, ?_, nh, ?_⟩
      · rw [fPin, e1', if_neg hne, if_pos cw, zfPin, e2, if_neg hneg, if_pos cw]
      · rw [zmPin, e2, if_neg hneg, if_pos cw]
        exact e_same0 I
    · have hwB : isB w := by
        obtain ⟨j, hj, rfl⟩ := rIn_N (by decide) cw
        match j, hj with
        | 0, _ => exact Or.inl rfl
        | 1, _ => exact Or.inr rfl
      have hww : (if w = nI 1 then nI 1 else nI 0) = w := by
        rcases hwB with q | q <;> rw [q] <;> rfl
      obtain ⟨pe, pA, oa, ra⟩ := e_psh I e
      have hSR := I1.2.2.2.1.2.1
      obtain ⟨j0, hj0, ej0⟩ := hSR.rg (show k < 8 by omega)
      have q1 : mPin M R a h nh n p w = jup (rPuM M R h a nh) (pa R (a + 11) k) 7 w := by rw [mPin, e1', if_neg hne, if_neg cw, m2Pin, e1', rPA_N R _ (by omega), hww]
      have q2 : pPin M R a h nh n p w = rPuR R h nh := by rw [pPin, e1', if_neg hne, if_neg cw]
      have c1 : ∀ x, (x < a ∨ a + 43 ≤ x) → x ≠ v → mPin M R a h nh n p w x = rPuM M R h a nh x := fun x hx _ => by rw [q1, jup_row _ _ (by omega)]
      have md := e_mod I c1
      have q3 : zmPin (mPin M R a h nh n p w) m nh n p w = jup (mChg (mPin M R a h nh n p w) m nh) (m + 1) (367 + 9 * f k + 7) w := by rw [zmPin, md (m + 1) (by omega), e2, if_neg hneg, if_neg cw, nI_clamp (by omega)]
      have s1 : ∀ j, j ≠ 367 + 9 * f k + 7 → zmPin (mPin M R a h nh n p w) m nh n p w (m + 1) j = M (m + 1) j := fun j hj => by rw [q3, jup_nk _ _ hj, mChg_o _ (by omega) (by omega), md (m + 1) (by omega)]
      have s2 : zmPin (mPin M R a h nh n p w) m nh n p w (m + 1) (367 + 9 * f k + 7) = w := by rw [q3, jup_eq]
      have epa : ∀ i, pa (rPuR R h nh) (a + 11) i = pa R (a + 11) i := fun i => by simp only [pa]; rw [ra _ (by omega)]
      have hwd : eWds (mPin M R a h nh n p w) (rPuR R h nh) (a + 11) (zmPin (mPin M R a h nh n p w) m nh n p w (m + 1)) n f := fun i hi w' hw' => by
        obtain ⟨ji, hji, eji⟩ := hSR.rg (show i < 8 by omega)
        rw [epa]
        by_cases d : i = k
        · subst d
          by_cases d2 : w' = 7
          · subst d2
            rw [q1, jup_eq, ← q1, s2]
          · rw [s1 _ (by omega), q1, jup_nk _ _ d2, oa _ (by omega)]
            exact hw i hi w' hw'
        · have dp : pa R (a + 11) i ≠ pa R (a + 11) k := fun q => d (hSR.inj (by omega) (by omega) q)
          have df : f i ≠ f k := fun q => d (hf.2 i k hi hk q)
          rw [s1 _ (by omega), q1, jup_row _ _ dp, oa _ (by omega)]
          exact hw i hi w' hw'
      have hb2 : ∀ q, q < n → isB (zmPin (mPin M R a h nh n p w) m nh n p w (m + 1) (367 + 9 * q + 7)) := fun q hq => by
        by_cases d : q = f k
        · subst d; rw [s2]; exact hwB
        · rw [s1 _ (by omega)]; exact (hv q hq).1
      refine ⟨md, ?_, hNp nh, ?_⟩
      · rw [fPin, e1', if_neg hne, if_neg cw, zfPin, md (m + 1) (by omega), e2, if_neg hneg, if_neg cw, ← sh_pin hf hwd hb2, mPin, e1', if_neg hne, if_neg cw]
      · rw [q2]
        refine e_op I c1 (fun x hx => rfl) (fun x h1 h2 h3 => by rw [q3, jup_row _ _ h2]) (fun j hj => by rw [q3, jup_row _ _ (by omega)]) ⟨r, n, c, f, ?_⟩ ?_
        · refine eR_shelf pe (fun x h1 h2 h3 => by rw [q1, jup_row _ _ (by omega)]) (by rw [q1, jup_row _ _ (by omega)]) (fun j hj => s1 j (by omega)) ?_ ?_ ?_
          · exact eCnt_c pe.2.2.2.2.2.1 ⟨by rw [q1, jup_row _ _ (by omega)], by rw [q1, jup_row _ _ (by omega)], by rw [q1, jup_row _ _ (by omega)], by rw [q1, jup_row _ _ (by omega)]⟩ ⟨by rw [q1, jup_row _ _ (by omega)], by rw [q1, jup_row _ _ (by omega)], by rw [q1, jup_row _ _ (by omega)]⟩ (fun j h1 h2 => s1 j (by omega))
          · exact ⟨by rw [q1, jup_row _ _ (by omega), oa _ (by omega)]; exact hk2, by rw [s1 _ (by omega)]; exact hk4, hn8, hf, hwd, eVal_g (g := id) hv (fun q hq => hq) (fun q hq => ⟨s1 _ (by show 367 + 9 * q + 1 ≠ _; omega), s1 _ (by show 367 + 9 * q + 3 ≠ _; omega), hb2 q hq⟩) (fun t ht => zN_c (by have := e.2.2.2.1.2.2.1; omega) (fun j h1 h2 => s1 j (by omega)))⟩
          · exact eDis_g (g := id) hd (fun q hq => hq) (fun _ _ _ _ q => q) (fun q hq w' hw' => s1 _ (by omega)) (s1 _ (by omega)) (s1 _ (by omega)) (Nat.le_succ b)
        · obtain ⟨g1, g2, g3, g4, g5⟩ := pA
          refine ⟨g1, g2, fun i hi => ?_, by rw [q1, jup_row _ _ (by omega)]; exact g4, by rw [q1, jup_row _ _ (by omega)]; exact g5⟩
          have := g3 i hi
          rw [epa] at this ⊢
          by_cases d : i = k
          · subst d
            rw [q1, jup_eq]; exact hwB
          · rw [q1, jup_row _ _ (fun q => d (hSR.inj (by omega) (by omega) q))]
            exact this
  · have e1' : fPlc M R a n p = -1 := e1
    have q1 : mPin M R a h nh n p w = M := by rw [mPin, e1', if_pos rfl]
    have q2 : pPin M R a h nh n p w = R := by rw [pPin, e1', if_pos rfl]
    rw [q1, q2]
    refine ⟨fun _ _ => rfl, ?_, nh, ?_⟩
    · rw [fPin, e1', if_pos rfl, zfPin, e2, if_pos (by decide)]
    · rw [zmPin, e2, if_pos (by decide)]
      exact e_same0 I
end SHO
