section RNS
variable {M F N : jM} {R : jR} {a h T v m b nh r n c t : Nat} {f : Nat → Nat} {S V : Nat → Int32}
theorem zAl_iff {i : Nat} : ∀ k, ¬ zAl S V t i k = 0 ↔ ∀ j, j < k → ¬ zHold S V t j (S (29 + 5 * i + zCol S t j)) = 0
  | 0 => ⟨fun _ j hj => absurd hj (Nat.not_lt_zero j), fun _ => by show ¬ nI 1 = 0; decide⟩
  | k + 1 => by
    have ih := zAl_iff (i := i) k
    rw [zAl]
    by_cases c0 : zAl S V t i k = 0
    · rw [if_pos c0]
      exact ⟨fun e => absurd nI_0 e, fun e => absurd c0 (ih.mpr (fun j hj => e j (by omega)))⟩
    · rw [if_neg c0]
      have i1 := ih.mp c0
      by_cases c1 : zHold S V t k (S (29 + 5 * i + zCol S t k)) = 0
      · rw [if_pos c1]
        exact ⟨fun e => absurd nI_0 e, fun e => absurd c1 (e k (by omega))⟩
      · rw [if_neg c1]
        refine ⟨fun _ j hj => ?_, fun _ => by decide⟩
        by_cases d : j = k
        · subst d; exact c1
        · exact i1 j (by omega)
theorem rFit_iff {x y : Nat} {i : Int32} {q : Nat} : ¬ rFit M x y v i q = 0 ↔ ∀ j, j < q → rFitK M x y v i j = true := by
  unfold rFit
  by_cases c0 : (List.range q).all (rFitK M x y v i) = true
  · rw [if_pos c0]
    exact ⟨fun _ j hj => List.all_eq_true.mp c0 j (List.mem_range.mpr hj), fun _ => by decide⟩
  · rw [if_neg c0]
    exact ⟨fun e => absurd nI_0 e, fun e => absurd (List.all_eq_true.mpr (fun j hj => e j (List.mem_range.mp hj))) c0⟩
/-- the weights of the rows that fit -/
theorem q_run (hT : eTab F a S r) (hS : eStm F a S c) (ht : t < c) (hV : ∀ k, k < 4 → F v k = V k) : sI (rTWF F (a + 1) (a + 25 + 3 * t) v (zN S t)) r = sI (zAllF S V t (zN S t)) r := by
  obtain ⟨-, -, hc6, hs⟩ := hS
  obtain ⟨⟨ht6, -, -, h4, hcol⟩, hop, -, -, hw⟩ := hs t ht
  obtain ⟨-, -, hr30, ht4, hz, -⟩ := hT
  refine sI_congr (fun i hi => ?_)
  have ec : ∀ y, y < 5 → rCell F (a + 1) (nI i) (nI y) = S (29 + 5 * i + y) := fun y hy => by
    rw [rCell_N _ (by omega), Nat.mul_comm i 5]
    exact ht4 i hi y hy
  have ek : ∀ j, j < zN S t → (rFitK F (a + 1) (a + 25 + 3 * t) v (nI i) j = true ↔ ¬ zHold S V t j (S (29 + 5 * i + zCol S t j)) = 0) := fun j hj => by
    obtain ⟨o, ho, eo⟩ := hop j hj
    obtain ⟨c1, c2⟩ := hcol j hj
    have r1 : rCol F (a + 25 + 3 * t) (nI j) = nI (zCol S t j) := by rw [rCol, rAt_N _ (by omega) (by decide), (hw j hj).1, c1]
    have r2 : rOp F (a + 25 + 3 * t) (nI j) = nI o := by rw [rOp, rAt_N _ (by omega) (by decide), (hw j hj).2, eo]
    unfold rFitK
    rw [r1, r2, rAt_N _ (by omega) (by decide), hV j (by omega), ec _ (by omega), q_hold ho eo, decide_eq_true_eq]
  have e : (rFit F (a + 1) (a + 25 + 3 * t) v (nI i) (zN S t) = 0) ↔ (zAl S V t i (zN S t) = 0) := by
    have x1 := rFit_iff (M := F) (v := v) (x := a + 1) (y := a + 25 + 3 * t) (i := nI i) (q := zN S t)
    have x2 := zAl_iff (S := S) (V := V) (t := t) (i := i) (zN S t)
    have x3 : (¬ rFit F (a + 1) (a + 25 + 3 * t) v (nI i) (zN S t) = 0) ↔ ¬ zAl S V t i (zN S t) = 0 := by
      rw [x1, x2]
      exact ⟨fun q j hj => (ek j hj).mp (q j hj), fun q j hj => (ek j hj).mpr (q j hj)⟩
    exact ⟨fun q => Decidable.byContradiction fun q2 => x3.mpr q2 q, fun q => Decidable.byContradiction fun q2 => x3.mp q2 q⟩
  unfold rTWF zAllF
  by_cases d : zAl S V t i (zN S t) = 0
  · rw [if_pos (e.mpr d), if_pos d]
    exact nI_0.symm
  · rw [if_neg (fun q => d (e.mp q)), if_neg d]
    exact ec 4 (by decide)
theorem zVl_at : ∀ k, k ≤ 4 → ∀ j, j < k → zVl N m k (m + 1) (17 + j) = N (m + 4) j
  | 0, _, j, hj => absurd hj (Nat.not_lt_zero j)
  | k + 1, hk, j, hj => by
    rw [zVl]
    by_cases d : j = k
    · subst d
      rw [jup_eq]
    · rw [jup_nk _ _ (by omega)]
      exact zVl_at k (by omega) j (by omega)
theorem st_run (I : eInv M R a h T v m b nh) (e : eR M R a (M (m + 1)) b r n c f) (hb : b ≤ 100000) (s v0 v1 v2 v3 : Int32) : (∀ y, v < y → mRun M R a h v nh n s v0 v1 v2 v3 y = M y) ∧ fRun M R a h v nh n r s v0 v1 v2 v3 = zfRun (mRun M R a h v nh n s v0 v1 v2 v3) m nh r n s v0 v1 v2 v3 ∧
    ∃ nh', eInv (zmRun (mRun M R a h v nh n s v0 v1 v2 v3) m nh r n s v0 v1 v2 v3) (pRun M R a h v nh n s v0 v1 v2 v3) a h T v m (b + 1) nh' := by
  obtain ⟨I1, I2, I3, I4, I5, -, I7, I8, I9, I10⟩ := id I
  have hS := e.2.2.2.1
  have hc6 := hS.2.2.1
  by_cases c0 : rAcc M a s v0 v1 v2 v3 = 0
  · have q1 : mRun M R a h v nh n s v0 v1 v2 v3 = M := by rw [mRun, if_pos c0]
    have q2 : pRun M R a h v nh n s v0 v1 v2 v3 = R := by rw [pRun, if_pos c0]
    obtain ⟨b0, b1, b2, b3⟩ := mTk_v M m v0 v1 v2 v3
    have ea : rAcc M a s v0 v1 v2 v3 = zTks (M (m + 1)) (mTk M m v0 v1 v2 v3 (m + 4)) s := q_acc hS b0 b1 b2 b3
    have c0' := ea.symm.trans c0
    rw [q1, q2]
    refine ⟨fun _ _ => rfl, by rw [fRun, if_pos c0, zfRun, if_pos c0'], nh, ?_⟩
    rw [zmRun, if_pos c0']
    exact st_val I (fun x h1 h2 => mTk_o _ _ _ _ _ h2)
  · obtain ⟨t, ht, rfl⟩ := rAcc_s hS.1 hc6 c0
    obtain ⟨pe, pA, oa, ra⟩ := e_psh I e
    have et : (nI t).toNatClampNeg = t := nI_clamp (by omega)
    have q1 : mRun M R a h v nh n (nI t) v0 v1 v2 v3 = rExM (mGP M R a h v nh v0 v1 v2 v3) (rPuR R h nh) a (a + 25 + 3 * t) v t n (zN (M (m + 1)) t) := by rw [mRun, if_neg c0, rSA_N a (by omega), et, rNC_zN hS ht]
    have q2 : pRun M R a h v nh n (nI t) v0 v1 v2 v3 = rExR (mGP M R a h v nh v0 v1 v2 v3) (rPuR R h nh) a (a + 25 + 3 * t) v t n (zN (M (m + 1)) t) := by rw [pRun, if_neg c0, rSA_N a (by omega), et, rNC_zN hS ht]
    have q0 : fRun M R a h v nh n r (nI t) v0 v1 v2 v3 = sI (rTWF (mRun M R a h v nh n (nI t) v0 v1 v2 v3) (a + 1) (a + 25 + 3 * t) v (zN (M (m + 1)) t)) r := by rw [fRun, if_neg c0, q1, rSA_N a (by omega), et, rNC_zN hS ht]
    have hv : a + 43 ≤ v := by omega
    have eB : eR (mGP M R a h v nh v0 v1 v2 v3) (rPuR R h nh) a (M (m + 1)) b r n c f := eR_giv pe pA hv v0 v1 v2 v3
    have go : ∀ x, x ≠ v → mGP M R a h v nh v0 v1 v2 v3 x = rPuM M R h a nh x := fun x hx => rGiv_o _ hx
    have sB : SA (mGP M R a h v nh v0 v1 v2 v3) (rPuR R h nh) a := SA_same pA (fun x h1 h2 => go x (by omega)) (fun _ _ _ => rfl)
    have hGv : ∀ k, k < 4 → mGP M R a h v nh v0 v1 v2 v3 v k = mTk (mRun M R a h v nh n (nI t) v0 v1 v2 v3) m v0 v1 v2 v3 (m + 4) k := giv_tk _ _ _ _ _ _ _ _
    generalize hM1 : mRun M R a h v nh n (nI t) v0 v1 v2 v3 = M1 at *
    obtain ⟨b0, b1, b2, b3⟩ := mTk_v M1 m v0 v1 v2 v3
    have ea : rAcc M a (nI t) v0 v1 v2 v3 = zTks (M (m + 1)) (mTk M1 m v0 v1 v2 v3 (m + 4)) (nI t) := q_acc hS b0 b1 b2 b3
    have c0' : ¬ zTks (M (m + 1)) (mTk M1 m v0 v1 v2 v3 (m + 4)) (nI t) = 0 := by rw [← ea]; exact c0
    have hV2 : ∀ k, k < 4 → ¬ zTkF (mTk M1 m v0 v1 v2 v3 (m + 4)) (zN (M (m + 1)) t) k = 0 := by
      obtain ⟨t', ht', e1, e2⟩ := zTks_of hS.2.1 hc6 c0'
      have := (nI_eq (by omega) (by omega)).mp e1
      subst this
      exact e2
    -- the model's start, whatever the class's memory is above
    have zr0 : ∀ x, x ≠ m + 1 → zRn M1 m nh (nI t) v0 v1 v2 v3 x = mChg (mTk M1 m v0 v1 v2 v3) m nh x := fun x hx => by rw [zRn, zVl_o _ 4 hx, zRn0, jup_row _ _ hx]
    have zr4 : zRn M1 m nh (nI t) v0 v1 v2 v3 (m + 4) = mTk M1 m v0 v1 v2 v3 (m + 4) := by rw [zr0 _ (by omega), mChg_o _ (by omega) (by omega)]
    have zr16 : zRn M1 m nh (nI t) v0 v1 v2 v3 (m + 1) 16 = nI t := by rw [zRn, zVl_a _ _ (by omega), zRn0, jup_eq]
    have zr17 : ∀ k, k < 4 → zRn M1 m nh (nI t) v0 v1 v2 v3 (m + 1) (17 + k) = mTk M1 m v0 v1 v2 v3 (m + 4) k := fun k hk => by
      rw [zRn, zVl_at 4 (Nat.le_refl 4) k hk, zRn0, jup_row _ _ (by omega), mChg_o _ (by omega) (by omega)]
    have zrj : ∀ j, (j < 16 ∨ 20 < j) → zRn M1 m nh (nI t) v0 v1 v2 v3 (m + 1) j = M1 (m + 1) j := fun j hj => zRn_a hj
    have core := fun (hm : M1 (m + 1) = M (m + 1)) => run_core (Z0 := zRn M1 m nh (nI t) v0 v1 v2 v3) (V := mTk M1 m v0 v1 v2 v3 (m + 4)) (m := m) (v := v) eB sB ht hb (Or.inr hv) hGv hV2 (fun j hj => by rw [zrj j hj, hm]) zr16 zr17 zr4
    have md : ∀ y, v < y → M1 y = M y := by
      -- the frame alone does not need the model's words: a start that fits is given
      intro y hy
      have fr := run_core (Z0 := fun x j => if x = m + 1 then (if j = 16 then nI t else if 17 ≤ j ∧ j < 21 then mTk M1 m v0 v1 v2 v3 (m + 4) (j - 17) else M (m + 1) j) else mTk M1 m v0 v1 v2 v3 x j) (V := mTk M1 m v0 v1 v2 v3 (m + 4)) (m := m) (v := v) eB sB ht hb (Or.inr hv) hGv hV2 (fun j hj => by
          show (if m + 1 = m + 1 then _ else _) = _
          rw [if_pos rfl, if_neg (by omega), if_neg (by omega)]) (by
          show (if m + 1 = m + 1 then (if 16 = 16 then nI t else _) else _) = _
          rw [if_pos rfl, if_pos rfl]) (fun k hk => by
          show (if m + 1 = m + 1 then _ else _) = _
          rw [if_pos rfl, if_neg (by omega), if_pos (by omega), Nat.add_sub_cancel_left]) (by
          funext j
          show (if m + 4 = m + 1 then _ else _) = _
          rw [if_neg (by omega)])
      rw [← q1] at fr
      rw [fr.2.2.1 y (by omega), go y (by omega), rPuM_o I1 (by omega)]
    have hm1 : M1 (m + 1) = M (m + 1) := md _ (by omega)
    obtain ⟨⟨n2, f2, C1⟩, C2, C3, C4⟩ := core hm1
    rw [← q1, ← q2] at C1 C2
    rw [← q1] at C3
    rw [← q2] at C4
    have q3 : zmRun M1 m nh r n (nI t) v0 v1 v2 v3 = zGoes (zRn M1 m nh (nI t) v0 v1 v2 v3) m t r n (zN (M (m + 1)) t) := by rw [zmRun, hm1, if_neg c0', et]
    have hZ4 : zRn M1 m nh (nI t) v0 v1 v2 v3 (m + 1) 4 = nI n := by rw [zrj 4 (by decide), hm1]; exact e.2.2.2.2.2.2.2.1.2.1
    have go2 : ∀ x, x ≠ m + 1 → zGoes (zRn M1 m nh (nI t) v0 v1 v2 v3) m t r n (zN (M (m + 1)) t) x = zRn M1 m nh (nI t) v0 v1 v2 v3 x := fun x hx => zGoes_o hZ4 hx
    have ezn : zN (zGoes (zRn M1 m nh (nI t) v0 v1 v2 v3) m t r n (zN (M (m + 1)) t) (m + 1)) t = zN (M (m + 1)) t := by
      rw [zN, zGoes_s hZ4 (by omega) (by omega), zrj _ (by omega), hm1]
      rfl
    have emc : ∀ x, x ≠ m + 4 → mChg (mTk M1 m v0 v1 v2 v3) m nh x = mChg M1 m nh x := fun x hx => mChg_c (mTk_o _ _ _ _ _ (by omega)) (mTk_o _ _ _ _ _ (by omega)) (mTk_o _ _ _ _ _ hx)
    refine ⟨md, ?_, hNp nh, ?_⟩
    · have hq := q_run (V := mTk M1 m v0 v1 v2 v3 (m + 4)) (v := v) C1.1 C1.2.2.2.1 ht (fun k hk => by rw [C3 v (by omega)]; exact hGv k hk)
      rw [ezn] at hq
      rw [q0, hq, zfRun, hm1, if_neg c0', et, go2 (m + 4) (by omega), zr4]
    · rw [q3]
      refine e_op I (fun x hx hxv => by rw [C3 x hx, go x hxv]) C4 (fun x h1 h2 h3 => by rw [go2 x h2, zr0 x h2, emc x h3]) (fun j hj => by rw [go2 m (by omega), zr0 m (by omega), emc m (by omega)]) ⟨r, n2, c, f2, C1⟩ C2
end RNS
