/-- numbers of base three, the least first -/
def q3 (f : Nat → Int32) : Nat → Int32
  | 0 => nI 0
  | k + 1 => q3 f k + rWorth k * f k
theorem q3_s (f : Nat → Int32) (k : Nat) : q3 f (k + 1) = q3 f k + rWorth k * f k := rfl
theorem q3_peel (k : Nat) : ∀ f : Nat → Int32, q3 f (k + 1) = f 0 + nI 3 * q3 (fun i => f (i + 1)) k := by
  induction k with
  | zero =>
    intro f
    rw [q3_s]
    simp only [q3, rWorth]
    rw [show nI 0 = (0 : Int32) from nI_0, show nI 1 = (1 : Int32) by decide, Int32.zero_add, Int32.one_mul, Int32.mul_zero, Int32.add_zero]
  | succ k ih =>
    intro f
    have e3 : rWorth (k + 1) = rWorth k * nI 3 := rfl
    rw [q3_s, ih f, q3_s (fun i => f (i + 1)) k, e3, Int32.mul_add, Int32.add_assoc, Int32.mul_comm (rWorth k) (nI 3), Int32.mul_assoc]
theorem q3_congr {f g : Nat → Int32} {n : Nat} (h : ∀ k, k < n → f k = g k) : q3 f n = q3 g n := by
  induction n with
  | zero => rfl
  | succ n ih => rw [q3_s, q3_s, ih (fun k hk => h k (by omega)), h n (by omega)]
theorem rCls_q3 (M : jM) (a t v k : Nat) : rCls M a t v k = q3 (fun i => rShare M a (rShr M a t v i)) k := by
  induction k with
  | zero => rfl
  | succ k ih => rw [q3_s, ← ih, rCls]
theorem zCls_q3 (S V : Nat → Int32) (t n j : Nat) (hj : j ≤ n) : zCls S V t n j = q3 (fun i => zShare S (zShr S V t (n - j + i))) j := by
  induction j with
  | zero => rfl
  | succ j ih =>
    have e : q3 (fun i => zShare S (zShr S V t (n - j + i))) j = q3 (fun i => zShare S (zShr S V t (n - (j + 1) + (i + 1)))) j := q3_congr (fun i _ => by rw [show n - (j + 1) + (i + 1) = n - j + i by omega])
    rw [q3_peel, zCls, ih (by omega), e, Int32.add_comm, show n - (j + 1) + 0 = n - 1 - j by omega]
theorem q_cls {M : jM} {a c t v : Nat} {S V : Nat → Int32} (hK : eKno M a S) (hE : eSet M a S) (hS : eStm M a S c) (ht : t < c) (hV : ∀ k, k < 4 → M v k = V k) : rCls M a (a + 25 + 3 * t) v (zN S t) = zCls S V t (zN S t) (zN S t) := by
  have h4 : zN S t ≤ 4 := (hS.2.2.2 t ht).1.2.2.2.1
  rw [rCls_q3, zCls_q3 _ _ _ _ _ (Nat.le_refl _)]
  refine q3_congr (fun k hk => ?_)
  rw [Nat.sub_self, Nat.zero_add, q_shr hK hS ht hk (hV k (by omega)), q_share hE]
/-- the least of all ways: I says which there are, C what they cost; from lo on -/
def isBest (I : Nat → Prop) (C : Nat → Int32) (lo n w : Nat) : Prop := (w = 9 ∧ ∀ k, lo ≤ k → k < n → I k → C 9 < C k) ∨ (lo ≤ w ∧ w < n ∧ I w ∧ ¬ C 9 < C w ∧ ∀ k, lo ≤ k → k < n → I k → (k < w → C w < C k) ∧ ¬ C k < C w)
theorem isBest_uniq {I : Nat → Prop} {C : Nat → Int32} {lo n w1 w2 : Nat} (h1 : isBest I C lo n w1) (h2 : isBest I C lo n w2) : w1 = w2 := by
  rcases h1 with ⟨rfl, a1⟩ | ⟨a1, a2, a3, a4, a5⟩ <;> rcases h2 with ⟨rfl, b1⟩ | ⟨b1, b2, b3, b4, b5⟩
  · rfl
  · exact absurd (a1 w2 b1 b2 b3) b4
  · exact absurd (b1 w1 a1 a2 a3) a4
  · have c1 := a5 w2 b1 b2 b3
    have c2 := b5 w1 a1 a2 a3
    rcases Nat.lt_trichotomy w1 w2 with q | q | q
    · exact absurd (c2.1 q) c1.2
    · exact q
    · exact absurd (c1.1 q) c2.2
theorem i3_lt {x y z : Int32} (h1 : ¬ y < x) (h2 : ¬ z < y) : ¬ z < x := by
  simp only [Int32.lt_iff_toInt_lt] at *
  omega
theorem i3_ltl {x y z : Int32} (h1 : x < y) (h2 : ¬ z < y) : x < z := by
  simp only [Int32.lt_iff_toInt_lt] at *
  omega
theorem i3_ltr {x y z : Int32} (h1 : ¬ y < x) (h2 : y < z) : x < z := by
  simp only [Int32.lt_iff_toInt_lt] at *
  omega
theorem i3_as {x y : Int32} (h : x < y) : ¬ y < x := by
  simp only [Int32.lt_iff_toInt_lt] at *
  omega
theorem zBest_best {S C : Nat → Int32} {t n : Nat} : ∀ j, j ≤ n → isBest (fun k => ¬ zIdx S (S (307 + 10 * t + 1 + k)) = 0) C (n - j) n (zBest S C t n j)
  | 0, _ => Or.inl ⟨rfl, fun k h1 h2 _ => absurd h2 (by omega)⟩
  | j + 1, hj => by
    have ih := zBest_best (S := S) (C := C) (t := t) (n := n) j (by omega)
    unfold zBest
    by_cases h1 : zIdx S (S (307 + 10 * t + 1 + (n - 1 - j))) = 0
    · rw [if_pos h1]
      have hne : ∀ k, n - (j + 1) ≤ k → ¬ zIdx S (S (307 + 10 * t + 1 + k)) = 0 → n - j ≤ k := fun k hk hi => by
        by_cases e : k = n - 1 - j
        · subst e; exact absurd h1 hi
        · omega
      rcases ih with ⟨a0, a1⟩ | ⟨a1, a2, a3, a4, a5⟩
      · exact Or.inl ⟨a0, fun k h2 h3 h4 => a1 k (hne k h2 h4) h3 h4⟩
      · exact Or.inr ⟨by omega, a2, a3, a4, fun k h2 h3 h4 => a5 k (hne k h2 h4) h3 h4⟩
    · rw [if_neg h1]
      by_cases h2 : C (zBest S C t n j) < C (n - 1 - j)
      · rw [if_pos h2]
        rcases ih with ⟨a0, a1⟩ | ⟨a1, a2, a3, a4, a5⟩
        · refine Or.inl ⟨a0, fun k h3 h4 h5 => ?_⟩
          by_cases e : k = n - 1 - j
          · subst e; rw [a0] at h2; exact h2
          · exact a1 k (by omega) h4 h5
        · refine Or.inr ⟨by omega, a2, a3, a4, fun k h3 h4 h5 => ?_⟩
          by_cases e : k = n - 1 - j
          · subst e; exact ⟨fun _ => h2, i3_as h2⟩
          · exact a5 k (by omega) h4 h5
      · rw [if_neg h2]
        refine Or.inr ⟨by omega, by omega, h1, ?_, fun k h3 h4 h5 => ⟨fun q => absurd q (by omega), ?_⟩⟩
        · rcases ih with ⟨a0, a1⟩ | ⟨a1, a2, a3, a4, a5⟩
          · rw [a0] at h2; exact h2
          · exact i3_lt h2 a4
        · by_cases e : k = n - 1 - j
          · subst e
            intro q
            exact i3_as q q
          · rcases ih with ⟨a0, a1⟩ | ⟨a1, a2, a3, a4, a5⟩
            · rw [a0] at h2
              have := a1 k (by omega) h4 h5
              exact i3_as (i3_ltr h2 this)
            · have := (a5 k (by omega) h4 h5).2
              exact i3_lt h2 this
theorem rBW_best {M : jM} {a b t v n : Nat} {I : Nat → Prop} {C : Nat → Int32} (hI : ∀ k, k < n → (¬ rIdx M a (rCol M t (nI k)) = 0 ↔ I k)) (hC : ∀ k, k < n → rCost M b t v (nI k) = C k) (hn : n ≤ 4) : ∀ j, j ≤ n →
    (rBW M a b t v j = (nI 9, nI 0) ∧ ∀ k, k < j → ¬ I k) ∨ ∃ w, rBW M a b t v j = (nI w, C w) ∧ w < j ∧ I w ∧ ∀ k, k < j → I k → (k < w → C w < C k) ∧ ¬ C k < C w
  | 0, _ => Or.inl ⟨rfl, fun k hk => absurd hk (Nat.not_lt_zero k)⟩
  | j + 1, hj => by
    have ih := rBW_best hI hC hn j (by omega)
    have hi := hI j (by omega)
    unfold rBW
    by_cases h1 : rIdx M a (rCol M t (nI j)) = 0
    · rw [if_pos h1]
      have hj' : ¬ I j := fun q => (hi.mpr q) h1
      rcases ih with ⟨a0, a1⟩ | ⟨w, a1, a2, a3, a4⟩
      · refine Or.inl ⟨a0, fun k hk => ?_⟩
        by_cases e : k = j
        · subst e; exact hj'
        · exact a1 k (by omega)
      · refine Or.inr ⟨w, a1, by omega, a3, fun k hk hk2 => ?_⟩
        by_cases e : k = j
        · subst e; exact absurd hk2 hj'
        · exact a4 k (by omega) hk2
    · rw [if_neg h1, hC j (by omega)]
      have hj' : I j := hi.mp h1
      rcases ih with ⟨a0, a1⟩ | ⟨w, a1, a2, a3, a4⟩
      · rw [a0, if_pos rfl]
        refine Or.inr ⟨j, rfl, by omega, hj', fun k hk hk2 => ?_⟩
        by_cases e : k = j
        · subst e; exact ⟨fun q => absurd q (Nat.lt_irrefl _), fun q => i3_as q q⟩
        · exact absurd hk2 (a1 k (by omega))
      · rw [a1, if_neg (show ¬ nI w = nI 9 from fun q => absurd ((nI_eq (by omega) (by decide)).mp q) (by omega))]
        by_cases h2 : C w ≤ C j
        · rw [if_pos h2]
          refine Or.inr ⟨w, rfl, by omega, a3, fun k hk hk2 => ?_⟩
          by_cases e : k = j
          · subst e; exact ⟨fun q => absurd q (by omega), Int32.not_lt.mpr h2⟩
          · exact a4 k (by omega) hk2
        · rw [if_neg h2]
          have h3 : C j < C w := Int32.not_le.mp h2
          refine Or.inr ⟨j, rfl, by omega, hj', fun k hk hk2 => ?_⟩
          by_cases e : k = j
          · subst e; exact ⟨fun q => absurd q (Nat.lt_irrefl _), fun q => i3_as q q⟩
          · have h4 := i3_ltl h3 (a4 k (by omega) hk2).2
            exact ⟨fun _ => h4, i3_as h4⟩
theorem rBest_best {M : jM} {a b t v n : Nat} {I : Nat → Prop} {C : Nat → Int32} (hI : ∀ k, k < n → (¬ rIdx M a (rCol M t (nI k)) = 0 ↔ I k)) (hC : ∀ k, k < n → rCost M b t v (nI k) = C k) (hn : n ≤ 4) (h9 : M b 1 = C 9) : ∃ w, rBest M a b t v n = nI w ∧ isBest I C 0 n w := by
  unfold rBest
  rw [h9]
  rcases rBW_best hI hC hn n (Nat.le_refl n) with ⟨a0, a1⟩ | ⟨w, a1, a2, a3, a4⟩
  · rw [a0, ite_self]
    exact ⟨9, rfl, Or.inl ⟨rfl, fun k _ h2 h3 => absurd h3 (a1 k h2)⟩⟩
  · rw [a1]
    by_cases h : C w ≤ C 9
    · rw [if_pos h]
      exact ⟨w, rfl, Or.inr ⟨Nat.zero_le _, a2, a3, Int32.not_lt.mpr h, fun k _ h2 h3 => a4 k h2 h3⟩⟩
    · rw [if_neg h]
      exact ⟨9, rfl, Or.inl ⟨rfl, fun k _ h2 h3 => i3_ltl (Int32.not_le.mp h) (a4 k h2 h3).2⟩⟩
theorem q_best {M : jM} {a b c t v : Nat} {S C : Nat → Int32} (hS : eStm M a S c) (hX : M a 7 = S 1) (ht : t < c) (hC : ∀ k, k < zN S t → rCost M b (a + 25 + 3 * t) v (nI k) = C k) (h9 : M b 1 = C 9) :
    rBest M a b (a + 25 + 3 * t) v (zN S t) = nI (zBest S C t (zN S t) (zN S t)) := by
  obtain ⟨-, -, hc6, hs⟩ := hS
  obtain ⟨⟨ht6, -, -, h4, hcol⟩, hop, -, -, hw⟩ := hs t ht
  obtain ⟨w, e1, e2⟩ := rBest_best (M := M) (a := a) (b := b) (t := a + 25 + 3 * t) (v := v) (n := zN S t) (I := fun k => ¬ zIdx S (S (307 + 10 * t + 1 + k)) = 0) (C := C) (fun k hk => by
    have e : rCol M (a + 25 + 3 * t) (nI k) = S (307 + 10 * t + 1 + k) := by rw [rCol, rAt_N _ (by omega) (by decide), (hw k hk).1]
    rw [e, rIdx, zIdx, hX]) hC h4 h9
  have e3 := zBest_best (S := S) (C := C) (t := t) (n := zN S t) (zN S t) (Nat.le_refl _)
  rw [Nat.sub_self] at e3
  rw [e1, isBest_uniq e2 e3]
theorem zTk_s (V : Nat → Int32) (n k : Nat) (b : Int32) : zTk V n (k + 1) b = if zTk V n k b = 0 then 0 else zTkF V n k := rfl
theorem zTkF_B (V : Nat → Int32) (n k : Nat) : isB (zTkF V n k) := by
  unfold zTkF
  split
  · exact rIn_B _ _ _
  · split
    · exact Or.inr rfl
    · exact Or.inl rfl
theorem isB.n1 {x : Int32} (h : isB x) (h0 : ¬ x = 0) : x = nI 1 := by
  rcases h with h | h
  · exact absurd h h0
  · exact h
theorem zTks_yes {S V : Nat → Int32} {c t : Nat} (hc : S 3 = nI c) (hc6 : c ≤ 6) (ht : t < c) (h : ∀ k, k < 4 → ¬ zTkF V (zN S t) k = 0) : ¬ zTks S V (nI t) = 0 := by
  have e : zIs (S 3) (nI t) = nI 1 := by rw [zIs, hc, if_neg (nI_pos (by omega)), if_neg (nI_ge ht (by omega))]
  have e0 : ¬ zTk V (zN S t) 0 (nI 1) = 0 := by show ¬ nI 1 = 0; decide
  have e1 : ¬ zTk V (zN S t) 1 (nI 1) = 0 := by rw [zTk_s, if_neg e0]; exact h 0 (by decide)
  have e2 : ¬ zTk V (zN S t) 2 (nI 1) = 0 := by rw [zTk_s, if_neg e1]; exact h 1 (by decide)
  have e3 : ¬ zTk V (zN S t) 3 (nI 1) = 0 := by rw [zTk_s, if_neg e2]; exact h 2 (by decide)
  rw [zTks, nI_clamp (by omega), e, zTk_s, if_neg e3]
  exact h 3 (by decide)
theorem zTks_of {S V : Nat → Int32} {c : Nat} {s : Int32} (hc : S 3 = nI c) (hc6 : c ≤ 6) (h : ¬ zTks S V s = 0) : ∃ t, t < c ∧ s = nI t ∧ ∀ k, k < 4 → ¬ zTkF V (zN S t) k = 0 := by
  obtain ⟨t, ht, rfl⟩ := zIs_N hc (by omega) (zTk_nz h)
  refine ⟨t, ht, rfl, ?_⟩
  rw [zTks, nI_clamp (by omega)] at h
  have e3 : ¬ zTk V (zN S t) 3 (zIs (S 3) (nI t)) = 0 := fun q => h (by rw [zTk_s, if_pos q])
  have f3 : ¬ zTkF V (zN S t) 3 = 0 := by rw [zTk_s, if_neg e3] at h; exact h
  have e2 : ¬ zTk V (zN S t) 2 (zIs (S 3) (nI t)) = 0 := fun q => e3 (by rw [zTk_s, if_pos q])
  have f2 : ¬ zTkF V (zN S t) 2 = 0 := by rw [zTk_s, if_neg e2] at e3; exact e3
  have e1 : ¬ zTk V (zN S t) 1 (zIs (S 3) (nI t)) = 0 := fun q => e2 (by rw [zTk_s, if_pos q])
  have f1 : ¬ zTkF V (zN S t) 1 = 0 := by rw [zTk_s, if_neg e1] at e2; exact e2
  have e0 : ¬ zTk V (zN S t) 0 (zIs (S 3) (nI t)) = 0 := fun q => e1 (by rw [zTk_s, if_pos q])
  have f0 : ¬ zTkF V (zN S t) 0 = 0 := by rw [zTk_s, if_neg e0] at e1; exact e1
  intro k hk
  match k, hk with
  | 0, _ => exact f0
  | 1, _ => exact f1
  | 2, _ => exact f2
  | 3, _ => exact f3
theorem rTakes_F {M : jM} {t n k : Nat} {V : Nat → Int32} {v : Int32} (h2 : M t 2 = nI n) (hn : n ≤ 4) (hk : k < 4) (hv : V k = v) : rTakes M t (nI k) v = zTkF V n k := by
  unfold rTakes zTkF rHasC
  rw [hv, h2, if_neg (nI_pos (by omega))]
  by_cases h : k < n
  · rw [if_neg (nI_ge h (by omega)), if_neg (show ¬ nI 1 = 0 by decide), if_pos h]
  · rw [if_pos (show nI n ≤ nI k from (nI_leI (by omega) (by omega)).mpr (by omega)), if_pos (show nI 0 = 0 from nI_0), if_neg h]
theorem q_acc {M : jM} {a c : Nat} {S V : Nat → Int32} {s v0 v1 v2 v3 : Int32} (hS : eStm M a S c) (h0 : V 0 = v0) (h1 : V 1 = v1) (h2 : V 2 = v2) (h3 : V 3 = v3) : rAcc M a s v0 v1 v2 v3 = zTks S V s := by
  obtain ⟨hc, hc', hc6, hs⟩ := hS
  have e0 : rHasS M a s = zIs (S 3) s := by simp only [rHasS, zIs, hc, hc']
  unfold rAcc
  rw [e0]
  by_cases g0 : zIs (S 3) s = 0
  · rw [if_pos g0]
    exact (show zTk V (zN S s.toNatClampNeg) (0 + 4) (zIs (S 3) s) = 0 from zTk_z g0).symm
  · obtain ⟨t, ht, rfl⟩ := zIs_N hc' (by omega) g0
    obtain ⟨⟨ht6, -, -, h4, -⟩, -, hq, -⟩ := hs t ht
    have hq2 : M (a + 25 + 3 * t) 2 = nI (zN S t) := by rw [hq]; exact (hs t ht).1.2.1
    rw [if_neg g0, rSA_N a ht6, rTakes_F hq2 h4 (by decide) h0, rTakes_F hq2 h4 (by decide) h1, rTakes_F hq2 h4 (by decide) h2, rTakes_F hq2 h4 (by decide) h3, zTks, nI_clamp (by omega)]
    have k0 : zTk V (zN S t) 0 (zIs (S 3) (nI t)) = zIs (S 3) (nI t) := rfl
    by_cases g1 : zTkF V (zN S t) 0 = 0
    · have k1 : zTk V (zN S t) 1 (zIs (S 3) (nI t)) = 0 := by rw [zTk_s, k0, if_neg g0]; exact g1
      rw [if_pos g1]
      exact (show zTk V (zN S t) (1 + 3) (zIs (S 3) (nI t)) = 0 from zTk_z k1).symm
    · have k1 : ¬ zTk V (zN S t) 1 (zIs (S 3) (nI t)) = 0 := by rw [zTk_s, k0, if_neg g0]; exact g1
      rw [if_neg g1]
      by_cases g2 : zTkF V (zN S t) 1 = 0
      · have k2 : zTk V (zN S t) 2 (zIs (S 3) (nI t)) = 0 := by rw [zTk_s, if_neg k1]; exact g2
        rw [if_pos g2]
        exact (show zTk V (zN S t) (2 + 2) (zIs (S 3) (nI t)) = 0 from zTk_z k2).symm
      · have k2 : ¬ zTk V (zN S t) 2 (zIs (S 3) (nI t)) = 0 := by rw [zTk_s, if_neg k1]; exact g2
        rw [if_neg g2]
        by_cases g3 : zTkF V (zN S t) 2 = 0
        · have k3 : zTk V (zN S t) 3 (zIs (S 3) (nI t)) = 0 := by rw [zTk_s, if_neg k2]; exact g3
          rw [if_pos g3, zTk_s, if_pos k3]
          exact nI_0
        · have k3 : ¬ zTk V (zN S t) 3 (zIs (S 3) (nI t)) = 0 := by rw [zTk_s, if_neg k2]; exact g3
          rw [if_neg g3, zTk_s, if_neg k3]
          by_cases g4 : zTkF V (zN S t) 3 = 0
          · rw [if_pos g4, g4]
            exact nI_0
          · rw [if_neg g4, (zTkF_B V (zN S t) 3).n1 g4]
