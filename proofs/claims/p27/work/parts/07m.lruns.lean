/-! a run: the plan that is dropped first, the class's range, what the words behind a run rest on -/
section RU
variable {S V : Nat → Int32} {n t r c m k : Nat} {N N2 : jM}
theorem zMin_spec (ho : eOrd S n) : ∀ k, k ≤ n → (zMin S k = none ∧ ∀ j, j < k → ¬ S (367 + 9 * j + 7) = 0) ∨ ∃ f, f < k ∧ zMin S k = some f ∧ S (367 + 9 * f + 7) = 0 ∧ ∀ j, j < k → S (367 + 9 * j + 7) = 0 → j ≠ f → ¬ zAhead S f j = 0
  | 0, _ => Or.inl ⟨rfl, fun j hj => absurd hj (Nat.not_lt_zero j)⟩
  | k + 1, hk => by
    obtain ⟨u, l, b1, b2, b3, b4⟩ := ho.1 k (by omega)
    rcases zMin_spec ho k (by omega) with ⟨e1, e2⟩ | ⟨f, f1, f2, f3, f4⟩
    · by_cases hp : S (367 + 9 * k + 7) = 0
      · refine Or.inr ⟨k, by omega, by rw [zMin_none e1, if_pos hp], hp, fun j hj h1 h2 => absurd h1 (e2 j (by omega))⟩
      · refine Or.inl ⟨by rw [zMin_none e1, if_neg hp], fun j hj => ?_⟩
        by_cases jk : j = k
        · rw [jk]; exact hp
        · exact e2 j (by omega)
    · obtain ⟨u', l', c1, c2, c3, c4⟩ := ho.1 f (by omega)
      have hll : l ≠ l' := fun q => by
        have := ho.2 k f (by omega) (by omega) (by rw [b4, c4, q])
        omega
      rw [zMin_some f2]
      by_cases hc : S (367 + 9 * k + 7) = 0 ∧ (S (367 + 9 * k + 5) < S (367 + 9 * f + 5) ∨ (S (367 + 9 * k + 5) = S (367 + 9 * f + 5) ∧ S (367 + 9 * k + 8) < S (367 + 9 * f + 8)))
      · rw [if_pos hc]
        have hlt : u < u' ∨ (u = u' ∧ l < l') := by
          rcases hc.2 with q | ⟨q1, q2⟩
          · rw [b3, c3] at q
            exact Or.inl ((nI_ltI (by omega) (by omega)).mp q)
          · rw [b3, c3] at q1
            rw [b4, c4] at q2
            exact Or.inr ⟨nI_inj q1 (by omega) (by omega), (nI_ltI (by omega) (by omega)).mp q2⟩
        refine Or.inr ⟨k, by omega, rfl, hc.1, fun j hj h1 h2 => ?_⟩
        obtain ⟨u2, l2, d1, d2, d3, d4⟩ := ho.1 j (by omega)
        refine (zAhead_iff b3 d3 b4 d4 b1 d1 b2 d2).mpr ?_
        by_cases jf : j = f
        · subst jf
          have e1 : u2 = u' := nI_inj (d3.symm.trans c3) (by omega) (by omega)
          have e2 : l2 = l' := nI_inj (d4.symm.trans c4) (by omega) (by omega)
          omega
        · have := (zAhead_iff c3 d3 c4 d4 c1 d1 c2 d2).mp (f4 j (by omega) h1 jf)
          omega
      · rw [if_neg hc]
        refine Or.inr ⟨f, by omega, rfl, f3, fun j hj h1 h2 => ?_⟩
        by_cases jk : j = k
        · subst jk
          refine (zAhead_iff c3 b3 c4 b4 c1 b1 c2 b2).mpr ?_
          have hn1 : ¬ u < u' := fun q => hc ⟨h1, Or.inl (by rw [b3, c3]; exact nI_lt q (by omega))⟩
          have hn2 : ¬ (u = u' ∧ l < l') := fun q => hc ⟨h1, Or.inr ⟨by rw [b3, c3, q.1], by rw [b4, c4]; exact nI_lt q.2 (by omega)⟩⟩
          omega
        · exact f4 j (by omega) h1 h2
theorem lCnt_pos {P : Nat → Bool} {k : Nat} : ∀ n, k < n → P k = true → 0 < rCnt P n
  | 0, h, _ => absurd h (Nat.not_lt_zero k)
  | n + 1, h, hp => by
    rw [rCnt_s]
    by_cases e : k = n
    · subst e
      rw [if_pos hp]
      omega
    · have := lCnt_pos n (by omega) hp
      omega
theorem lCnt_zero {P : Nat → Bool} : ∀ n, (∀ k, k < n → P k = false) → rCnt P n = 0
  | 0, _ => rfl
  | n + 1, h => by
    rw [rCnt_s, lCnt_zero n (fun k hk => h k (by omega)), if_neg (by rw [h n (by omega)]; decide)]
theorem zMin_drp (ho : eOrd S n) (hn : n ≤ 8) : (zMin S n = none ∧ zLast (zDrp S n (nI 0)) n = -4) ∨ ∃ f, f < n ∧ zMin S n = some f ∧ zLast (zDrp S n (nI 0)) n = nI f := by
  rcases zMin_spec ho n (Nat.le_refl n) with ⟨e1, e2⟩ | ⟨f, f1, f2, f3, f4⟩
  · refine Or.inl ⟨e1, ?_⟩
    rcases zLast_cases (zDrp S n (nI 0)) n with ⟨k, h1, h2, h3⟩ | ⟨-, h2⟩
    · simp only [zDrp, Bool.and_eq_true, decide_eq_true_eq] at h2
      exact absurd h2.1 (e2 k h1)
    · exact h2
  · refine Or.inr ⟨f, f1, f2, ?_⟩
    obtain ⟨u', l', c1, c2, c3, c4⟩ := ho.1 f f1
    have hf : zDrp S n (nI 0) f = true := by
      have h0 : rCnt (zAhB S f) n = 0 := lCnt_zero n (fun k hk => by
        unfold zAhB
        by_cases h1 : S (367 + 9 * k + 7) = 0
        · obtain ⟨u, l, b1, b2, b3, b4⟩ := ho.1 k hk
          have : zAhead S k f = 0 := Decidable.byContradiction fun q => by
            have a1 := (zAhead_iff b3 c3 b4 c4 b1 c1 b2 c2).mp q
            by_cases kf : k = f
            · subst kf
              have e1 : u = u' := nI_inj (b3.symm.trans c3) (by omega) (by omega)
              have e2 : l = l' := nI_inj (b4.symm.trans c4) (by omega) (by omega)
              omega
            · have a2 := (zAhead_iff c3 b3 c4 b4 c1 b1 c2 b2).mp (f4 k hk h1 kf)
              omega
          rw [decide_eq_false (p := ¬ zAhead S k f = 0) (fun q => q this), Bool.and_false]
        · rw [decide_eq_false h1, Bool.false_and])
      simp only [zDrp]
      rw [decide_eq_true f3, zAhF_cnt, h0, decide_eq_true rfl]
      rfl
    rcases zLast_cases (zDrp S n (nI 0)) n with ⟨k, h1, h2, h3⟩ | ⟨h1, -⟩
    · have h2' := h2
      simp only [zDrp, Bool.and_eq_true, decide_eq_true_eq] at h2
      by_cases kf : k = f
      · rw [h3, kf]
      · have hpos : 0 < rCnt (zAhB S k) n := lCnt_pos n f1 (by
          unfold zAhB
          rw [decide_eq_true f3, decide_eq_true (f4 k h1 h2.1 kf)]
          rfl)
        rw [zAhF_cnt] at h2
        have hle := rCnt_le (zAhB S k) n
        have := nI_inj h2.2 (by omega) (by decide)
        omega
    · rw [h1 f f1] at hf
      cases hf
theorem zCls_80 (S V : Nat → Int32) (t n : Nat) (hn : n ≤ 4) : ∀ j, j ≤ n → ∃ z, z + 1 ≤ 3 ^ j ∧ zCls S V t n j = nI z
  | 0, _ => ⟨0, by decide, rfl⟩
  | j + 1, hj => by
    obtain ⟨z, z1, z2⟩ := zCls_80 S V t n hn j (by omega)
    have e : zCls S V t n (j + 1) = nI 3 * zCls S V t n j + zShare S (zShr S V t (n - 1 - j)) := rfl
    have e3 : 3 ^ (j + 1) = 3 * 3 ^ j := by rw [Nat.pow_succ]; omega
    have key : ∀ w, w ≤ 2 → zShare S (zShr S V t (n - 1 - j)) = nI w → ∃ z', z' + 1 ≤ 3 ^ (j + 1) ∧ zCls S V t n (j + 1) = nI z' := fun w hw h => ⟨3 * z + w, by omega, by rw [e, z2, h, pk_mul, nI_add]⟩
    unfold zShare at key
    split at key
    · split at key
      · exact key 2 (by decide) rfl
      · exact key 1 (by decide) rfl
    · exact key 0 (by decide) rfl
/-- two words behind each other: what a run rests on -/
def E2 (N N2 : jM) (m : Nat) : Prop := N (m + 1) = N2 (m + 1) ∧ N (m + 4) = N2 (m + 4)
theorem E2_up (h : E2 N N2 m) {k : Nat} {v w : Int32} (e : v = w) : E2 (jup N (m + 1) k v) (jup N2 (m + 1) k w) m := by
  subst e
  refine ⟨?_, by rw [jup_row _ _ (by omega), jup_row _ _ (by omega)]; exact h.2⟩
  funext j
  simp only [jup, h.1]
theorem E2_out (h : E2 N N2 m) (n p : Nat) : E2 (mOut N m n p) (mOut N2 m n p) m := ⟨mOut_row h.1, by rw [mOut_o _ (by omega), mOut_o _ (by omega)]; exact h.2⟩
theorem E2_cl (cap : Int32) : ∀ (n : Nat) (N N2 : jM) (F : Int32), E2 N N2 m → E2 (zCl cap m n N F).1 (zCl cap m n N2 F).1 m ∧ (zCl cap m n N F).2 = (zCl cap m n N2 F).2
  | 0, N, N2, F, h => ⟨h, rfl⟩
  | n + 1, N, N2, F, h => by
    simp only [zCl]
    rw [h.1]
    split
    · split
      · refine E2_cl cap n _ _ _ (E2_up (E2_out h _ _) ?_)
        rw [(E2_out h _ _).1]
      · exact ⟨h, rfl⟩
    · exact ⟨h, rfl⟩
theorem E2_kp (h : E2 N N2 m) (n : Nat) (t o w e : Int32) : E2 (mKp N m n t o w e) (mKp N2 m n t o w e) m := by
  unfold mKp
  have h0 := E2_up (k := 367 + 9 * n + 0) h (congrFun h.1 5)
  have h1 := E2_up (k := 367 + 9 * n + 1) h0 (rfl : t = t)
  have h2 := E2_up (k := 367 + 9 * n + 2) h1 (rfl : o = o)
  have h3 := E2_up (k := 367 + 9 * n + 3) h2 (rfl : w = w)
  have h4 := E2_up (k := 367 + 9 * n + 4) h3 (rfl : e = e)
  have h5 := E2_up (k := 367 + 9 * n + 5) h4 (rfl : nI 0 = nI 0)
  have h6 := E2_up (k := 367 + 9 * n + 6) h5 (rfl : nI 0 = nI 0)
  have h7 := E2_up (k := 367 + 9 * n + 7) h6 (rfl : nI 0 = nI 0)
  have h8 := E2_up (k := 367 + 9 * n + 8) h7 (rfl : nI 0 = nI 0)
  have h9 := E2_up (k := 5) h8 (congrArg (· + nI 1) (congrFun h.1 5))
  exact E2_up (k := 4) h9 rfl
theorem E2_t1 (h : E2 N N2 m) (t : Nat) (b : Int32) : E2 (gT1 N m t b) (gT1 N2 m t b) m := by
  unfold gT1
  have h1 := E2_up (k := 6) h (congrArg (· + nI 1) (congrFun h.1 6))
  have h2 := E2_up (k := 307 + 10 * t + 9) h1 (congrArg (· + nI 1) (congrFun h1.1 (307 + 10 * t + 9)))
  exact E2_up (k := 7) h2 (congrArg (· + b) (congrFun h2.1 7))
theorem E2_co (h : E2 N N2 m) (t r w : Nat) (b : Int32) : gCo N m t r w b = gCo N2 m t r w b := by
  have h1 := E2_t1 h t b
  unfold gCo
  rw [h1.1, h1.2]
theorem E2_t2 (h : E2 N N2 m) (t r w : Nat) (o e b num how : Int32) : E2 (gT2 N m t r w o e b num how) (gT2 N2 m t r w o e b num how) m := by
  have h1 := E2_t1 h t b
  unfold gT2 mTl
  rw [E2_co h t r w b]
  exact E2_up (E2_up (E2_up (E2_up (E2_up (E2_up h1 rfl) rfl) rfl) rfl) rfl) rfl
theorem E2_t3 (h : E2 N N2 m) (s : Int32) : E2 (gT3 N m s) (gT3 N2 m s) m := by
  unfold gT3
  have h1 := E2_up (k := 27) h (rfl : s = s)
  exact E2_up (k := 9) h1 (congrArg (· + s) (congrFun h1.1 9))
theorem E2_t4 (h : E2 N N2 m) (q : Nat) (s : Int32) : E2 (gT4 N m q s) (gT4 N2 m q s) m := by
  unfold gT4 gU3 gU2 gU1
  have h1 := E2_up (k := 367 + 9 * q + 5) h (congrArg (· + nI 1) (congrFun h.1 (367 + 9 * q + 5)))
  have h2 := E2_up (k := 367 + 9 * q + 8) h1 (congrFun h1.1 6)
  exact E2_up (k := 367 + 9 * q + 6) h2 (congrArg (· + s) (congrFun h2.1 (367 + 9 * q + 6)))
theorem E2_t5 (h : E2 N N2 m) (n q : Nat) : E2 (gT5 N m n q) (gT5 N2 m n q) m := by
  unfold gT5
  rw [h.1]
  split
  · exact h
  · have h1 := E2_out h n q
    exact E2_up (k := 10) h1 (congrArg (· + nI 1) (congrFun h1.1 10))
theorem E2_end (h : E2 N N2 m) (n q : Nat) (s : Int32) : E2 (gEnd N m n q s) (gEnd N2 m n q s) m := by
  unfold gEnd
  split
  · exact E2_t4 (E2_t3 h s) q s
  · exact E2_t5 (E2_t4 (E2_t3 h s) q s) n q
theorem E2_ta (h : E2 N N2 m) (t r w n q : Nat) (o e b num how : Int32) : E2 (gTA N m t r w n q o e b num how) (gTA N2 m t r w n q o e b num how) m := by
  unfold gTA
  have h2 := E2_t2 h t r w o e b num how
  rw [E2_co h t r w b, show gS (gT2 N m t r w o e b num how) m (gCo N2 m t r w b) e = gS (gT2 N2 m t r w o e b num how) m (gCo N2 m t r w b) e by unfold gS; rw [h2.1]]
  exact E2_end h2 n q _
theorem E2_tb (h : E2 N N2 m) (t r w : Nat) (o e b num how : Int32) : E2 (gTB N m t r w o e b num how) (gTB N2 m t r w o e b num how) m := by
  unfold gTB
  have h2 := E2_t2 h t r w o e b num how
  rw [E2_co h t r w b, show gS (gT2 N m t r w o e b num how) m (gCo N2 m t r w b) e = gS (gT2 N2 m t r w o e b num how) m (gCo N2 m t r w b) e by unfold gS; rw [h2.1]]
  exact E2_t3 h2 _
theorem E2_goes (h : E2 N N2 m) (t r n nc : Nat) : E2 (zGoes N m t r n nc) (zGoes N2 m t r n nc) m := by
  have eO : gO N m t nc = gO N2 m t nc := by unfold gO; rw [h.1, h.2]
  have eP : gP N m t n nc = gP N2 m t n nc := by unfold gP; rw [h.1, eO]
  have eW : gWy N m t nc = gWy N2 m t nc := by unfold gWy; rw [h.1, h.2]
  have eE : gE N m t nc = gE N2 m t nc := by unfold gE; rw [h.1, h.2, eW]
  obtain ⟨k1, k2⟩ := E2_cl (N (m + 1) 15) n N N2 (-4) h
  have eK : (gK N m n).2 = (gK N2 m n).2 := by unfold gK; rw [← h.1]; exact k2
  have hN : E2 (gN N m n) (gN N2 m n) m := by
    unfold gN
    rw [eK]
    refine E2_up ?_ rfl
    unfold gK
    rw [← h.1]
    exact k1
  unfold zGoes
  rw [eP, eO, eW, eE, eK, hN.1, h.1]
  split
  · split
    · have hk := E2_kp hN (gK N2 m n).2.2 (nI t) (gO N2 m t nc) (nI (gWy N2 m t nc)) (gE N2 m t nc)
      rw [(E2_t1 hk t (nI 0)).1]
      exact E2_ta hk _ _ _ _ _ _ _ _ _ _
    · exact E2_tb hN _ _ _ _ _ _ _ _
  · have h28 := E2_up (k := 28) h (rfl : (-4 : Int32) = -4)
    rw [(E2_t1 h28 t (nI 1)).1]
    exact E2_ta h28 _ _ _ _ _ _ _ _ _ _
end RU
