section ASM
variable {A B Z F G M M' : jM} {Rp RA RF : jR} {a u v n n1 k p m t r w q b c : Nat} {f : Nat → Nat} {o e b9 num how d0 C : Int32} {S V : Nat → Int32}
theorem rWhere_c {x : Nat} {c op y : Int32} (h : M' (x + 1) = M (x + 1)) : rWhere M' x c op y = rWhere M x c op y := by
  unfold rWhere
  refine sI_congr (fun k _ => ?_)
  simp only [rWhF, h]
theorem rCost_c {x : Nat} {y : Int32} (h0 : M' x = M x) (h : M' (x + 1) = M (x + 1)) (h1 : M' (u + 1) = M (u + 1)) (h2 : M' (u + 2) = M (u + 2)) (hv : M' v = M v) : rCost M' x u v y = rCost M x u v y := by
  unfold rCost rCol rOp
  rw [h0, h1, h2, hv, rWhere_c h]
theorem rBW_c {x : Nat} (h7 : M' a 7 = M a 7) (h0 : M' x = M x) (h : M' (x + 1) = M (x + 1)) (h1 : M' (u + 1) = M (u + 1)) (h2 : M' (u + 2) = M (u + 2)) (hv : M' v = M v) : ∀ j, rBW M' a x u v j = rBW M a x u v j
  | 0 => rfl
  | j + 1 => by
    have ih := rBW_c h7 h0 h h1 h2 hv j
    have e1 : rCol M' u (nI j) = rCol M u (nI j) := by unfold rCol; rw [h1]
    have e2 : ∀ y, rIdx M' a y = rIdx M a y := fun y => by unfold rIdx; rw [h7]
    rw [rBW, rBW, ih, e1, e2, rCost_c h0 h h1 h2 hv]
theorem rBest_c {x : Nat} (h7 : M' a 7 = M a 7) (h0 : M' x = M x) (h : M' (x + 1) = M (x + 1)) (h1 : M' (u + 1) = M (u + 1)) (h2 : M' (u + 2) = M (u + 2)) (hv : M' v = M v) (j : Nat) : rBest M' a x u v j = rBest M a x u v j := by
  unfold rBest
  rw [rBW_c h7 h0 h h1 h2 hv, h0]
theorem rCls_c (h24 : M' (a + 24) = M (a + 24)) (h5 : M' (a + 5) = M (a + 5)) (h6 : M' (a + 6) = M (a + 6)) (h1 : M' (u + 1) = M (u + 1)) (h2 : M' (u + 2) = M (u + 2)) (hv : M' v = M v) : ∀ j, rCls M' a u v j = rCls M a u v j
  | 0 => rfl
  | j + 1 => by
    have ih := rCls_c h24 h5 h6 h1 h2 hv j
    have e1 : ∀ k, rShr M' a u v k = rShr M a u v k := fun k => by
      unfold rShr rCol rOp
      rw [h5, h1, h2, hv, rWhere_c (x := a + 5) h6]
    have e2 : ∀ y, rShare M' a y = rShare M a y := fun y => by unfold rShare; rw [h24]
    rw [rCls, rCls, ih, e1, e2]
def pDis (S : Nat → Int32) (n q b : Nat) : Prop := (∃ x z, x ≤ b + 1 ∧ z ≤ b ∧ S 5 = nI x ∧ S 6 = nI z ∧ ∀ i, i < n → ∃ y u, S (367 + 9 * i) = nI y ∧ S (367 + 9 * i + 5) = nI u ∧ y < x ∧ u ≤ b ∧ (i ≠ q → ∃ l, S (367 + 9 * i + 8) = nI l ∧ l ≤ z)) ∧
  (∀ i j, i < n → j < n → (S (367 + 9 * i) = S (367 + 9 * j) ∨ (S (367 + 9 * i + 1) = S (367 + 9 * j + 1) ∧ S (367 + 9 * i + 2) = S (367 + 9 * j + 2))) → i = j) ∧ ∀ i j, i < n → j < n → i ≠ q → j ≠ q → S (367 + 9 * i + 8) = S (367 + 9 * j + 8) → i = j
/-- behind a run: the relation stands -/
theorem run_asm (eB : eR B Rp a S b r n c f) (ht : t < c) (hb : b ≤ 100000) (A0 : ∀ x, a ≤ x → x < a + 43 → x ≠ a → (x < a + 11 ∨ a + 24 ≤ x) → x ≠ a + 25 + 3 * t → A x = B x) (A1 : A a 7 = B a 7 ∧ A a 8 = B a 8 ∧ A a 9 = B a 9 + nI 1 ∧ A a 10 = B a 10 + b9 ∧ A a 11 = B a 11)
    (A2 : A (a + 25 + 3 * t) 2 = B (a + 25 + 3 * t) 2 ∧ A (a + 25 + 3 * t) 3 = B (a + 25 + 3 * t) 3 + nI 1) (A3 : A (a + 22) 1 = nI 1 ∧ A (a + 22) 2 = nI t ∧ A (a + 22) 3 = o ∧ A (a + 22) 8 = how ∧ A (a + 22) 10 = d0) (A4 : ∀ k, k < 4 → A (a + 23) k = V k)
    (A5 : A (a + 11) 3 = Z (m + 1) 5 ∧ A (a + 11) 4 = Z (m + 1) 8 ∧ A (a + 11) 5 = Z (m + 1) 10) (Z0 : ∀ j, j < 367 → ¬ (j = 4 ∨ j = 5 ∨ j = 8 ∨ (16 ≤ j ∧ j < 29)) → Z (m + 1) j = S j) (Z1 : Z (m + 1) 16 = nI t) (Z2 : ∀ k, k < 4 → Z (m + 1) (17 + k) = V k) (Z3 : Z (m + 1) 28 = d0)
    (hV : ∀ k, k < 4 → ¬ zTkF V (zN S t) k = 0) (zv : eVal (Z (m + 1)) n1 c) (zd : pDis (Z (m + 1)) n1 q b) (hn1 : n1 ≤ 8) (h0 : A p 0 = num) (h3 : A p 3 = nI w) (h4 : A p 4 = e) (hp : a + 13 ≤ p ∧ p < a + 22)
    (hG : ∀ j, j < 367 → j ≠ 4 → j ≠ 9 → j ≠ 10 → j ≠ 27 → G (m + 1) j = gT2 Z m t r w o e b9 num how (m + 1) j) (U : uRes A RA a n1 p m q Z F RF G C) (hC : gCo Z m t r w b9 = C) (hs : SS RA a) (hfl : ∀ x, a + 14 ≤ x → x < a + 22 → isB (A x 7)) :
    (∃ n2 f2, eR F RF a (G (m + 1)) (b + 1) r n2 c f2) ∧ SA F RF a := by
  obtain ⟨n2, f2, g2, s, d, U1, U2, U3, U4, U5, U6, U7, U8, U9, U10, U11, U12, U13, U14, U15, U16, U17, U18, U19, U20, U21, U22, U23, U24, U25, U26⟩ := U
  obtain ⟨h1, h2, h3', h4', h5, h6, h7, h8, h9⟩ := eB
  have hc6 := h4'.2.2.1
  obtain ⟨t1, t2, t3, t4, t5, t6, t7, t8, t9⟩ := gT2_at (Z := Z) (m := m) (r := r) (w := w) (o := o) (e := e) (b := b9) (num := num) (how := how) (show t < 6 by omega)
  rw [hC] at t8
  -- the model's row
  have s1 : ∀ j, j < 367 → ¬ (4 ≤ j ∧ j ≤ 10) → ¬ (16 ≤ j ∧ j < 29) → j ≠ 307 + 10 * t + 9 → G (m + 1) j = S j := fun j a1 a2 a3 a4 => by rw [hG j a1 (by omega) (by omega) (by omega) (by omega), gT2_s Z (by omega) (by omega) a4 (by omega), Z0 j a1 (by omega)]
  have s16 : ∀ j, 16 ≤ j → j < 21 → G (m + 1) j = Z (m + 1) j := fun j a1 a2 => by rw [hG j (by omega) (by omega) (by omega) (by omega) (by omega), gT2_s Z (by omega) (by omega) (by omega) (by omega)]
  have sg : ∀ j, (j = 5 ∨ j = 8 ∨ j = 28) → G (m + 1) j = Z (m + 1) j := fun j a1 => by rw [hG j (by omega) (by omega) (by omega) (by omega) (by omega), gT2_s Z (by omega) (by omega) (by omega) (by omega)]
  have s6 : G (m + 1) 6 = S 6 + nI 1 := by rw [hG 6 (by decide) (by decide) (by decide) (by decide) (by decide), t1, Z0 6 (by decide) (by decide)]
  have s7 : G (m + 1) 7 = S 7 + b9 := by rw [hG 7 (by decide) (by decide) (by decide) (by decide) (by decide), t2, Z0 7 (by decide) (by decide)]
  have s9 : G (m + 1) 9 = S 9 + s := by rw [U13, Z0 9 (by decide) (by decide)]
  have sr : G (m + 1) (307 + 10 * t + 9) = S (307 + 10 * t + 9) + nI 1 := by rw [hG _ (by omega) (by omega) (by omega) (by omega) (by omega), t3, Z0 _ (by omega) (by omega)]
  have ezn : ∀ y, y < c → zN (G (m + 1)) y = zN S y := fun y hy => by rw [zN, zN, s1 _ (by omega) (by omega) (by omega) (by omega)]
  -- the class's rows
  have Fo : ∀ x, a ≤ x → x < a + 43 → x ≠ a → (x < a + 11 ∨ a + 24 ≤ x) → x ≠ a + 25 + 3 * t → F x = B x := fun x a1 a2 a3 a4 a5 => by rw [U16 x (by omega) a3 (by omega) (by omega), A0 x a1 a2 a3 a4 a5]
  have Fu : F (a + 25 + 3 * t) = A (a + 25 + 3 * t) := U16 _ (by omega) (by omega) (by omega) (by omega)
  refine ⟨⟨n2, f2, ?_⟩, ?_⟩
  · refine ⟨eTab_c h1 (by rw [Fo _ (by omega) (by omega) (by omega) (by omega) (by omega)]) (fun j _ => by rw [Fo _ (by omega) (by omega) (by omega) (by omega) (by omega)]) (fun j hj => s1 j (by omega) (by omega) (by omega) (by omega)), eSum_c h2 h1.2.2.1 (by rw [Fo _ (by omega) (by omega) (by omega) (by omega) (by omega)]) (fun j _ => by rw [Fo _ (by omega) (by omega) (by omega) (by omega) (by omega)]) (fun j _ _ => s1 j (by omega) (by omega) (by omega) (by omega)),
      eKno_c h3' (by rw [Fo _ (by omega) (by omega) (by omega) (by omega) (by omega)]) (fun j _ => by rw [Fo _ (by omega) (by omega) (by omega) (by omega) (by omega)]) (fun j hj => s1 j (by omega) (by omega) (by omega) (by omega)), ⟨by rw [U17 _ (by decide), A1.2.1]; exact h4'.1, by rw [s1 3 (by decide) (by decide) (by decide) (by omega)]; exact h4'.2.1, hc6, fun y hy => ?_⟩,
      eSet_c h5 (fun j _ => by rw [Fo _ (by omega) (by omega) (by omega) (by omega) (by omega)]) (fun j _ _ => s1 j (by omega) (by omega) (by omega) (by omega)), ?_, Or.inr ⟨?_, ⟨t, ht, ?_, fun k hk => ?_⟩, ?_, fun k hk => ?_, fun y hy => ?_⟩, ⟨U7, U8, by omega, U2, U3, ?_⟩, ?_⟩
    · obtain ⟨y1, y2, y3, y4, y5⟩ := h4'.2.2.2 y hy
      have hz4 := y1.2.2.2.1
      rw [ezn y hy]
      by_cases d : y = t
      · subst d
        refine ⟨zSt_cong y1 (fun j a1 a2 => s1 j (by omega) (by omega) (by omega) (by omega)), fun k hk => ?_, ?_, ?_, fun k hk => ⟨?_, ?_⟩⟩
        · rw [s1 _ (by omega) (by omega) (by omega) (by omega)]; exact y2 k hk
        · rw [Fu, A2.1, s1 _ (by omega) (by omega) (by omega) (by omega)]; exact y3
        · rw [Fu, A2.2, sr, y4]
        · rw [Fo _ (by omega) (by omega) (by omega) (by omega) (by omega), s1 _ (by omega) (by omega) (by omega) (by omega)]; exact (y5 k hk).1
        · rw [Fo _ (by omega) (by omega) (by omega) (by omega) (by omega), s1 _ (by omega) (by omega) (by omega) (by omega)]; exact (y5 k hk).2
      · refine ⟨zSt_cong y1 (fun j a1 a2 => s1 j (by omega) (by omega) (by omega) (by omega)), fun k hk => ?_, ?_, ?_, fun k hk => ⟨?_, ?_⟩⟩
        · rw [s1 _ (by omega) (by omega) (by omega) (by omega)]; exact y2 k hk
        · rw [Fo _ (by omega) (by omega) (by omega) (by omega) (by omega), s1 _ (by omega) (by omega) (by omega) (by omega)]; exact y3
        · rw [Fo _ (by omega) (by omega) (by omega) (by omega) (by omega), s1 _ (by omega) (by omega) (by omega) (by omega)]; exact y4
        · rw [Fo _ (by omega) (by omega) (by omega) (by omega) (by omega), s1 _ (by omega) (by omega) (by omega) (by omega)]; exact (y5 k hk).1
        · rw [Fo _ (by omega) (by omega) (by omega) (by omega) (by omega), s1 _ (by omega) (by omega) (by omega) (by omega)]; exact (y5 k hk).2
    · obtain ⟨c1, c2, c3, c4, c5, c6, c7⟩ := h6
      refine ⟨?_, ?_, ?_, ?_, ?_, ?_, ?_⟩
      · rw [U17 _ (by decide), A1.1, c1, s1 1 (by decide) (by decide) (by decide) (by omega)]
      · rw [U17 _ (by decide), A1.2.2.1, c2, s6]
      · rw [U17 _ (by decide), A1.2.2.2.1, c3, s7]
      · rw [U12, A1.2.2.2.2, c4, s9]
      · rw [U18 _ (by decide) (by decide), A5.1, sg 5 (by omega)]
      · rw [U18 _ (by decide) (by decide), A5.2.1, sg 8 (by omega)]
      · rw [U9, A5.2.2, U10]
    · rw [U24 1 (by omega), A3.1]
    · rw [s16 16 (by decide) (by decide), Z1]
    · rw [ezn t ht, zTkF_c (V := V) (by show G (m + 1) (17 + k) = V k; rw [s16 _ (by omega) (by omega), Z2 k hk])]
      exact hV k hk
    · rw [U24 2 (by omega), A3.2.1, s16 16 (by decide) (by decide), Z1]
    · rw [U16 _ (by omega) (by omega) (by omega) (by omega), A4 k hk, s16 _ (by omega) (by omega), Z2 k hk]
    · have gt : ∀ j, 21 ≤ j → j < 27 → G (m + 1) j = gT2 Z m t r w o e b9 num how (m + 1) j := fun j a1 a2 => hG j (by omega) (by omega) (by omega) (by omega) (by omega)
      match y, hy with
      | 0, _ => rw [U24 (3 + 0) (by omega), gt (21 + 0) (by omega) (by omega)]; exact A3.2.2.1.trans t4.symm
      | 1, _ => rw [gt (21 + 1) (by omega) (by omega)]; exact U20.trans (h0.trans t5.symm)
      | 2, _ => rw [gt (21 + 2) (by omega) (by omega)]; exact U21.trans (h3.trans t6.symm)
      | 3, _ => rw [gt (21 + 3) (by omega) (by omega)]; exact U22.trans (h4.trans t7.symm)
      | 4, _ => rw [gt (21 + 4) (by omega) (by omega)]; exact U23.trans t8.symm
      | 5, _ => rw [U24 (3 + 5) (by omega), gt (21 + 5) (by omega) (by omega)]; exact A3.2.2.2.1.trans t9.symm
      | 6, _ => exact U14.trans U15.symm
      | 7, _ => rw [U24 (3 + 7) (by omega), sg (21 + 7) (by omega)]; exact A3.2.2.2.2.trans Z3.symm
    · intro j hj
      have g := U6 j hj
      obtain ⟨v1, y, v2, v3, x, v4, v5⟩ := zv _ (U4 j hj)
      have ezz : zN (Z (m + 1)) y = zN S y := by rw [zN, zN, Z0 _ (by omega) (by omega)]
      rw [ezz] at v4
      exact ⟨by rw [g.1 7 (by omega)]; exact v1, y, v2, by rw [g.1 1 (by omega)]; exact v3, x, by rw [ezn y v2]; exact v4, by rw [g.1 3 (by omega)]; exact v5⟩
    · obtain ⟨⟨x, z, d1, d2, d3, d4, d5⟩, d6, d7⟩ := zd
      have d4' : S 6 = nI z := by rw [← Z0 6 (by decide) (by decide)]; exact d4
      have eu : nI z + nI 1 = nI (z + 1) := nI_add z 1
      refine ⟨⟨x, z + 1, by omega, by omega, by rw [sg 5 (by omega)]; exact d3, by rw [s6, d4', eu], fun j hj => ?_⟩, fun i j hi hj hh => ?_⟩
      · obtain ⟨g1, g3, g4⟩ := U6 j hj
        obtain ⟨y, x', d8, d9, d10, d11, d12⟩ := d5 _ (U4 j hj)
        by_cases dq : g2 j = q
        · obtain ⟨g5, g6⟩ := g4 dq
          exact ⟨y, x' + 1, z + 1, (g1 0 (by omega)).trans d8, by rw [g5, d9, nI_add], by rw [g6, d4, eu], d10, by omega, by omega⟩
        · obtain ⟨g5, g6⟩ := g3 dq
          obtain ⟨l, d13, d14⟩ := d12 dq
          exact ⟨y, x', l, (g1 0 (by omega)).trans d8, g5.trans d9, g6.trans d13, d10, by omega, by omega⟩
      · have gi := U6 i hi
        have gj := U6 j hj
        refine U5 i j hi hj ?_
        rcases hh with e1 | ⟨e1, e2⟩ | e1
        · have x1 := gi.1 0 (by omega)
          have x2 := gj.1 0 (by omega)
          exact d6 _ _ (U4 i hi) (U4 j hj) (Or.inl (x1.symm.trans (e1.trans x2)))
        · exact d6 _ _ (U4 i hi) (U4 j hj) (Or.inr ⟨(gi.1 1 (by omega)).symm.trans (e1.trans (gj.1 1 (by omega))), (gi.1 2 (by omega)).symm.trans (e2.trans (gj.1 2 (by omega)))⟩)
        · by_cases qi : g2 i = q
          · by_cases qj : g2 j = q
            · rw [qi, qj]
            · obtain ⟨y, x', -, -, -, -, d12⟩ := d5 _ (U4 j hj)
              obtain ⟨l, d13, d14⟩ := d12 qj
              rw [(gi.2.2 qi).2, (gj.2.1 qj).2, d4, d13, eu] at e1
              have := (nI_eq (by omega) (by omega)).mp e1
              omega
          · by_cases qj : g2 j = q
            · obtain ⟨y, x', -, -, -, -, d12⟩ := d5 _ (U4 i hi)
              obtain ⟨l, d13, d14⟩ := d12 qi
              rw [(gi.2.1 qi).2, (gj.2.2 qj).2, d4, d13, eu] at e1
              have := (nI_eq (by omega) (by omega)).mp e1
              omega
            · exact d7 _ _ (U4 i hi) (U4 j hj) qi qj ((gi.2.1 qi).2.symm.trans (e1.trans (gj.2.1 qj).2))
  · refine ⟨fun j hj => by rw [U26 _ (by omega)]; exact hs j hj, U25, fun i hi => ?_, by rw [U24 1 (by omega), A3.1]; exact Or.inr rfl, by rw [U14]; exact U11⟩
    obtain ⟨j, hj, ej⟩ := U25.rg hi
    by_cases d : pa RF (a + 11) i = p
    · rw [d, U19]
      exact hfl p (by omega) hp.2
    · rw [U16 _ d (by omega) (by omega) (by omega)]
      exact hfl _ (by omega) (by omega)
theorem gTB_f {j : Nat} (h9 : j ≠ 9) (h27 : j ≠ 27) : gTB Z m t r w o e b9 num how (m + 1) j = gT2 Z m t r w o e b9 num how (m + 1) j := by
  unfold gTB
  rw [(gT3_at _ _).2.2 j h27 h9]
theorem use_l (hn : n ≤ 8) (hR : SR RA (a + 11)) (hf : eBij f n) (h2 : A (a + 11) 2 = nI n) (h4 : Z (m + 1) 4 = nI n) (hw : ∀ i, i < n → ∀ y, y < 9 → A (pa RA (a + 11) i) y = Z (m + 1) (367 + 9 * f i + y)) (hnum : ∀ i, i < n → ∃ y, y < 2 ^ 20 ∧ Z (m + 1) (367 + 9 * i) = nI y) (hl : A (a + 13) 0 = -4)
    (hC : ∀ W : jM, (∀ x, x ≠ a + 13 → x ≠ a + 22 → W x = A x) → rCost W (a + 3) u v (A (a + 13) 3) = C) (hC2 : gCo Z m t r w b9 = C) (g2 : A (a + 24) 2 = Z (m + 1) 13) (he : A (a + 13) 4 = e) (ht : t < 6) :
    uRes A RA a n (a + 13) m n Z (rUseM A RA a (a + 13) u v n) (rUseR A RA a (a + 13) u v n) (gTB Z m t r w o e b9 num how) C := by
  have hrg : ∀ i, i < 8 → a + 14 ≤ pa RA (a + 11) i ∧ pa RA (a + 11) i < a + 22 := fun i hi => by
    obtain ⟨j, hj, e⟩ := hR.rg hi
    omega
  obtain ⟨u1, u2, u3, u4, u5, u6, u7, u8, u9, u10⟩ := use7_at (u := u) (v := v) (Nat.le_refl (a + 13)) (by omega) hC
  have tz : ∀ j, j ≠ 6 → j ≠ 7 → j ≠ 307 + 10 * t + 9 → (j < 21 ∨ 26 < j) → gT2 Z m t r w o e b9 num how (m + 1) j = Z (m + 1) j := fun j a1 a2 a3 a4 => gT2_s Z a1 a2 a3 a4
  have eG : gTB Z m t r w o e b9 num how = gT3 (gT2 Z m t r w o e b9 num how) m (gS (gT2 Z m t r w o e b9 num how) m C e) := by unfold gTB; rw [hC2]
  rw [eG]
  generalize gT2 Z m t r w o e b9 num how = T at *
  generalize hU : rUse7 A a (a + 13) u v = U at *
  have es : gS T m C e = U (a + 22) 9 := by
    unfold gS
    rw [u8, tz 13 (by decide) (by decide) (by omega) (by decide), g2, he]
  have sB : isB (gS T m C e) := by
    unfold gS
    split
    · exact Or.inl rfl
    · exact Or.inr rfl
  generalize gS T m C e = s at *
  obtain ⟨x1, x2, x3⟩ := gT3_at (m := m) T s
  have key : ∃ X : jM, rUseM A RA a (a + 13) u v n = X ∧ rUseR A RA a (a + 13) u v n = RA ∧ X (a + 13) 7 = A (a + 13) 7 ∧ (∀ j, X (a + 22) j = U (a + 22) j) ∧ X a 11 = A a 11 + s ∧ (∀ j, j ≠ 11 → X a j = A a j) ∧ ∀ x, x ≠ a + 13 → x ≠ a → x ≠ a + 22 → X x = A x := by
    by_cases c : s = 0
    · refine ⟨U, ?_, ?_, u3 7 (by decide) (by decide), fun _ => rfl, ?_, fun j _ => by rw [u10 a (by omega) (by omega)], fun x a1 a2 a3 => u10 x a1 a3⟩
      · unfold rUseM
        rw [hU, ← es, if_pos c]
      · unfold rUseR
        rw [hU, ← es, if_pos c]
      · rw [u10 a (by omega) (by omega), c, Int32.add_zero]
    · have s1 : s = nI 1 := sB.n1 c
      have Vx : ∀ x, x ≠ a + 13 → x ≠ a → x ≠ a + 22 → rSur2 U a (a + 13) x = A x := fun x a1 a2 a3 => by
        unfold rSur2
        rw [jup_row _ _ a1, jup_row _ _ a2, u10 x a1 a3]
      have V0 : rSur2 U a (a + 13) (a + 13) 0 = -4 := by
        unfold rSur2
        rw [jup_nk _ _ (by decide), jup_na _ _ (by omega), u3 _ (by decide) (by decide), hl]
      have e0 : rFirst (qNum (rSur2 U a (a + 13)) RA (a + 11) (rSur2 U a (a + 13) (a + 13) 0)) n = -1 := rFirst_no (fun j hj => by
        have hl := hrg j (by omega)
        rw [qNum, V0, Vx _ (by omega) (by omega) (by omega)]
        refine decide_eq_false (fun e => ?_)
        obtain ⟨y, y1, y2⟩ := hnum _ (hf.1 j hj)
        have := hw j hj 0 (by decide)
        rw [this] at e
        have e2 : Z (m + 1) (367 + 9 * f j) = -4 := e
        rw [y2] at e2
        have : nI y < 0 := by rw [e2]; decide
        exact nI_pos (by omega) this)
      refine ⟨rSur2 U a (a + 13), ?_, ?_, ?_, fun j => ?_, ?_, fun j a1 => ?_, Vx⟩
      · unfold rUseM
        rw [hU, ← es, if_neg c]
        unfold rSurM
        rw [e0]
        split
        · rfl
        · rw [rThrM, if_pos (by decide)]
      · unfold rUseR
        rw [hU, ← es, if_neg c]
        unfold rSurR
        rw [e0]
        split
        · rfl
        · rw [rThrR, if_pos (by decide)]
      · unfold rSur2
        rw [jup_nk _ _ (by decide), jup_na _ _ (by omega), u3 _ (by decide) (by decide)]
      · unfold rSur2
        rw [jup_na _ _ (by omega), jup_na _ _ (by omega)]
      · unfold rSur2
        rw [jup_na _ _ (by omega), jup_eq, u10 a (by omega) (by omega), s1]
      · unfold rSur2
        rw [jup_na _ _ (by omega), jup_nk _ _ a1, u10 a (by omega) (by omega)]
  obtain ⟨X, k0, k1, y7, yl, y11, ya, yx⟩ := key
  rw [k0, k1]
  have Wz : ∀ i y, gT3 T m s (m + 1) (367 + 9 * i + y) = Z (m + 1) (367 + 9 * i + y) := fun i y => by rw [x3 _ (by omega) (by omega), tz _ (by omega) (by omega) (by omega) (by omega)]
  refine ⟨n, f, id, s, 0, Nat.le_refl n, hf, fun i hi y hy => ?_, fun j hj => hj, fun _ _ _ _ e => e, fun j hj => ⟨fun y _ => Wz j y, fun _ => ⟨Wz j 5, Wz j 8⟩, fun h => absurd (show j = n from h) (by omega)⟩, ?_, ?_, ?_, ?_, sB, y11, ?_, ?_, x1, fun x h1 h2 h3 h4 => yx x h1 h2 h4, ya, fun j h1 h2 => ?_, y7, ?_, ?_, ?_, ?_, fun j hj => ?_, hR, fun _ _ => rfl⟩
  · have hl := hrg i (by omega)
    rw [yx _ (by omega) (by omega) (by omega), Wz]
    exact hw i hi y hy
  · rw [yx _ (by omega) (by omega) (by omega)]; exact h2
  · rw [x3 4 (by decide) (by decide), tz 4 (by decide) (by decide) (by omega) (by decide)]; exact h4
  · rw [yx _ (by omega) (by omega) (by omega), Int32.add_zero]
  · rw [x3 10 (by decide) (by decide), tz 10 (by decide) (by decide) (by omega) (by decide), Int32.add_zero]
  · rw [x2, tz 9 (by decide) (by decide) (by omega) (by decide)]
  · rw [yl, es]
  · rw [yx _ (by omega) (by omega) (by omega)]
  · rw [yl, u4]
  · rw [yl, u5]
  · rw [yl, u6]
  · rw [yl, u7]
  · rw [yl, u9 j hj]
end ASM
