/-! a run in the class against a run in the law's rows -/
theorem zRn_1 (M : jM) (m nh : Nat) (s v0 v1 v2 v3 : Int32) (j : Nat) : zRn M m nh s v0 v1 v2 v3 (m + 1) j = if j = 16 then s else if 17 ≤ j ∧ j < 21 then mTk M m v0 v1 v2 v3 (m + 4) (j - 17) else M (m + 1) j := by
  by_cases h : j < 16 ∨ 20 < j
  · rw [zRn_a h, if_neg (by omega), if_neg (by omega)]
  · by_cases h16 : j = 16
    · rw [if_pos h16, h16, zRn, zVl_a _ _ (by omega), zRn0, jup_eq]
    · rw [if_neg h16, if_pos (by omega)]
      obtain ⟨k, rfl⟩ : ∃ k, j = 17 + k := ⟨j - 17, by omega⟩
      rw [zRn, zVl_at 4 (Nat.le_refl 4) k (by omega), zRn0, jup_row _ _ (by omega), mChg_o _ (by omega) (by omega), Nat.add_sub_cancel_left]
theorem zRn_4 (M : jM) (m nh : Nat) (s v0 v1 v2 v3 : Int32) : zRn M m nh s v0 v1 v2 v3 (m + 4) = mTk M m v0 v1 v2 v3 (m + 4) := by
  rw [zRn, zVl_o _ 4 (by omega), zRn0, jup_row _ _ (by omega), mChg_o _ (by omega) (by omega)]
theorem mTk_row {M M' : jM} {m : Nat} (v0 v1 v2 v3 : Int32) (h : M (m + 4) = M' (m + 4)) : mTk M m v0 v1 v2 v3 (m + 4) = mTk M' m v0 v1 v2 v3 (m + 4) := by
  funext j
  simp only [mTk, jup, h]
theorem E2_rn {M M' : jM} {m : Nat} (nh nh' : Nat) (s v0 v1 v2 v3 : Int32) (h1 : M (m + 1) = M' (m + 1)) (h4 : M (m + 4) = M' (m + 4)) : E2 (zRn M m nh s v0 v1 v2 v3) (zRn M' m nh' s v0 v1 v2 v3) m := by
  refine ⟨?_, ?_⟩
  · funext j
    rw [zRn_1, zRn_1, mTk_row v0 v1 v2 v3 h4, h1]
  · rw [zRn_4, zRn_4, mTk_row v0 v1 v2 v3 h4]
section LR9
variable {ω : jW} {γ : jG} {M M1 N : jM} {R R1 : jR} {x a h T v m d b nh nh' r n c len t cap : Nat} {f : Nat → Nat} {V : Nat → Int32}
theorem mTk_V (M : jM) (m : Nat) (V : Nat → Int32) : ∀ k, k < 4 → mTk M m (V 0) (V 1) (V 2) (V 3) (m + 4) k = V k := fun k hk => by
  obtain ⟨b0, b1, b2, b3⟩ := mTk_v M m (V 0) (V 1) (V 2) (V 3)
  match k, hk with
  | 0, _ => exact b0
  | 1, _ => exact b1
  | 2, _ => exact b2
  | 3, _ => exact b3
theorem op_run (J : LJ M R a h T v m b nh r n c len f) (hb : b ≤ 100000) (ht : t < c) (hV : ∀ k, k < 4 → ¬ zTkF V (zN (M (m + 1)) t) k = 0) (hE : E2 N (zRn M m nh' (nI t) (V 0) (V 1) (V 2) (V 3)) m) :
    fRun M R a h v nh n r (nI t) (V 0) (V 1) (V 2) (V 3) = sI (zAllF (zGoes N m t r n (zN (N (m + 1)) t) (m + 1)) (N (m + 4)) t (zN (N (m + 1)) t)) r ∧
    ∃ M3, (∀ y, y < m → M3 y = mRun M R a h v nh n (nI t) (V 0) (V 1) (V 2) (V 3) y) ∧ (∀ y, v < y → y < m → M3 y = M y) ∧ M3 (m + 1) = zGoes N m t r n (zN (N (m + 1)) t) (m + 1) ∧ M3 m 4 = M m 4 ∧ ∃ nh2, eInv M3 (pRun M R a h v nh n (nI t) (V 0) (V 1) (V 2) (V 3)) a h T v m (b + 1) nh2 := by
  obtain ⟨md, eq, nh2, I3⟩ := st_run J.1 J.2.1 hb (nI t) (V 0) (V 1) (V 2) (V 3)
  have hvm : v < m := J.1.2.2.2.2.2.2.2.2.2
  obtain ⟨n0, n1, n2, n3, n4, n5, n6, n7⟩ := J.num
  generalize hM2 : mRun M R a h v nh n (nI t) (V 0) (V 1) (V 2) (V 3) = M2 at md eq I3 ⊢
  have et : (nI t).toNatClampNeg = t := nI_clamp (by omega)
  have e1 : M2 (m + 1) = M (m + 1) := md _ (by omega)
  have e4 : M2 (m + 4) = M (m + 4) := md _ (by omega)
  have c0 : ¬ zTks (M2 (m + 1)) (mTk M2 m (V 0) (V 1) (V 2) (V 3) (m + 4)) (nI t) = 0 := by
    rw [e1]
    refine zTks_yes n4 n5 ht (fun k hk => ?_)
    have := hV k hk
    unfold zTkF at this ⊢
    rw [mTk_V M2 m V k hk]
    exact this
  have E : E2 N (zRn M2 m nh (nI t) (V 0) (V 1) (V 2) (V 3)) m := by
    have E' := E2_rn (M := M2) (M' := M) nh nh' (nI t) (V 0) (V 1) (V 2) (V 3) e1 e4
    exact ⟨hE.1.trans E'.1.symm, hE.2.trans E'.2.symm⟩
  have ez : zN (N (m + 1)) t = zN (M2 (m + 1)) t := by unfold zN; rw [E.1, zRn_a (by omega)]
  have hN4 : N (m + 1) 4 = nI n := by rw [E.1, zRn_a (by omega), e1]; exact n2
  have hZ4 : zRn M2 m nh (nI t) (V 0) (V 1) (V 2) (V 3) (m + 1) 4 = nI n := by rw [zRn_a (by omega), e1]; exact n2
  have G := E2_goes E t r n (zN (M2 (m + 1)) t)
  have q3 : zmRun M2 m nh r n (nI t) (V 0) (V 1) (V 2) (V 3) = zGoes (zRn M2 m nh (nI t) (V 0) (V 1) (V 2) (V 3)) m t r n (zN (M2 (m + 1)) t) := by rw [zmRun, if_neg c0, et]
  rw [q3] at I3
  have go : ∀ y, y ≠ m + 1 → zGoes (zRn M2 m nh (nI t) (V 0) (V 1) (V 2) (V 3)) m t r n (zN (M2 (m + 1)) t) y = zRn M2 m nh (nI t) (V 0) (V 1) (V 2) (V 3) y := fun y hy => zGoes_o hZ4 hy
  have zo : ∀ y, y ≠ m + 1 → zRn M2 m nh (nI t) (V 0) (V 1) (V 2) (V 3) y = mChg (mTk M2 m (V 0) (V 1) (V 2) (V 3)) m nh y := fun y hy => by rw [zRn, zVl_o _ 4 hy, zRn0, jup_row _ _ hy]
  have lo : ∀ y, y < m → zGoes (zRn M2 m nh (nI t) (V 0) (V 1) (V 2) (V 3)) m t r n (zN (M2 (m + 1)) t) y = M2 y := fun y hy => by
    rw [go y (by omega), zo y (by omega), mChg_o _ (by omega) (by omega), mTk_o _ _ _ _ _ (by omega)]
  refine ⟨?_, _, lo, fun y h1 h2 => by rw [lo y h2, md y h1], ?_, ?_, nh2, I3⟩
  · rw [eq, zfRun, if_neg c0, et, ez, G.1, go (m + 4) (by omega), E.2]
  · rw [ez, G.1]
  · rw [go m (by omega), zo m (by omega), mChg_k _ (by decide), mTk_o _ _ _ _ _ (by omega), md m hvm]
theorem lP0_of (J : LJ M R a h T v m b nh r n c len f) (A : lA M d (M (m + 1)) r n c b) (hb : b ≤ 90000) (ht : t < c) (v0 v1 v2 v3 : Int32) : ∃ cap, lP0 M d r c n b cap (zRn M m nh' (nI t) v0 v1 v2 v3) m t := by
  obtain ⟨n0, n1, n2, n3, n4, n5, n6, n7⟩ := J.num
  obtain ⟨a1, a2, a3, a4, a5, a6, a7, a8, a9⟩ := id A
  have e := J.2.1
  have Z := zRd_of e a7
  have hr := Z.2.1
  have hc := Z.2.2.2.2.1
  obtain ⟨-, cap, hc8, hc1, hcap⟩ := e.2.2.2.2.1
  have hd := e.2.2.2.2.2.2.2.2
  obtain ⟨-, -, -, -, -, hp⟩ := e.2.2.2.2.2.2.2.1
  obtain ⟨⟨xx, zz, hx, hz, -, -, hpl⟩, -⟩ := id hd
  generalize hN : zRn M m nh' (nI t) v0 v1 v2 v3 = N
  have ej : ∀ j, (j < 16 ∨ 20 < j) → N (m + 1) j = M (m + 1) j := fun j hj => by rw [← hN]; exact zRn_a hj
  have e16 : N (m + 1) 16 = nI t := by rw [← hN, zRn_1, if_pos rfl]
  refine ⟨cap, fun k hk => by rw [ej k (by omega)]; exact a1 k hk, fun k hk => by rw [lPk_c (S := M (m + 1)) (fun i hi => ej _ (by omega))]; exact a2 k hk, fun i hi => by rw [ej _ (by omega)]; exact a3 i hi, lSt_c (zN4_of Z) a4 rfl (fun j h1 h2 => ej j (by omega)), lPl_c a5 rfl (fun j h1 h2 => ej j (by omega)), xKn_c a7 (fun j hj => ej j (by omega)), xRn_c a8 (fun j hj => ej j (by omega)), xSp_c a9 (Nat.le_refl b) (fun j h1 h2 => ej j (by omega)),
    zRd_k2 Z (fun j hj => ej j (by omega)) (fun t2 ht2 j h1 h2 => ej j (by omega)), (ej 4 (by omega)).trans n2, n3, (ej 15 (by omega)).trans hcap, hc8, hc1, ?_, fun q hq => ?_, fun q hq => ?_, e16, ht⟩
  · exact eOrd_g (hd.ord (by omega)) (g := fun q => q) (fun q hq => hq) (fun _ _ _ _ e => e) (fun q hq y hy => ej _ (by omega))
  · rw [ej _ (by omega), ej _ (by omega)]
    obtain ⟨y, u, l, y1, -, -, y2, -, -⟩ := hpl q hq
    exact ⟨(hp q hq).1, y, by omega, y1⟩
  · obtain ⟨-, t2, ht2, et2, y, hy, ey⟩ := hp q hq
    refine ⟨t2, ht2, by rw [ej _ (by omega)]; exact et2, y, ?_, by rw [ej _ (by omega)]; exact ey⟩
    have : zN (N (m + 1)) t2 = zN (M (m + 1)) t2 := by unfold zN; rw [ej _ (by omega)]
    rw [this]
    exact hy
/-- behind a run: what the class became, and the law's rows -/
theorem op_runs {n' w : Nat} (J : LJ M R a h T v m b nh r n c 0 f) (hb : b ≤ 90000) (hvd : v < d) (hdw : d + 6 ≤ w) (hwm : w < m) (ht : t < c) (hV : ∀ k, k < 4 → ¬ zTkF V (zN (M (m + 1)) t) k = 0) (hN : N = zRn M m nh (nI t) (V 0) (V 1) (V 2) (V 3))
    (hM1 : ∀ x, (x < d ∨ d + 6 ≤ x) → M1 x = M x) (A1 : lA M1 d (zGoes N m t r n (zN (N (m + 1)) t) (m + 1)) r n' c (b + 1)) (hn' : n' ≤ 8) (h4 : zGoes N m t r n (zN (N (m + 1)) t) (m + 1) 4 = nI n') :
    LJ M1 R a h T v m (b + 1) nh r n c 0 f ∧ fRun M1 R a h v nh n r (nI t) (V 0) (V 1) (V 2) (V 3) = sI (zAllF (zGoes N m t r n (zN (N (m + 1)) t) (m + 1)) (N (m + 4)) t (zN (N (m + 1)) t)) r ∧
    ∃ M3, (∀ y, y < m → M3 y = mRun M1 R a h v nh n (nI t) (V 0) (V 1) (V 2) (V 3) y) ∧ ∃ nh2 f2, LJ M3 (pRun M1 R a h v nh n (nI t) (V 0) (V 1) (V 2) (V 3)) a h T v m (b + 2) nh2 r n' c 0 f2 ∧ lA M3 d (M3 (m + 1)) r n' c (b + 2) := by
  have J1 := LJ_law J hvd (by omega) hM1
  obtain ⟨n0, n1, n2, n3, n4, n5, n6, n7⟩ := J1.num
  have e1 : M1 (m + 1) = M (m + 1) := hM1 _ (by omega)
  have e4 : M1 (m + 4) = M (m + 4) := hM1 _ (by omega)
  have E : E2 N (zRn M1 m nh (nI t) (V 0) (V 1) (V 2) (V 3)) m := by rw [hN]; exact E2_rn nh nh _ _ _ _ _ e1.symm e4.symm
  obtain ⟨q1, M3, lo, md, em, el, nh2, I3⟩ := op_run J1 (by omega) ht (by rw [e1]; exact hV) E
  have hN4 : N (m + 1) 4 = nI n := by rw [E.1, zRn_a (by omega)]; exact n2
  have s : ∀ j, (j = 0 ∨ j = 3) → M3 (m + 1) j = M1 (m + 1) j := fun j hj => by rw [em, zGoes_s hN4 (by omega) (by omega), E.1, zRn_a (by omega)]
  obtain ⟨f2, J3⟩ := LJ_to I3 ((s 0 (Or.inl rfl)).trans n0) n1 (by rw [em]; exact h4) hn' ((s 3 (Or.inr rfl)).trans n4) n5 (el.trans n6) n7
  refine ⟨J1, q1, M3, lo, nh2, f2, J3, ?_⟩
  rw [em]
  exact lA_b (lA_M A1 (fun y y1 y2 => md y (by omega) (by omega))) (by omega)
end LR9
