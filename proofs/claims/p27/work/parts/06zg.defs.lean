section OPS
variable {M M1 M2 : jM} {R R1 : jR} {a h T v m b nh : Nat} {S S2 : Nat → Int32} {r n n' c b' : Nat} {f f' : Nat → Nat}
theorem mChg_c {x : Nat} (h1 : M1 (m + 1) = M (m + 1)) (h2 : M1 (m + 2) = M (m + 2)) (hx : M1 x = M x) : mChg M1 m nh x = mChg M m nh x := by
  funext j
  unfold mChg
  by_cases c : nh = 4
  · rw [if_pos c, if_pos c]
    simp only [jup, zCp, zSh, h1, h2, hx]
  · rw [if_neg c, if_neg c]
    simp only [jup, zCp, h1, hx]
theorem e_op (I : eInv M R a h T v m b nh) (c1 : ∀ x, (x < a ∨ a + 43 ≤ x) → x ≠ v → M1 x = rPuM M R h a nh x) (c2 : ∀ x, (x < a ∨ a + 43 ≤ x) → R1 x = rPuR R h nh x)
    (m1 : ∀ x, x ≠ m → x ≠ m + 1 → x ≠ m + 4 → M2 x = mChg M1 m nh x) (m2 : ∀ j, (j = 2 ∨ j = 4) → M2 m j = mChg M1 m nh m j) (now : eRep M1 R1 a (M2 (m + 1)) (b + 1)) (hs : SA M1 R1 a) : eInv M2 R1 a h T v m (b + 1) (hNp nh) := by
  have I' := I
  obtain ⟨I1, I2, I3, I4, I5, ⟨len, I6⟩, I7, I8, I9, I10⟩ := I
  have hlo : ∀ x, x < m → M2 x = M1 x := fun x hx => by rw [m1 x (by omega) (by omega) (by omega), mChg_o _ (by omega) (by omega)]
  have hhi : ∀ x, h + 174 ≤ x → x ≠ v → M1 x = M x := fun x hx hv => by rw [c1 x (by omega) hv, rPuM_o I1 (Or.inr hx)]
  have e1 : M1 (m + 1) = M (m + 1) := hhi _ (by omega) (by omega)
  have e2 : M1 (m + 2) = M (m + 2) := hhi _ (by omega) (by omega)
  refine e_chg I' (fun x h1 h2 => ?_) (fun x h1 h2 => c2 x (by omega)) ?_ ?_ ?_ ?_ ?_ ?_ (eRep_c now (eqB_same hs.2.1 (fun x h1 h2 => hlo x (by omega)) rfl) (fun _ _ => rfl) (Nat.le_refl _)) (SA_same hs (fun x h1 h2 => hlo x (by omega)) (fun _ _ _ => rfl))
  · rw [hlo x (by omega), c1 x (by omega) (by omega)]
  · rw [m1 _ (by omega) (by omega) (by omega)]
    exact mChg_c e1 e2 e2
  · rw [m2 2 (Or.inl rfl)]
    exact congrFun (mChg_c e1 e2 (hhi m (by omega) (by omega))) 2
  · rw [hlo _ (by omega), hhi _ (by omega) (by omega)]
  · rw [hlo _ (by omega), hhi _ (by omega) (by omega)]
  · rw [m1 _ (by omega) (by omega) (by omega), mChg_o _ (by omega) (by omega), hhi _ (by omega) (by omega)]
  · rw [m2 4 (Or.inr rfl), mChg_k _ (by decide), hhi _ (by omega) (by omega)]
theorem e_mod (I : eInv M R a h T v m b nh) (c1 : ∀ x, (x < a ∨ a + 43 ≤ x) → x ≠ v → M1 x = rPuM M R h a nh x) : ∀ x, v < x → M1 x = M x := fun x hx => by
  obtain ⟨I1, I2, I3, I4, I5, I6, I7, I8, I9, I10⟩ := I
  rw [c1 x (by omega) (by omega), rPuM_o I1 (by omega)]
/-- the state as it is behind the push -/
theorem e_psh (I : eInv M R a h T v m b nh) (e : eR M R a S b r n c f) : eR (rPuM M R h a nh) (rPuR R h nh) a S b r n c f ∧ SA (rPuM M R h a nh) (rPuR R h nh) a ∧ (∀ x, x < h → rPuM M R h a nh x = M x) ∧ (∀ x, x < h → rPuR R h nh x = R x) := by
  obtain ⟨I1, I2, I3, I4, I5, I6, I7, I8, I9, I10⟩ := I
  have hA := I1.2.2.2.1
  have oa : ∀ x, x < h → rPuM M R h a nh x = M x := fun x hx => rPuM_o I1 (Or.inl hx)
  have ra : ∀ x, x < h → rPuR R h nh x = R x := fun x hx => rPuR_o (by omega)
  exact ⟨eR_c e (eqB_same hA.2.1 (fun x h1 h2 => oa x (by omega)) (ra _ (by omega))) (fun _ _ => rfl) (Nat.le_refl _), SA_same hA (fun x h1 h2 => oa x (by omega)) (fun x h1 h2 => ra x (by omega)), oa, ra⟩
def eVal (S : Nat → Int32) (n c : Nat) : Prop := ∀ q, q < n → isB (S (367 + 9 * q + 7)) ∧ ∃ t, t < c ∧ S (367 + 9 * q + 1) = nI t ∧ ∃ w, (w = 9 ∨ w < zN S t) ∧ S (367 + 9 * q + 3) = nI w
theorem eVal_g {g : Nat → Nat} (hv : eVal S n c) (hg : ∀ q, q < n' → g q < n) (es : ∀ q, q < n' → S2 (367 + 9 * q + 1) = S (367 + 9 * g q + 1) ∧ S2 (367 + 9 * q + 3) = S (367 + 9 * g q + 3) ∧ isB (S2 (367 + 9 * q + 7))) (ez : ∀ t, t < c → zN S2 t = zN S t) : eVal S2 n' c := by
  intro q hq
  obtain ⟨-, t, h2, h3, w, h4, h5⟩ := hv (g q) (hg q hq)
  obtain ⟨e1, e3, e7⟩ := es q hq
  exact ⟨e7, t, h2, e1.trans h3, w, by rw [ez t h2]; exact h4, e3.trans h5⟩
theorem eDis_g {g : Nat → Nat} (hd : eDis S n b) (hg : ∀ q, q < n' → g q < n) (hi : ∀ p q, p < n' → q < n' → g p = g q → p = q) (es : ∀ q, q < n' → ∀ w, (w = 0 ∨ w = 1 ∨ w = 2 ∨ w = 5 ∨ w = 8) → S2 (367 + 9 * q + w) = S (367 + 9 * g q + w)) (e5 : S2 5 = S 5) (e6 : S2 6 = S 6) (hb : b ≤ b') : eDis S2 n' b' := by
  obtain ⟨⟨x, z, h1, h2, h1', h2', h3⟩, h4⟩ := hd
  refine ⟨⟨x, z, by omega, by omega, e5.trans h1', e6.trans h2', fun q hq => ?_⟩, fun p q hp hq hh => ?_⟩
  · obtain ⟨y, u, l, g1, g2, g3, g4, g5, g6⟩ := h3 _ (hg q hq)
    exact ⟨y, u, l, (es q hq 0 (by omega)).trans g1, (es q hq 5 (by omega)).trans g2, (es q hq 8 (by omega)).trans g3, g4, by omega, g6⟩
  · refine hi p q hp hq (h4 _ _ (hg p hp) (hg q hq) ?_)
    have a0 := es p hp 0 (by omega)
    have a1 := es p hp 1 (by omega)
    have a2 := es p hp 2 (by omega)
    have a8 := es p hp 8 (by omega)
    have b0 := es q hq 0 (by omega)
    have b1 := es q hq 1 (by omega)
    have b2 := es q hq 2 (by omega)
    have b8 := es q hq 8 (by omega)
    rcases hh with e | ⟨e, e'⟩ | e
    · exact Or.inl (a0.symm.trans (e.trans b0))
    · exact Or.inr (Or.inl ⟨a1.symm.trans (e.trans b1), a2.symm.trans (e'.trans b2)⟩)
    · exact Or.inr (Or.inr (a8.symm.trans (e.trans b8)))
/-- only the shelf, its counts and the indexes change -/
theorem eR_shelf (e : eR M R a S b r n c f) (hM : ∀ x, a < x → x < a + 43 → (x < a + 11 ∨ a + 22 ≤ x) → M1 x = M x) (ha8 : M1 a 8 = M a 8) (hS : ∀ j, (j = 0 ∨ j = 2 ∨ j = 3 ∨ 11 ≤ j ∧ j < 367) → S2 j = S j) (hcnt : eCnt M1 a S2) (sh : eShf M1 R1 a S2 n' c f') (ds : eDis S2 n' b') : eR M1 R1 a S2 b' r n' c f' := by
  obtain ⟨h1, h2, h3, h4, h5, h6, h7, h8, h9⟩ := e
  have hc6 := h4.2.2.1
  have ez : ∀ t, t < c → zN S2 t = zN S t := fun t ht => zN_c (by omega) (fun j h1 h2 => hS j (by omega))
  exact ⟨eTab_c h1 (by rw [hM _ (by omega) (by omega) (by omega)]) (fun j _ => by rw [hM _ (by omega) (by omega) (by omega)]) (fun j _ => hS j (by omega)), eSum_c h2 h1.2.2.1 (by rw [hM _ (by omega) (by omega) (by omega)]) (fun j _ => by rw [hM _ (by omega) (by omega) (by omega)]) (fun j _ _ => hS j (by omega)),
    eKno_c h3 (by rw [hM _ (by omega) (by omega) (by omega)]) (fun j _ => by rw [hM _ (by omega) (by omega) (by omega)]) (fun j _ => hS j (by omega)),
    eStm_c h4 ha8 (fun t ht j _ _ => by rw [hM _ (by omega) (by omega) (by omega)]) (fun t ht k hk => ⟨by rw [hM _ (by omega) (by omega) (by omega)], by rw [hM _ (by omega) (by omega) (by omega)]⟩) (fun j _ => hS j (by omega)),
    eSet_c h5 (fun k hk => by rw [hM _ (by omega) (by omega) (by omega)]) (fun j _ _ => hS j (by omega)), hcnt,
    eLst_c h7 (Nat.le_refl c) (fun j _ _ => by rw [hM _ (by omega) (by omega) (by omega)]) (fun k _ => by rw [hM _ (by omega) (by omega) (by omega)]) (fun j _ _ => hS j (by omega)) ez, sh, ds⟩
theorem eDis.num (hd : eDis S n b) : ∀ p q, p < n → q < n → S (367 + 9 * p) = S (367 + 9 * q) → p = q := fun p q hp hq e => hd.2 p q hp hq (Or.inl e)
theorem eDis.cls (hd : eDis S n b) : ∀ p q, p < n → q < n → S (367 + 9 * p + 1) = S (367 + 9 * q + 1) → S (367 + 9 * p + 2) = S (367 + 9 * q + 2) → p = q := fun p q hp hq e e' => hd.2 p q hp hq (Or.inr (Or.inl ⟨e, e'⟩))
theorem eDis.ord (hd : eDis S n b) (hb : b ≤ 100000) : eOrd S n := by
  obtain ⟨⟨x, z, h1, h2, h1', h2', h3⟩, h4⟩ := hd
  refine ⟨fun q hq => ?_, fun p q hp hq e => h4 p q hp hq (Or.inr (Or.inr e))⟩
  obtain ⟨y, u, l, g1, g2, g3, g4, g5, g6⟩ := h3 q hq
  exact ⟨u, l, by omega, by omega, g2, g3⟩
end OPS
