section RNC
variable {A B Z0 F G M M' : jM} {Rp RA RF : jR} {a u v n k p m t r w q b c : Nat} {f : Nat → Nat} {o e b9 num how d0 C : Int32} {S S' V : Nat → Int32}
theorem mis_at {E3 : jM} {est : Int32} {nc : Nat} (hp : a + 13 ≤ rMisP E3 Rp a n ∧ rMisP E3 Rp a n < a + 22) (hw : rBest (rMis3 E3 Rp a n) a (a + 5) u v nc = nI w) (he : ∀ W : jM, (∀ x, x ≠ rMisP E3 Rp a n → W x = rMis3 E3 Rp a n x) → rCost W (a + 5) u v (nI w) = est) :
    rMisM E3 Rp a u v n nc = jup (jup (jup (rMis3 E3 Rp a n) (rMisP E3 Rp a n) 3 (nI w)) (rMisP E3 Rp a n) 4 est) (a + 22) 8 (if rMis3 E3 Rp a n (rMisP E3 Rp a n) 0 = -4 then nI 2 else nI 1) := by
  have e4 : rMis4 E3 Rp a u v n nc = jup (rMis3 E3 Rp a n) (rMisP E3 Rp a n) 3 (nI w) := by rw [rMis4, hw]
  have e5 : rMis5 E3 Rp a u v n nc = jup (jup (rMis3 E3 Rp a n) (rMisP E3 Rp a n) 3 (nI w)) (rMisP E3 Rp a n) 4 est := by
    rw [rMis5, e4, jup_eq, he _ (fun x hx => jup_row _ _ hx)]
  rw [rMisM, e5, jup_nk _ _ (show (0 : Nat) ≠ 4 by decide), jup_nk _ _ (show (0 : Nat) ≠ 3 by decide)]
set_option maxHeartbeats 1000000 in
theorem run_core (eB : eR B Rp a S b r n c f) (pA : SA B Rp a) (ht : t < c) (hb : b ≤ 100000) (hv : v < a ∨ a + 43 ≤ v) (hV : ∀ k, k < 4 → B v k = V k) (hV2 : ∀ k, k < 4 → ¬ zTkF V (zN S t) k = 0) (z0 : ∀ j, (j < 16 ∨ 20 < j) → Z0 (m + 1) j = S j) (z1 : Z0 (m + 1) 16 = nI t) (z2 : ∀ k, k < 4 → Z0 (m + 1) (17 + k) = V k) (z4 : Z0 (m + 4) = V) :
    (∃ n2 f2, eR (rExM B Rp a (a + 25 + 3 * t) v t n (zN S t)) (rExR B Rp a (a + 25 + 3 * t) v t n (zN S t)) a (zGoes Z0 m t r n (zN S t) (m + 1)) (b + 1) r n2 c f2) ∧ SA (rExM B Rp a (a + 25 + 3 * t) v t n (zN S t)) (rExR B Rp a (a + 25 + 3 * t) v t n (zN S t)) a ∧
      (∀ x, (x < a ∨ a + 43 ≤ x) → rExM B Rp a (a + 25 + 3 * t) v t n (zN S t) x = B x) ∧ (∀ x, (x < a ∨ a + 43 ≤ x) → rExR B Rp a (a + 25 + 3 * t) v t n (zN S t) x = Rp x) := by
  obtain ⟨hT, hU, hK, hS, hE, hX, hL, ⟨hk2, hk4, hn8, hf, hwd, hval⟩, hD⟩ := id eB
  have hc6 := hS.2.2.1
  have hr30 := hT.2.2.1
  have hT0 : eTab B a (Z0 (m + 1)) r := eTab_c hT rfl (fun _ _ => rfl) (fun j hj => z0 j (by omega))
  have hU0 : eSum B a (Z0 (m + 1)) r := eSum_c hU hr30 rfl (fun _ _ => rfl) (fun j _ _ => z0 j (by omega))
  have hK0 : eKno B a (Z0 (m + 1)) := eKno_c hK rfl (fun _ _ => rfl) (fun j hj => z0 j (by omega))
  have hS0 : eStm B a (Z0 (m + 1)) c := eStm_c hS rfl (fun _ _ _ _ _ => rfl) (fun _ _ _ _ => ⟨rfl, rfl⟩) (fun j hj => z0 j (by omega))
  have hE0 : eSet B a (Z0 (m + 1)) := eSet_c hE (fun _ _ => rfl) (fun j _ _ => z0 j (by omega))
  have ezn : zN (Z0 (m + 1)) t = zN S t := by rw [zN, zN, z0 _ (by omega)]
  have hst := (hS.2.2.2 t ht).1
  have hn4 : zN S t ≤ 4 := hst.2.2.2.1
  have hcl := q_cls hK0 hE0 hS0 ht hV
  have hbw := q_bw0 hK0 hS0 (by rw [z0 1 (by omega)]; exact hX.1) ht hV
  rw [ezn] at hcl hbw
  obtain ⟨cap, hcap8, hcap1, hcap⟩ := hE.2
  -- the class's beginning
  obtain ⟨E0, ⟨Ea9, Ea⟩, ⟨Eu3, Eu⟩, ⟨El1, El2, El3, El10⟩, Ev⟩ := E3_at (B := B) (a := a) (u := a + 25 + 3 * t) (v := v) (t := t) (o := zCls (Z0 (m + 1)) V t (zN S t) (zN S t)) (by omega) hv (by omega)
  have eE : rE3 B a (a + 25 + 3 * t) v t (zN S t) = rLBegin (rE2 B a (a + 25 + 3 * t)) (a + 22) v (nI t) (zCls (Z0 (m + 1)) V t (zN S t) (zN S t)) := by
    have hr2 : ∀ x, x ≠ a → x ≠ a + 25 + 3 * t → rE2 B a (a + 25 + 3 * t) x = B x := fun x h1 h2 => by rw [rE2, jup_row _ _ h2, jup_row _ _ h1]
    rw [rE3, rCls_c (M := B) (hr2 _ (by omega) (by omega)) (hr2 _ (by omega) (by omega)) (hr2 _ (by omega) (by omega)) (hr2 _ (by omega) (by omega)) (hr2 _ (by omega) (by omega)) (hr2 _ (by omega) (by omega)), hcl]
  unfold rExM rExR rE4 rEP rER
  rw [eE]
  have eo : gO Z0 m t (zN S t) = zCls (Z0 (m + 1)) V t (zN S t) (zN S t) := by rw [gO, z4]
  generalize zCls (Z0 (m + 1)) V t (zN S t) (zN S t) = oc at *
  generalize rLBegin (rE2 B a (a + 25 + 3 * t)) (a + 22) v (nI t) oc = E3 at *
  have hrg : ∀ i, i < 8 → a + 14 ≤ pa Rp (a + 11) i ∧ pa Rp (a + 11) i < a + 22 := fun i hi => by
    obtain ⟨j, hj, e⟩ := pA.2.1.rg hi
    omega
  have wd0 : ∀ i, i < n → ∀ y, y < 9 → B (pa Rp (a + 11) i) y = Z0 (m + 1) (367 + 9 * f i + y) := fun i hi y hy => by
    rw [z0 _ (by omega)]
    exact hwd i hi y hy
  have wd : eWds E3 Rp (a + 11) (Z0 (m + 1)) n f := fun i hi y hy => by
    have hl := hrg i (by omega)
    rw [E0 _ (by omega) (by omega) (by omega) (by omega)]
    exact wd0 i hi y hy
  have hcls0 : ∀ p q, p < n → q < n → Z0 (m + 1) (367 + 9 * p + 1) = Z0 (m + 1) (367 + 9 * q + 1) → Z0 (m + 1) (367 + 9 * p + 2) = Z0 (m + 1) (367 + 9 * q + 2) → p = q := fun p q hp hq e1 e2 => by
    rw [z0 _ (by omega), z0 _ (by omega)] at e1 e2
    exact hD.cls p q hp hq e1 e2
  have ord0 : eOrd (Z0 (m + 1)) n := eOrd_g (g := id) (hD.ord hb) (fun q hq => hq) (fun _ _ _ _ e => e) (fun q hq y hy => z0 _ (by omega))
  have hK3 : E3 (a + 11) 2 = nI n := by rw [E0 _ (by omega) (by omega) (by omega) (by omega)]; exact hk2
  have ePl : rPlc E3 Rp a n = rFirst (qFor E3 Rp (a + 11) (nI t) oc) n := by rw [rPlc, El2, El3]
  have egP : gP Z0 m t n (zN S t) = zLast (zFor (Z0 (m + 1)) (nI t) oc) n := by rw [gP, eo]
  have hct : ∀ k, k < 4 → ∀ w, w < zN S t → w = k → zCol (Z0 (m + 1)) t k < 4 := fun k hk w hw e => by
    have := (hst.2.2.2.2 k (by omega)).2
    rw [zCol, z0 _ (by omega)]
    exact this
  rcases sh_for hf wd hcls0 (nI t) oc with ⟨k, hk, e1, e2, e3, e3'⟩ | ⟨e1, e2, e3⟩
  · -- the plan is there
    have hfk := hf.1 k hk
    obtain ⟨-, t', ht', hte, w, hw, hwe⟩ := hval _ hfk
    have ett : t' = t := by
      rw [z0 _ (by omega)] at e3
      exact (nI_eq (by omega) (by omega)).mp (hte.symm.trans e3)
    rw [ett] at hw
    have hne : ¬ rPlc E3 Rp a n = -1 := by rw [ePl, e1]; exact nI_nem1 (by omega)
    have ep : rPFP E3 Rp a n = pa Rp (a + 11) k := by rw [rPFP, if_neg hne, ePl, e1, rPA_N _ _ (by omega)]
    have eR' : rPFR E3 Rp a n = Rp := by rw [rPFR, if_neg hne]
    have eM : rPFM E3 Rp a (a + 25 + 3 * t) v n (zN S t) = jup (jup E3 a 10 (E3 a 10 + nI 1)) (a + 22) 8 (nI 0) := by rw [rPFM, if_neg hne, rHitM]
    rw [ep, eR', eM]
    have hpk := hrg k (by omega)
    have Ao : ∀ x, x ≠ a → x ≠ a + 22 → jup (jup E3 a 10 (E3 a 10 + nI 1)) (a + 22) 8 (nI 0) x = E3 x := fun x h1 h2 => by rw [jup_row _ _ h2, jup_row _ _ h1]
    have Aa : ∀ j, j ≠ 10 → jup (jup E3 a 10 (E3 a 10 + nI 1)) (a + 22) 8 (nI 0) a j = E3 a j := fun j hj => by rw [jup_na _ _ (by omega), jup_nk _ _ hj]
    have Aa10 : jup (jup E3 a 10 (E3 a 10 + nI 1)) (a + 22) 8 (nI 0) a 10 = B a 10 + nI 1 := by rw [jup_na _ _ (by omega), jup_eq, Ea _ (by decide)]
    have Al : ∀ j, j ≠ 8 → jup (jup E3 a 10 (E3 a 10 + nI 1)) (a + 22) 8 (nI 0) (a + 22) j = E3 (a + 22) j := fun j hj => by rw [jup_nk _ _ hj, jup_na _ _ (by omega)]
    have Al8 : jup (jup E3 a 10 (E3 a 10 + nI 1)) (a + 22) 8 (nI 0) (a + 22) 8 = nI 0 := jup_eq _ _ _ _
    have A2n : jup (jup E3 a 10 (E3 a 10 + nI 1)) (a + 22) 8 (nI 0) (a + 11) 2 = nI n := by rw [Ao _ (by omega) (by omega)]; exact hK3
    have AB : ∀ x, a ≤ x → x < a + 43 → x ≠ a → (x < a + 11 ∨ a + 24 ≤ x) → x ≠ a + 25 + 3 * t → jup (jup E3 a 10 (E3 a 10 + nI 1)) (a + 22) 8 (nI 0) x = B x := fun x h1 h2 h3 h4 h5 => by rw [Ao x h3 (by omega), E0 x h3 h5 (by omega) (by omega)]
    have AB2 : ∀ x, x ≠ a → x ≠ a + 22 → x ≠ a + 23 → x ≠ a + 25 + 3 * t → jup (jup E3 a 10 (E3 a 10 + nI 1)) (a + 22) 8 (nI 0) x = B x := fun x h1 h2 h3 h4 => by rw [Ao x h1 h2, E0 x h1 h4 h2 h3]
    have Au : ∀ j, j ≠ 3 → jup (jup E3 a 10 (E3 a 10 + nI 1)) (a + 22) 8 (nI 0) (a + 25 + 3 * t) j = B (a + 25 + 3 * t) j := fun j hj => by rw [Ao _ (by omega) (by omega), Eu j hj]
    have Au3 : jup (jup E3 a 10 (E3 a 10 + nI 1)) (a + 22) 8 (nI 0) (a + 25 + 3 * t) 3 = B (a + 25 + 3 * t) 3 + nI 1 := by rw [Ao _ (by omega) (by omega), Eu3]
    have Av : ∀ k, k < 4 → jup (jup E3 a 10 (E3 a 10 + nI 1)) (a + 22) 8 (nI 0) (a + 23) k = V k := fun k hk => by rw [Ao _ (by omega) (by omega), Ev k hk, hV k hk]
    have Ap : ∀ i, i < n → ∀ y, y < 9 → jup (jup E3 a 10 (E3 a 10 + nI 1)) (a + 22) 8 (nI 0) (pa Rp (a + 11) i) y = Z0 (m + 1) (367 + 9 * f i + y) := fun i hi y hy => by
      have hl := hrg i (by omega)
      rw [Ao _ (by omega) (by omega)]
      exact wd i hi y hy
    rw [rN_eq A2n hn8]
    generalize jup (jup E3 a 10 (E3 a 10 + nI 1)) (a + 22) 8 (nI 0) = A at *
    have eZ := zGoes_there (M := Z0) (m := m) (t := t) (r := r) (n := n) (nc := zN S t) (q := f k) (w := w) (by rw [egP, e2]; exact nI_pos (by omega)) (by rw [egP, e2]) (by omega) (by rw [z0 _ (by omega)]; exact hwe) (by omega)
    rw [eo] at eZ
    rw [eZ]
    have zz : ∀ j, j ≠ 28 → jup Z0 (m + 1) 28 (-4) (m + 1) j = Z0 (m + 1) j := fun j hj => jup_nk _ _ hj
    have eC : ∀ W : jM, (∀ x, x ≠ pa Rp (a + 11) k → x ≠ a + 22 → W x = A x) → rCost W (a + 3) (a + 25 + 3 * t) v (A (pa Rp (a + 11) k) 3) = gCo (jup Z0 (m + 1) 28 (-4)) m t r w (nI 1) := fun W hW => by
      have h3 : A (pa Rp (a + 11) k) 3 = nI w := by rw [Ap k hk 3 (by decide), z0 _ (by omega)]; exact hwe
      have hWB : ∀ x, (x < a ∨ a + 43 ≤ x ∨ (a + 1 ≤ x ∧ x < a + 7) ∨ (a + 25 ≤ x ∧ x < a + 43 ∧ x ≠ a + 25 + 3 * t)) → W x = B x := fun x hx => by rw [hW x (by omega) (by omega), AB2 x (by omega) (by omega) (by omega) (by omega)]
      rw [h3, rCost_c (M := B) (hWB _ (by omega)) (hWB _ (by omega)) (hWB _ (by omega)) (hWB _ (by omega)) (hWB _ (by omega)), q_c1 hT0 hU0 hS0 ht (by rw [ezn]; exact hw) hV, gCo]
      have e4 : gT1 (jup Z0 (m + 1) 28 (-4)) m t (nI 1) (m + 4) = V := by rw [← z4]; unfold gT1; rw [jup_row _ _ (by omega), jup_row _ _ (by omega), jup_row _ _ (by omega), jup_row _ _ (by omega)]
      rw [e4]
      exact (zC1_c hr30 (by omega) (fun k hk hwk => hct k hk w (by omega) hwk) (fun j h1 h2 => by rw [gT1_s _ (by omega) (by omega) (by omega), zz j (by omega)]) (fun j h1 h2 => by rw [gT1_s _ (by omega) (by omega) (by omega), zz j (by omega)])).symm
    have U := use_k (A := A) (Z := jup Z0 (m + 1) 28 (-4)) (RA := Rp) (a := a) (u := a + 25 + 3 * t) (v := v) (n := n) (k := k) (p := pa Rp (a + 11) k) (m := m) (t := t) (r := r) (w := w) (q := f k) (f := f) (o := oc) (e := Z0 (m + 1) (367 + 9 * f k + 4)) (b := nI 1) (num := gT1 (jup Z0 (m + 1) 28 (-4)) m t (nI 1) (m + 1) (367 + 9 * f k + 0)) (how := nI 0) hn8 hk pA.2.1 hf rfl rfl A2n (by rw [zz _ (by decide), z0 _ (by decide)]; exact hk4)
      (fun i hi y hy _ => by rw [zz _ (by omega)]; exact Ap i hi y hy) (fun i j hi hj hh => by
        rw [zz _ (by omega), zz _ (by omega), z0 _ (by omega), z0 _ (by omega)] at hh
        exact hD.num i j hi hj hh) eC rfl (by rw [AB2 _ (by omega) (by omega) (by omega) (by omega), zz _ (by decide), z0 _ (by decide)]; exact hE.1 2 (by decide)) (by rw [AB2 _ (by omega) (by omega) (by omega) (by omega), zz _ (by decide), z0 _ (by decide)]; exact hE.1 3 (by decide)) (by rw [Aa _ (by decide), Ea9, zz _ (by decide), z0 _ (by decide), hX.2.1]) (Ap k hk 4 (by decide)) (by omega)
    have zv : eVal (jup Z0 (m + 1) 28 (-4) (m + 1)) n c := eVal_g (g := id) hval (fun q hq => hq) (fun q hq => ⟨by rw [zz _ (by omega), z0 _ (by omega)]; rfl, by rw [zz _ (by omega), z0 _ (by omega)]; rfl, by rw [zz _ (by omega), z0 _ (by omega)]; exact (hval q hq).1⟩) (fun y hy => by rw [zN, zN, zz _ (by omega), z0 _ (by omega)])
    have zd : pDis (jup Z0 (m + 1) 28 (-4) (m + 1)) n (f k) b := by
      obtain ⟨⟨x, z, d1, d2, d3, d4, d5⟩, d6⟩ := hD
      refine ⟨⟨x, z, by omega, d2, by rw [zz _ (by omega), z0 _ (by omega)]; exact d3, by rw [zz _ (by omega), z0 _ (by omega)]; exact d4, fun i hi => ?_⟩, fun i j hi hj hh => ?_, fun i j hi hj _ _ hh => ?_⟩
      · obtain ⟨y, u', l, g1, g2, g3, g4, g5, g6⟩ := d5 i hi
        exact ⟨y, u', by rw [zz _ (by omega), z0 _ (by omega)]; exact g1, by rw [zz _ (by omega), z0 _ (by omega)]; exact g2, g4, g5, fun _ => ⟨l, by rw [zz _ (by omega), z0 _ (by omega)]; exact g3, g6⟩⟩
      · rw [zz _ (by omega), zz _ (by omega), zz (367 + 9 * i + 1) (by omega), zz (367 + 9 * i + 2) (by omega), zz (367 + 9 * j + 1) (by omega), zz (367 + 9 * j + 2) (by omega), z0 _ (by omega), z0 _ (by omega), z0 (367 + 9 * i + 1) (by omega), z0 (367 + 9 * i + 2) (by omega), z0 (367 + 9 * j + 1) (by omega), z0 (367 + 9 * j + 2) (by omega)] at hh
        exact d6 i j hi hj (hh.elim Or.inl (fun q => Or.inr (Or.inl q)))
      · rw [zz _ (by omega), zz _ (by omega), z0 _ (by omega), z0 _ (by omega)] at hh
        exact d6 i j hi hj (Or.inr (Or.inr hh))
    have fl : ∀ x, a + 14 ≤ x → x < a + 22 → isB (A x 7) := fun x h1 h2 => by
      obtain ⟨k', hk', ek'⟩ := SR_sur pA.2.1 (show x - (a + 14) < 8 by omega)
      have := pA.2.2.1 k' hk'
      rw [ek', show a + 11 + 3 + (x - (a + 14)) = x by omega] at this
      rw [AB2 x (by omega) (by omega) (by omega) (by omega)]
      exact this
    have RES := run_asm (q := f k) (n1 := n) (p := pa Rp (a + 11) k) (w := w) (o := oc) (e := Z0 (m + 1) (367 + 9 * f k + 4)) (b9 := nI 1) (num := gT1 (jup Z0 (m + 1) 28 (-4)) m t (nI 1) (m + 1) (367 + 9 * f k + 0)) (how := nI 0) (d0 := -4) (V := V) (Z := jup Z0 (m + 1) 28 (-4)) eB ht hb AB ⟨by rw [Aa _ (by decide), Ea _ (by decide)], by rw [Aa _ (by decide), Ea _ (by decide)], by rw [Aa _ (by decide), Ea9], Aa10, by rw [Aa _ (by decide), Ea _ (by decide)]⟩ ⟨Au 2 (by decide), Au3⟩ ⟨by rw [Al _ (by decide), El1], by rw [Al _ (by decide), El2], by rw [Al _ (by decide), El3], Al8, by rw [Al _ (by decide), El10]⟩ Av
        ⟨by rw [AB2 _ (by omega) (by omega) (by omega) (by omega), zz _ (by decide), z0 _ (by decide)]; exact hX.2.2.2.2.1, by rw [AB2 _ (by omega) (by omega) (by omega) (by omega), zz _ (by decide), z0 _ (by decide)]; exact hX.2.2.2.2.2.1, by rw [AB2 _ (by omega) (by omega) (by omega) (by omega), zz _ (by decide), z0 _ (by decide)]; exact hX.2.2.2.2.2.2⟩ (fun j h1 h2 => by rw [zz _ (by omega), z0 _ (by omega)]) (by rw [zz _ (by decide), z1]) (fun k hk => by rw [zz _ (by omega), z2 k hk]) (jup_eq _ _ _ _) hV2 zv zd hn8
        (by rw [gT1_s _ (by omega) (by omega) (by omega), zz _ (by omega)]; exact Ap k hk 0 (by decide)) (by rw [Ap k hk 3 (by decide), z0 _ (by omega)]; exact hwe) (Ap k hk 4 (by decide)) (by omega) (fun j a1 a2 a3 a4 a5 => gTA_f a1 a2 a3 a4 a5) U rfl pA.1 fl
    obtain ⟨n2, f2, g2, s, d, U1, U2, U3, U4, U5, U6, U7, U8, U9, U10, U11, U12, U13, U14, U15, U16, U17, U18, U19, U20, U21, U22, U23, U24, U25, U26⟩ := U
    exact ⟨RES.1, RES.2, fun x hx => by rw [U16 x (by omega) (by omega) (by omega) (by omega), AB2 x (by omega) (by omega) (by omega) (by omega)], fun x hx => U26 x (by omega)⟩
  · -- a plan is made
    have hne : rPlc E3 Rp a n = -1 := ePl.trans e1
    have ep : rPFP E3 Rp a n = rMisP E3 Rp a n := by rw [rPFP, if_pos hne]
    have eR' : rPFR E3 Rp a n = (rMisK E3 Rp a n).2.1 := by rw [rPFR, if_pos hne]
    have eM : rPFM E3 Rp a (a + 25 + 3 * t) v n (zN S t) = rMisM E3 Rp a (a + 25 + 3 * t) v n (zN S t) := by rw [rPFM, if_pos hne]
    rw [ep, eR', eM]
    have hc15 : E3 (a + 24) 4 = Z0 (m + 1) 15 := by rw [E0 _ (by omega) (by omega) (by omega) (by omega), z0 15 (by decide)]; exact hE.1 4 (by decide)
    have hZ4 : Z0 (m + 1) 4 = nI n := by rw [z0 4 (by decide)]; exact hk4
    have hcap0 : Z0 (m + 1) 15 = nI cap := by rw [z0 15 (by decide)]; exact hcap
    obtain ⟨⟨x, z, d1, d2, d3, d4, d5⟩, d6⟩ := hD
    obtain ⟨i1, i2, f2, g, i3, i4, i5, i6, i7, i8⟩ := mk_sim (m := m) (b := a + 11) (Z0 (m + 1) 15) n E3 Rp Z0 (-4) f hn8 pA.2.1 hK3 hZ4 hf wd ord0 (fun q hq => by
      obtain ⟨y, u', l, g1, g2, g3, g4, g5, g6⟩ := d5 q hq
      exact ⟨y, by omega, by rw [z0 _ (by omega)]; exact g1⟩) (Or.inl rfl)
    obtain ⟨j1, j2, j3, j4, ⟨j5, j5'⟩, j6⟩ := rMk_inv (Z0 (m + 1) 15) (a + 11) n E3 Rp (-4) hn8 pA.2.1 hK3
    obtain ⟨k1, k2, k3, k4⟩ := zCl_inv (Z0 (m + 1) 15) m n Z0 (-4) hZ4
    have eX : rMk (Z0 (m + 1) 15) (a + 11) n E3 Rp (-4) = rMisK E3 Rp a n := by rw [rMisK, hc15]
    have eY : zCl (Z0 (m + 1) 15) m n Z0 (-4) = gK Z0 m n := rfl
    rw [eX] at i1 i2 i4 i7 j1 j2 j3 j4 j5 j5' j6
    rw [eY] at i1 i2 i3 i4 i5 i6 i7 i8 k1 k2 k3 k4
    have r2 : rMis2 E3 Rp a n = jup (rMisK E3 Rp a n).1 (a + 22) 10 (rMisK E3 Rp a n).2.2.1 := rfl
    have e5o : ∀ x, x ≠ a + 11 → x ≠ a + 22 → rMis2 E3 Rp a n x = E3 x := fun x h1 h2 => by rw [r2, jup_row _ _ h2, j4 x h1]
    have e5l : ∀ j, j ≠ 10 → rMis2 E3 Rp a n (a + 22) j = E3 (a + 22) j := fun j hj => by rw [r2, jup_nk _ _ hj, j4 _ (by omega)]
    have e5l10 : rMis2 E3 Rp a n (a + 22) 10 = (gK Z0 m n).2.1 := by rw [r2, jup_eq, i2]
    have e5s2 : rMis2 E3 Rp a n (a + 11) 2 = nI (gK Z0 m n).2.2 := by rw [r2, jup_row _ _ (by omega), j3, i1]
    have e5s3 : rMis2 E3 Rp a n (a + 11) 3 = Z0 (m + 1) 5 := by rw [r2, jup_row _ _ (by omega), j5, E0 _ (by omega) (by omega) (by omega) (by omega), z0 5 (by decide)]; exact hX.2.2.2.2.1
    have e5s4 : rMis2 E3 Rp a n (a + 11) 4 = (gK Z0 m n).1 (m + 1) 8 := by rw [r2, jup_row _ _ (by omega), i7, i8, E0 _ (by omega) (by omega) (by omega) (by omega), z0 8 (by decide), hX.2.2.2.2.2.1]
    have e5s5 : rMis2 E3 Rp a n (a + 11) 5 = Z0 (m + 1) 10 := by rw [r2, jup_row _ _ (by omega), j5', E0 _ (by omega) (by omega) (by omega) (by omega), z0 10 (by decide)]; exact hX.2.2.2.2.2.2
    have e5c : rMis2 E3 Rp a n (a + 24) 4 = Z0 (m + 1) 15 := by rw [e5o _ (by omega) (by omega)]; exact hc15
    have r3 : rMis3 E3 Rp a n = rNewM (rMis2 E3 Rp a n) (rMisK E3 Rp a n).2.1 (a + 11) (nI t) oc (Z0 (m + 1) 15) (gK Z0 m n).2.2 := by rw [rMis3, e5l _ (by decide), e5l _ (by decide), El2, El3, e5c, i1]
    have rP : rMisP E3 Rp a n = rNewP (rMis2 E3 Rp a n) (rMisK E3 Rp a n).2.1 (a + 11) (Z0 (m + 1) 15) (gK Z0 m n).2.2 := by rw [rMisP, e5c, i1]
    have egN : ∀ j, j ≠ 28 → gN Z0 m n (m + 1) j = (gK Z0 m n).1 (m + 1) j := fun j hj => by rw [gN, jup_nk _ _ hj]
    have egN28 : gN Z0 m n (m + 1) 28 = (gK Z0 m n).2.1 := by rw [gN, jup_eq]
    have egNo : ∀ x, x ≠ m + 1 → gN Z0 m n x = Z0 x := fun x hx => by rw [gN, jup_row _ _ hx, k4 x hx]
    have hgP : gP Z0 m t n (zN S t) < 0 := by rw [egP, e2]; decide
    have eW : gWy Z0 m t (zN S t) = zBest (Z0 (m + 1)) (zC0 (Z0 (m + 1)) V t) t (zN S t) (zN S t) := by rw [gWy, z4]
    have eEs : gE Z0 m t (zN S t) = zC0 (Z0 (m + 1)) V t (zBest (Z0 (m + 1)) (zC0 (Z0 (m + 1)) V t) t (zN S t) (zN S t)) := by rw [gE, z4, eW]
    have hwr := zBest_rg (Z0 (m + 1)) (zC0 (Z0 (m + 1)) V t) t (zN S t) (zN S t) (Nat.le_refl _)
    have hest := q_c0 (w := zBest (Z0 (m + 1)) (zC0 (Z0 (m + 1)) V t) t (zN S t) (zN S t)) hK0 hS0 ht (by rw [ezn]; exact hwr) hV
    generalize zBest (Z0 (m + 1)) (zC0 (Z0 (m + 1)) V t) t (zN S t) (zN S t) = w at *
    have hcost := q_c1 (w := w) hT0 hU0 hS0 ht (by rw [ezn]; exact hwr) hV
    have hrgX : ∀ i, i < 8 → a + 14 ≤ pa (rMisK E3 Rp a n).2.1 (a + 11) i ∧ pa (rMisK E3 Rp a n).2.1 (a + 11) i < a + 22 := fun i hi => by
      obtain ⟨j, hj, e⟩ := j1.rg hi
      omega
    have hXs : SS (rMisK E3 Rp a n).2.1 a := fun j hj => by rw [j6 _ (by omega)]; exact pA.1 j hj
    have flB : ∀ x, a + 14 ≤ x → x < a + 22 → isB (B x 7) := fun x h1 h2 => by
      obtain ⟨k', hk', ek'⟩ := SR_sur pA.2.1 (show x - (a + 14) < 8 by omega)
      have := pA.2.2.1 k' hk'
      rw [ek', show a + 11 + 3 + (x - (a + 14)) = x by omega] at this
      exact this
    have dz : ∀ q, q < n → ∃ y u' l, Z0 (m + 1) (367 + 9 * q) = nI y ∧ Z0 (m + 1) (367 + 9 * q + 5) = nI u' ∧ Z0 (m + 1) (367 + 9 * q + 8) = nI l ∧ y < x ∧ u' ≤ b ∧ l ≤ z := fun q hq => by
      obtain ⟨y, u', l, g1, g2, g3, g4, g5, g6⟩ := d5 q hq
      exact ⟨y, u', l, by rw [z0 _ (by omega)]; exact g1, by rw [z0 _ (by omega)]; exact g2, by rw [z0 _ (by omega)]; exact g3, g4, g5, g6⟩
    have dzn : ∀ p q, p < n → q < n → (Z0 (m + 1) (367 + 9 * p) = Z0 (m + 1) (367 + 9 * q) ∨ (Z0 (m + 1) (367 + 9 * p + 1) = Z0 (m + 1) (367 + 9 * q + 1) ∧ Z0 (m + 1) (367 + 9 * p + 2) = Z0 (m + 1) (367 + 9 * q + 2)) ∨ Z0 (m + 1) (367 + 9 * p + 8) = Z0 (m + 1) (367 + 9 * q + 8)) → p = q := fun p q hp hq hh => by
      rw [z0 _ (by omega), z0 _ (by omega), z0 (367 + 9 * p + 1) (by omega), z0 (367 + 9 * p + 2) (by omega), z0 (367 + 9 * q + 1) (by omega), z0 (367 + 9 * q + 2) (by omega), z0 (367 + 9 * p + 8) (by omega), z0 (367 + 9 * q + 8) (by omega)] at hh
      exact d6 p q hp hq hh
    have dv : ∀ q, q < n → isB (Z0 (m + 1) (367 + 9 * q + 7)) ∧ ∃ y, y < c ∧ Z0 (m + 1) (367 + 9 * q + 1) = nI y ∧ ∃ w', (w' = 9 ∨ w' < zN S y) ∧ Z0 (m + 1) (367 + 9 * q + 3) = nI w' := fun q hq => by
      rw [z0 _ (by omega), z0 _ (by omega), z0 _ (by omega)]
      exact hval q hq
    have d3' : Z0 (m + 1) 5 = nI x := by rw [z0 5 (by decide)]; exact d3
    have d4' : Z0 (m + 1) 6 = nI z := by rw [z0 6 (by decide)]; exact d4
    have hgn : ∀ q, q < (gK Z0 m n).2.2 → g q < n := fun q hq => (i5 q hq).1
    have hgw : ∀ q, q < (gK Z0 m n).2.2 → ∀ y, y < 9 → gN Z0 m n (m + 1) (367 + 9 * q + y) = Z0 (m + 1) (367 + 9 * g q + y) := fun q hq y hy => by rw [egN _ (by omega)]; exact (i5 q hq).2 y hy
    have gT1o : ∀ (N : jM) (y : Int32) (x : Nat), x ≠ m + 1 → gT1 N m t y x = N x := fun N y x hx => by unfold gT1; rw [jup_row _ _ hx, jup_row _ _ hx, jup_row _ _ hx]
    by_cases hc : (gK Z0 m n).2.2 < cap
    · have hn8' : (gK Z0 m n).2.2 < 8 := by omega
      obtain ⟨q1, q2, q3, q4, q5, q6, q7, q8, q9, q10, q11⟩ := newK_at (E5 := rMis2 E3 Rp a n) (R' := (rMisK E3 Rp a n).2.1) (n' := (gK Z0 m n).2.2) (cap := cap) (y := Z0 (m + 1) 15) (t := t) (o := oc) j1 e5s2 hc hcap8 hcap0
      rw [← r3] at q2 q3 q4 q5 q6 q7 q8 q9 q10 q11
      rw [← rP] at q1
      have hpk := hrgX (gK Z0 m n).2.2 hn8'
      have wX : ∀ i, i < (gK Z0 m n).2.2 → ∀ y, y < 9 → (rMisK E3 Rp a n).1 (pa (rMisK E3 Rp a n).2.1 (a + 11) i) y = (gK Z0 m n).1 (m + 1) (367 + 9 * f2 i + y) := i4
      have pne : ∀ i, i < (gK Z0 m n).2.2 → pa (rMisK E3 Rp a n).2.1 (a + 11) i ≠ pa (rMisK E3 Rp a n).2.1 (a + 11) (gK Z0 m n).2.2 := fun i hi e => by
        have := j1.inj (by omega) hn8' e
        omega
      have hpX : ∀ i, i < 8 → (rMisK E3 Rp a n).1 (pa (rMisK E3 Rp a n).2.1 (a + 11) i) = rMis2 E3 Rp a n (pa (rMisK E3 Rp a n).2.1 (a + 11) i) := fun i hi => by
        have := hrgX i hi
        rw [r2, jup_row _ _ (by omega)]
      generalize hpp : pa (rMisK E3 Rp a n).2.1 (a + 11) (gK Z0 m n).2.2 = p at *
      have r6B : ∀ y, y ≠ a → y ≠ a + 22 → y ≠ a + 23 → y ≠ a + 25 + 3 * t → y ≠ a + 11 → y ≠ p → rMis3 E3 Rp a n y = B y := fun y h1 h2 h3 h4 h5 h6 => by rw [q2 y h6 h5, e5o y h5 h2, E0 y h1 h4 h2 h3]
      have r6a : rMis3 E3 Rp a n a = E3 a := by rw [q2 _ (by omega) (by omega), e5o _ (by omega) (by omega)]
      have bw6 : rBest (rMis3 E3 Rp a n) a (a + 5) (a + 25 + 3 * t) v (zN S t) = nI w := by
        rw [rBest_c (M := B) (by rw [r6a, Ea _ (by decide)]) (r6B _ (by omega) (by omega) (by omega) (by omega) (by omega) (by omega)) (r6B _ (by omega) (by omega) (by omega) (by omega) (by omega) (by omega)) (r6B _ (by omega) (by omega) (by omega) (by omega) (by omega) (by omega)) (r6B _ (by omega) (by omega) (by omega) (by omega) (by omega) (by omega)) (r6B _ (by omega) (by omega) (by omega) (by omega) (by omega) (by omega))]
        exact hbw
      have mm := mis_at (Rp := Rp) (E3 := E3) (a := a) (n := n) (u := a + 25 + 3 * t) (v := v) (w := w) (nc := zN S t) (est := zC0 (Z0 (m + 1)) V t w) (by rw [q1]; omega) bw6 (fun W hW => by
        rw [q1] at hW
        have hWB : ∀ y, y ≠ a → y ≠ a + 22 → y ≠ a + 23 → y ≠ a + 25 + 3 * t → y ≠ a + 11 → y ≠ p → W y = B y := fun y h1 h2 h3 h4 h5 h6 => by rw [hW y h6, r6B y h1 h2 h3 h4 h5 h6]
        rw [rCost_c (M := B) (hWB _ (by omega) (by omega) (by omega) (by omega) (by omega) (by omega)) (hWB _ (by omega) (by omega) (by omega) (by omega) (by omega) (by omega)) (hWB _ (by omega) (by omega) (by omega) (by omega) (by omega) (by omega)) (hWB _ (by omega) (by omega) (by omega) (by omega) (by omega) (by omega)) (hWB _ (by omega) (by omega) (by omega) (by omega) (by omega) (by omega))]
        exact hest)
      have hnx : ¬ rMis3 E3 Rp a n p 0 = -4 := by
        rw [q3, e5s3, d3']
        intro e
        exact nI_pos (show x < 2 ^ 31 by omega) (by rw [e]; decide)
      rw [q1, if_neg hnx] at mm
      rw [mm, q1]
      have Ao : ∀ y, y ≠ p → y ≠ a + 22 → jup (jup (jup (rMis3 E3 Rp a n) p 3 (nI w)) p 4 (zC0 (Z0 (m + 1)) V t w)) (a + 22) 8 (nI 1) y = rMis3 E3 Rp a n y := fun y h1 h2 => by rw [jup_row _ _ h2, jup_row _ _ h1, jup_row _ _ h1]
      have Ap3 : jup (jup (jup (rMis3 E3 Rp a n) p 3 (nI w)) p 4 (zC0 (Z0 (m + 1)) V t w)) (a + 22) 8 (nI 1) p 3 = nI w := by rw [jup_na _ _ (by omega), jup_nk _ _ (by decide), jup_eq]
      have Ap4 : jup (jup (jup (rMis3 E3 Rp a n) p 3 (nI w)) p 4 (zC0 (Z0 (m + 1)) V t w)) (a + 22) 8 (nI 1) p 4 = zC0 (Z0 (m + 1)) V t w := by rw [jup_na _ _ (by omega), jup_eq]
      have Apj : ∀ j, j ≠ 3 → j ≠ 4 → jup (jup (jup (rMis3 E3 Rp a n) p 3 (nI w)) p 4 (zC0 (Z0 (m + 1)) V t w)) (a + 22) 8 (nI 1) p j = rMis3 E3 Rp a n p j := fun j h1 h2 => by rw [jup_na _ _ (by omega), jup_nk _ _ h2, jup_nk _ _ h1]
      have Al : ∀ j, j ≠ 8 → jup (jup (jup (rMis3 E3 Rp a n) p 3 (nI w)) p 4 (zC0 (Z0 (m + 1)) V t w)) (a + 22) 8 (nI 1) (a + 22) j = rMis2 E3 Rp a n (a + 22) j := fun j hj => by rw [jup_nk _ _ hj, jup_na _ _ (by omega), jup_na _ _ (by omega), q2 _ (by omega) (by omega)]
      have Al8 : jup (jup (jup (rMis3 E3 Rp a n) p 3 (nI w)) p 4 (zC0 (Z0 (m + 1)) V t w)) (a + 22) 8 (nI 1) (a + 22) 8 = nI 1 := jup_eq _ _ _ _
      have A2n : jup (jup (jup (rMis3 E3 Rp a n) p 3 (nI w)) p 4 (zC0 (Z0 (m + 1)) V t w)) (a + 22) 8 (nI 1) (a + 11) 2 = nI ((gK Z0 m n).2.2 + 1) := by rw [Ao _ (by omega) (by omega)]; exact q9
      rw [rN_eq A2n (by omega)]
      generalize jup (jup (jup (rMis3 E3 Rp a n) p 3 (nI w)) p 4 (zC0 (Z0 (m + 1)) V t w)) (a + 22) 8 (nI 1) = A at *
      have AB2 : ∀ y, y ≠ a → y ≠ a + 22 → y ≠ a + 23 → y ≠ a + 25 + 3 * t → y ≠ a + 11 → y ≠ p → A y = B y := fun y h1 h2 h3 h4 h5 h6 => by rw [Ao y h6 h2, r6B y h1 h2 h3 h4 h5 h6]
      have AB : ∀ y, a ≤ y → y < a + 43 → y ≠ a → (y < a + 11 ∨ a + 24 ≤ y) → y ≠ a + 25 + 3 * t → A y = B y := fun y h1 h2 h3 h4 h5 => AB2 y (by omega) (by omega) (by omega) (by omega) (by omega) (by omega)
      have Aa : ∀ j, A a j = E3 a j := fun j => by rw [Ao _ (by omega) (by omega), r6a]
      have Au : A (a + 25 + 3 * t) = E3 (a + 25 + 3 * t) := by rw [Ao _ (by omega) (by omega), q2 _ (by omega) (by omega), e5o _ (by omega) (by omega)]
      have Av : ∀ k, k < 4 → A (a + 23) k = V k := fun k hk => by rw [Ao _ (by omega) (by omega), q2 _ (by omega) (by omega), e5o _ (by omega) (by omega), Ev k hk, hV k hk]
      have eZ : zGoes Z0 m t r n (zN S t) = gTA (mKp (gN Z0 m n) m (gK Z0 m n).2.2 (nI t) oc (nI w) (zC0 (Z0 (m + 1)) V t w)) m t r w ((gK Z0 m n).2.2 + 1) (gK Z0 m n).2.2 oc (zC0 (Z0 (m + 1)) V t w) (nI 0) (gT1 (mKp (gN Z0 m n) m (gK Z0 m n).2.2 (nI t) oc (nI w) (zC0 (Z0 (m + 1)) V t w)) m t (nI 0) (m + 1) (367 + 9 * (gK Z0 m n).2.2 + 0)) (nI 1) := by
        unfold zGoes
        rw [if_pos hgP, if_pos (show nI (gK Z0 m n).2.2 < gN Z0 m n (m + 1) 15 by
          rw [egN _ (by decide), k3 15 (by decide) (by decide) (by decide), hcap0]
          exact (nI_ltI (by omega) (by omega)).mpr hc), eo, eW, eEs]
      rw [eZ]
      obtain ⟨m0, m1, m2, m3, m4, m5, m6, m7, m8, m9⟩ := mKp_at (m := m) (gN Z0 m n) (n := (gK Z0 m n).2.2) (w1 := nI t) (w2 := oc) (w3 := nI w) (w4 := zC0 (Z0 (m + 1)) V t w)
      have ml : ∀ j, j < 367 → j ≠ 4 → j ≠ 5 → mKp (gN Z0 m n) m (gK Z0 m n).2.2 (nI t) oc (nI w) (zC0 (Z0 (m + 1)) V t w) (m + 1) j = gN Z0 m n (m + 1) j := fun j h1 h2 h3 => mKp_l _ h1 h2 h3
      have mo : ∀ y, y ≠ m + 1 → mKp (gN Z0 m n) m (gK Z0 m n).2.2 (nI t) oc (nI w) (zC0 (Z0 (m + 1)) V t w) y = Z0 y := fun y hy => by rw [mKp_o _ hy, egNo y hy]
      have mk4 : mKp (gN Z0 m n) m (gK Z0 m n).2.2 (nI t) oc (nI w) (zC0 (Z0 (m + 1)) V t w) (m + 1) 4 = nI ((gK Z0 m n).2.2 + 1) := mKp_4 _
      generalize mKp (gN Z0 m n) m (gK Z0 m n).2.2 (nI t) oc (nI w) (zC0 (Z0 (m + 1)) V t w) = Z at *
      have zS : ∀ j, j < 367 → j ≠ 4 → j ≠ 5 → j ≠ 8 → j ≠ 28 → Z (m + 1) j = Z0 (m + 1) j := fun j h1 h2 h3 h4 h5 => by rw [ml j h1 h2 h3, egN j h5, k3 j h1 h2 h4]
      have zw : ∀ i, i < (gK Z0 m n).2.2 → ∀ y, y < 9 → Z (m + 1) (367 + 9 * i + y) = Z0 (m + 1) (367 + 9 * g i + y) := fun i hi y hy => by rw [m9 i y hi hy, hgw i hi y hy]
      have e0x : gN Z0 m n (m + 1) 5 = nI x := by rw [egN _ (by decide), k3 5 (by decide) (by decide) (by decide), d3']
      have hf1 : eBij (fun i => if i = (gK Z0 m n).2.2 then (gK Z0 m n).2.2 else f2 i) ((gK Z0 m n).2.2 + 1) := by
        refine ⟨fun i hi => ?_, fun i j hi hj e => ?_⟩
        · show (if i = (gK Z0 m n).2.2 then (gK Z0 m n).2.2 else f2 i) < _
          by_cases d : i = (gK Z0 m n).2.2
          · rw [if_pos d]; omega
          · rw [if_neg d]
            have := i3.1 i (by omega)
            omega
        · have e' : (if i = (gK Z0 m n).2.2 then (gK Z0 m n).2.2 else f2 i) = (if j = (gK Z0 m n).2.2 then (gK Z0 m n).2.2 else f2 j) := e
          by_cases di : i = (gK Z0 m n).2.2
          · by_cases dj : j = (gK Z0 m n).2.2
            · omega
            · rw [if_pos di, if_neg dj] at e'
              have := i3.1 j (by omega)
              omega
          · by_cases dj : j = (gK Z0 m n).2.2
            · rw [if_neg di, if_pos dj] at e'
              have := i3.1 i (by omega)
              omega
            · rw [if_neg di, if_neg dj] at e'
              exact i3.2 i j (by omega) (by omega) e'
      have hws : ∀ i, i < (gK Z0 m n).2.2 + 1 → ∀ y, y < 9 → (i = (gK Z0 m n).2.2 → y ≠ 8) → A (pa (rMisK E3 Rp a n).2.1 (a + 11) i) y = Z (m + 1) (367 + 9 * (fun i => if i = (gK Z0 m n).2.2 then (gK Z0 m n).2.2 else f2 i) i + y) := fun i hi y hy hy8 => by
        show _ = Z (m + 1) (367 + 9 * (if i = (gK Z0 m n).2.2 then (gK Z0 m n).2.2 else f2 i) + y)
        by_cases d : i = (gK Z0 m n).2.2
        · have hy8' := hy8 d
          rw [if_pos d, d, hpp]
          match y, hy, hy8' with
          | 0, _, _ => rw [Apj 0 (by decide) (by decide), q3, e5s3, m0, e0x, d3']
          | 1, _, _ => rw [Apj 1 (by decide) (by decide), q4, m1]
          | 2, _, _ => rw [Apj 2 (by decide) (by decide), q5, m2]
          | 3, _, _ => rw [Ap3, m3]
          | 4, _, _ => rw [Ap4, m4]
          | 5, _, _ => rw [Apj 5 (by decide) (by decide), q6, m5]
          | 6, _, _ => rw [Apj 6 (by decide) (by decide), q7, m6]
          | 7, _, _ => rw [Apj 7 (by decide) (by decide), q8, m7]
          | 8, _, h => exact absurd rfl h
        · have hl := hrgX i (by omega)
          rw [if_neg d, Ao _ (pne i (by omega)) (by omega), q2 _ (pne i (by omega)) (by omega), ← hpX i (by omega), wX i (by omega) y hy, m9 _ y (i3.1 i (by omega)) hy, egN _ (by omega)]
      have zn : ∀ i, i < (gK Z0 m n).2.2 + 1 → ∃ y u', Z (m + 1) (367 + 9 * i) = nI y ∧ Z (m + 1) (367 + 9 * i + 5) = nI u' ∧ y < x + 1 ∧ u' ≤ b ∧ (i ≠ (gK Z0 m n).2.2 → y < x ∧ ∃ l, Z (m + 1) (367 + 9 * i + 8) = nI l ∧ l ≤ z) ∧ (i = (gK Z0 m n).2.2 → y = x) := fun i hi => by
        by_cases d : i = (gK Z0 m n).2.2
        · rw [d]
          exact ⟨x, 0, by rw [← e0x]; exact m0, m5, by omega, by omega, fun h => absurd rfl h, fun _ => rfl⟩
        · obtain ⟨y, u', l, g1, g2, g3, g4, g5, g6⟩ := dz _ (hgn i (by omega))
          exact ⟨y, u', (zw i (by omega) 0 (by decide)).trans g1, (zw i (by omega) 5 (by decide)).trans g2, by omega, g5, fun _ => ⟨g4, l, (zw i (by omega) 8 (by decide)).trans g3, g6⟩, fun h => absurd h d⟩
      have znn : ∀ i j, i < (gK Z0 m n).2.2 + 1 → j < (gK Z0 m n).2.2 + 1 → Z (m + 1) (367 + 9 * i) = Z (m + 1) (367 + 9 * j) → i = j := fun i j hi hj e => by
        obtain ⟨y, u', a1, -, a3, -, a5, a6⟩ := zn i hi
        obtain ⟨y2, u2, b1, -, b3, -, b5, b6⟩ := zn j hj
        have ey : y = y2 := (nI_eq (by omega) (by omega)).mp (a1.symm.trans (e.trans b1))
        by_cases di : i = (gK Z0 m n).2.2
        · by_cases dj : j = (gK Z0 m n).2.2
          · omega
          · have := (b5 dj).1
            have := a6 di
            omega
        · by_cases dj : j = (gK Z0 m n).2.2
          · have := (a5 di).1
            have := b6 dj
            omega
          · exact i6 i j (by omega) (by omega) (dzn _ _ (hgn i (by omega)) (hgn j (by omega)) (Or.inl ((zw i (by omega) 0 (by decide)).symm.trans (e.trans (zw j (by omega) 0 (by decide))))))
      have eC : ∀ W : jM, (∀ y, y ≠ p → y ≠ a + 22 → W y = A y) → rCost W (a + 3) (a + 25 + 3 * t) v (A p 3) = gCo Z m t r w (nI 0) := fun W hW => by
        have hWB : ∀ y, y ≠ a → y ≠ a + 22 → y ≠ a + 23 → y ≠ a + 25 + 3 * t → y ≠ a + 11 → y ≠ p → W y = B y := fun y h1 h2 h3 h4 h5 h6 => by rw [hW y h6 h2, AB2 y h1 h2 h3 h4 h5 h6]
        rw [Ap3, rCost_c (M := B) (hWB _ (by omega) (by omega) (by omega) (by omega) (by omega) (by omega)) (hWB _ (by omega) (by omega) (by omega) (by omega) (by omega) (by omega)) (hWB _ (by omega) (by omega) (by omega) (by omega) (by omega) (by omega)) (hWB _ (by omega) (by omega) (by omega) (by omega) (by omega) (by omega)) (hWB _ (by omega) (by omega) (by omega) (by omega) (by omega) (by omega)), hcost, gCo, gT1o _ _ (m + 4) (by omega), mo (m + 4) (by omega), z4]
        exact (zC1_c hr30 (by omega) (fun k hk hwk => hct k hk w (by omega) hwk) (fun j h1 h2 => by rw [gT1_s _ (by omega) (by omega) (by omega), zS j (by omega) (by omega) (by omega) (by omega) (by omega)]) (fun j h1 h2 => by rw [gT1_s _ (by omega) (by omega) (by omega), zS j (by omega) (by omega) (by omega) (by omega) (by omega)])).symm
      have U := use_k (A := A) (Z := Z) (RA := (rMisK E3 Rp a n).2.1) (a := a) (u := a + 25 + 3 * t) (v := v) (n := (gK Z0 m n).2.2 + 1) (k := (gK Z0 m n).2.2) (p := p) (m := m) (t := t) (r := r) (w := w) (q := (gK Z0 m n).2.2) (f := fun i => if i = (gK Z0 m n).2.2 then (gK Z0 m n).2.2 else f2 i) (o := oc) (e := zC0 (Z0 (m + 1)) V t w) (b := nI 0) (num := gT1 Z m t (nI 0) (m + 1) (367 + 9 * (gK Z0 m n).2.2 + 0)) (how := nI 1) (by omega) (by omega) j1 hf1 hpp (if_pos rfl) A2n mk4 hws znn eC rfl
        (by rw [AB2 _ (by omega) (by omega) (by omega) (by omega) (by omega) (by omega), zS _ (by decide) (by decide) (by decide) (by decide) (by decide), z0 _ (by decide)]; exact hE.1 2 (by decide)) (by rw [AB2 _ (by omega) (by omega) (by omega) (by omega) (by omega) (by omega), zS _ (by decide) (by decide) (by decide) (by decide) (by decide), z0 _ (by decide)]; exact hE.1 3 (by decide)) (by rw [Aa, Ea9, zS _ (by decide) (by decide) (by decide) (by decide) (by decide), z0 _ (by decide), hX.2.1]) Ap4 (by omega)
      have zv : eVal (Z (m + 1)) ((gK Z0 m n).2.2 + 1) c := fun i hi => by
        have ezz : ∀ y, y < c → zN (Z (m + 1)) y = zN S y := fun y hy => by rw [zN, zN, zS _ (by omega) (by omega) (by omega) (by omega) (by omega), z0 _ (by omega)]
        by_cases d : i = (gK Z0 m n).2.2
        · rw [d]
          exact ⟨Or.inl m7, t, ht, m1, w, by rw [ezz t ht]; exact hwr, m3⟩
        · obtain ⟨v1, y, v2, v3, w', v4, v5⟩ := dv _ (hgn i (by omega))
          exact ⟨by rw [zw i (by omega) 7 (by decide)]; exact v1, y, v2, (zw i (by omega) 1 (by decide)).trans v3, w', by rw [ezz y v2]; exact v4, (zw i (by omega) 3 (by decide)).trans v5⟩
      have zd : pDis (Z (m + 1)) ((gK Z0 m n).2.2 + 1) (gK Z0 m n).2.2 b := by
        refine ⟨⟨x + 1, z, by omega, d2, by rw [m8, e0x, nI_add], by rw [zS _ (by decide) (by decide) (by decide) (by decide) (by decide), d4'], fun i hi => ?_⟩, fun i j hi hj hh => ?_, fun i j hi hj di dj hh => ?_⟩
        · obtain ⟨y, u', a1, a2, a3, a4, a5, a6⟩ := zn i hi
          exact ⟨y, u', a1, a2, a3, a4, fun h => (a5 h).2⟩
        · rcases hh with e | ⟨e, e'⟩
          · exact znn i j hi hj e
          · by_cases di : i = (gK Z0 m n).2.2
            · by_cases dj : j = (gK Z0 m n).2.2
              · omega
              · rw [di] at e e'
                exact absurd ⟨(zw j (by omega) 1 (by decide)).symm.trans (e.symm.trans m1), (zw j (by omega) 2 (by decide)).symm.trans (e'.symm.trans m2)⟩ (e3 _ (hgn j (by omega)))
            · by_cases dj : j = (gK Z0 m n).2.2
              · rw [dj] at e e'
                exact absurd ⟨(zw i (by omega) 1 (by decide)).symm.trans (e.trans m1), (zw i (by omega) 2 (by decide)).symm.trans (e'.trans m2)⟩ (e3 _ (hgn i (by omega)))
              · exact i6 i j (by omega) (by omega) (dzn _ _ (hgn i (by omega)) (hgn j (by omega)) (Or.inr (Or.inl ⟨(zw i (by omega) 1 (by decide)).symm.trans (e.trans (zw j (by omega) 1 (by decide))), (zw i (by omega) 2 (by decide)).symm.trans (e'.trans (zw j (by omega) 2 (by decide)))⟩)))
        · exact i6 i j (by omega) (by omega) (dzn _ _ (hgn i (by omega)) (hgn j (by omega)) (Or.inr (Or.inr ((zw i (by omega) 8 (by decide)).symm.trans (hh.trans (zw j (by omega) 8 (by decide)))))))
      have fl : ∀ y, a + 14 ≤ y → y < a + 22 → isB (A y 7) := fun y h1 h2 => by
        by_cases d : y = p
        · rw [d, Apj 7 (by decide) (by decide), q8]; exact Or.inl rfl
        · rw [AB2 y (by omega) (by omega) (by omega) (by omega) (by omega) d]
          exact flB y h1 h2
      have RES := run_asm (q := (gK Z0 m n).2.2) (n1 := (gK Z0 m n).2.2 + 1) (p := p) (w := w) (o := oc) (e := zC0 (Z0 (m + 1)) V t w) (b9 := nI 0) (num := gT1 Z m t (nI 0) (m + 1) (367 + 9 * (gK Z0 m n).2.2 + 0)) (how := nI 1) (d0 := (gK Z0 m n).2.1) (V := V) (Z := Z) eB ht hb AB ⟨by rw [Aa, Ea _ (by decide)], by rw [Aa, Ea _ (by decide)], by rw [Aa, Ea9], by rw [Aa, Ea _ (by decide), nI_0, Int32.add_zero], by rw [Aa, Ea _ (by decide)]⟩ ⟨by rw [Au, Eu _ (by decide)], by rw [Au, Eu3]⟩
        ⟨by rw [Al _ (by decide), e5l _ (by decide), El1], by rw [Al _ (by decide), e5l _ (by decide), El2], by rw [Al _ (by decide), e5l _ (by decide), El3], Al8, by rw [Al _ (by decide), e5l10]⟩ Av
        ⟨by rw [Ao _ (by omega) (by omega), q10, e5s3, m8, e0x, d3'], by rw [Ao _ (by omega) (by omega), q11 _ (by decide) (by decide), e5s4, ml _ (by decide) (by decide) (by decide), egN _ (by decide)], by rw [Ao _ (by omega) (by omega), q11 _ (by decide) (by decide), e5s5, zS _ (by decide) (by decide) (by decide) (by decide) (by decide)]⟩
        (fun j h1 h2 => by rw [zS j h1 (by omega) (by omega) (by omega) (by omega), z0 _ (by omega)]) (by rw [zS _ (by decide) (by decide) (by decide) (by decide) (by decide), z1]) (fun k hk => by rw [zS _ (by omega) (by omega) (by omega) (by omega) (by omega), z2 k hk]) (by rw [ml _ (by decide) (by decide) (by decide), egN28]) hV2 zv zd (by omega)
        (by
          rw [gT1_s _ (by omega) (by omega) (by omega), m0, e0x, Apj 0 (by decide) (by decide), q3, e5s3, d3']) Ap3 Ap4 (by omega) (fun j a1 a2 a3 a4 a5 => gTA_f a1 a2 a3 a4 a5) U rfl hXs fl
      obtain ⟨n2, f2', g2', s, d, U1, U2, U3, U4, U5, U6, U7, U8, U9, U10, U11, U12, U13, U14, U15, U16, U17, U18, U19, U20, U21, U22, U23, U24, U25, U26⟩ := U
      exact ⟨RES.1, RES.2, fun y hy => by rw [U16 y (by omega) (by omega) (by omega) (by omega), AB2 y (by omega) (by omega) (by omega) (by omega) (by omega) (by omega)], fun y hy => by rw [U26 y (by omega), j6 y (by omega)]⟩
    · have hn8' : (gK Z0 m n).2.2 ≤ 8 := by omega
      obtain ⟨q1, q2, q3, q8⟩ := newL_at (a := a) (E5 := rMis2 E3 Rp a n) (R' := (rMisK E3 Rp a n).2.1) (n' := (gK Z0 m n).2.2) (cap := cap) (y := Z0 (m + 1) 15) (t := t) (o := oc) e5s2 (Nat.not_lt.mp hc) hn8' hcap0
      rw [← r3] at q2 q3 q8
      rw [← rP] at q1
      have hpX : ∀ i, i < 8 → (rMisK E3 Rp a n).1 (pa (rMisK E3 Rp a n).2.1 (a + 11) i) = rMis2 E3 Rp a n (pa (rMisK E3 Rp a n).2.1 (a + 11) i) := fun i hi => by
        have := hrgX i hi
        rw [r2, jup_row _ _ (by omega)]
      have r6B : ∀ y, y ≠ a → y ≠ a + 22 → y ≠ a + 23 → y ≠ a + 25 + 3 * t → y ≠ a + 11 → y ≠ a + 13 → rMis3 E3 Rp a n y = B y := fun y h1 h2 h3 h4 h5 h6 => by rw [q2 y h6, e5o y h5 h2, E0 y h1 h4 h2 h3]
      have r6a : rMis3 E3 Rp a n a = E3 a := by rw [q2 _ (by omega), e5o _ (by omega) (by omega)]
      have bw6 : rBest (rMis3 E3 Rp a n) a (a + 5) (a + 25 + 3 * t) v (zN S t) = nI w := by
        rw [rBest_c (M := B) (by rw [r6a, Ea _ (by decide)]) (r6B _ (by omega) (by omega) (by omega) (by omega) (by omega) (by omega)) (r6B _ (by omega) (by omega) (by omega) (by omega) (by omega) (by omega)) (r6B _ (by omega) (by omega) (by omega) (by omega) (by omega) (by omega)) (r6B _ (by omega) (by omega) (by omega) (by omega) (by omega) (by omega)) (r6B _ (by omega) (by omega) (by omega) (by omega) (by omega) (by omega))]
        exact hbw
      have mm := mis_at (Rp := Rp) (E3 := E3) (a := a) (n := n) (u := a + 25 + 3 * t) (v := v) (w := w) (nc := zN S t) (est := zC0 (Z0 (m + 1)) V t w) (by rw [q1]; omega) bw6 (fun W hW => by
        rw [q1] at hW
        have hWB : ∀ y, y ≠ a → y ≠ a + 22 → y ≠ a + 23 → y ≠ a + 25 + 3 * t → y ≠ a + 11 → y ≠ a + 13 → W y = B y := fun y h1 h2 h3 h4 h5 h6 => by rw [hW y h6, r6B y h1 h2 h3 h4 h5 h6]
        rw [rCost_c (M := B) (hWB _ (by omega) (by omega) (by omega) (by omega) (by omega) (by omega)) (hWB _ (by omega) (by omega) (by omega) (by omega) (by omega) (by omega)) (hWB _ (by omega) (by omega) (by omega) (by omega) (by omega) (by omega)) (hWB _ (by omega) (by omega) (by omega) (by omega) (by omega) (by omega)) (hWB _ (by omega) (by omega) (by omega) (by omega) (by omega) (by omega))]
        exact hest)
      rw [q1, if_pos q3] at mm
      rw [mm, q1]
      have Ao : ∀ y, y ≠ a + 13 → y ≠ a + 22 → jup (jup (jup (rMis3 E3 Rp a n) (a + 13) 3 (nI w)) (a + 13) 4 (zC0 (Z0 (m + 1)) V t w)) (a + 22) 8 (nI 2) y = rMis3 E3 Rp a n y := fun y h1 h2 => by rw [jup_row _ _ h2, jup_row _ _ h1, jup_row _ _ h1]
      have Ap3 : jup (jup (jup (rMis3 E3 Rp a n) (a + 13) 3 (nI w)) (a + 13) 4 (zC0 (Z0 (m + 1)) V t w)) (a + 22) 8 (nI 2) (a + 13) 3 = nI w := by rw [jup_na _ _ (by omega), jup_nk _ _ (by decide), jup_eq]
      have Ap4 : jup (jup (jup (rMis3 E3 Rp a n) (a + 13) 3 (nI w)) (a + 13) 4 (zC0 (Z0 (m + 1)) V t w)) (a + 22) 8 (nI 2) (a + 13) 4 = zC0 (Z0 (m + 1)) V t w := by rw [jup_na _ _ (by omega), jup_eq]
      have Ap0 : jup (jup (jup (rMis3 E3 Rp a n) (a + 13) 3 (nI w)) (a + 13) 4 (zC0 (Z0 (m + 1)) V t w)) (a + 22) 8 (nI 2) (a + 13) 0 = -4 := by rw [jup_na _ _ (by omega), jup_nk _ _ (by decide), jup_nk _ _ (by decide), q3]
      have Al : ∀ j, j ≠ 8 → jup (jup (jup (rMis3 E3 Rp a n) (a + 13) 3 (nI w)) (a + 13) 4 (zC0 (Z0 (m + 1)) V t w)) (a + 22) 8 (nI 2) (a + 22) j = rMis2 E3 Rp a n (a + 22) j := fun j hj => by rw [jup_nk _ _ hj, jup_na _ _ (by omega), jup_na _ _ (by omega), q2 _ (by omega)]
      have Al8 : jup (jup (jup (rMis3 E3 Rp a n) (a + 13) 3 (nI w)) (a + 13) 4 (zC0 (Z0 (m + 1)) V t w)) (a + 22) 8 (nI 2) (a + 22) 8 = nI 2 := jup_eq _ _ _ _
      have A2n : jup (jup (jup (rMis3 E3 Rp a n) (a + 13) 3 (nI w)) (a + 13) 4 (zC0 (Z0 (m + 1)) V t w)) (a + 22) 8 (nI 2) (a + 11) 2 = nI (gK Z0 m n).2.2 := by rw [Ao _ (by omega) (by omega), q2 _ (by omega)]; exact e5s2
      rw [rN_eq A2n hn8']
      generalize jup (jup (jup (rMis3 E3 Rp a n) (a + 13) 3 (nI w)) (a + 13) 4 (zC0 (Z0 (m + 1)) V t w)) (a + 22) 8 (nI 2) = A at *
      have AB2 : ∀ y, y ≠ a → y ≠ a + 22 → y ≠ a + 23 → y ≠ a + 25 + 3 * t → y ≠ a + 11 → y ≠ a + 13 → A y = B y := fun y h1 h2 h3 h4 h5 h6 => by rw [Ao y h6 h2, r6B y h1 h2 h3 h4 h5 h6]
      have AB : ∀ y, a ≤ y → y < a + 43 → y ≠ a → (y < a + 11 ∨ a + 24 ≤ y) → y ≠ a + 25 + 3 * t → A y = B y := fun y h1 h2 h3 h4 h5 => AB2 y (by omega) (by omega) (by omega) (by omega) (by omega) (by omega)
      have Aa : ∀ j, A a j = E3 a j := fun j => by rw [Ao _ (by omega) (by omega), r6a]
      have Au : A (a + 25 + 3 * t) = E3 (a + 25 + 3 * t) := by rw [Ao _ (by omega) (by omega), q2 _ (by omega), e5o _ (by omega) (by omega)]
      have A11 : A (a + 11) = rMis2 E3 Rp a n (a + 11) := by rw [Ao _ (by omega) (by omega), q2 _ (by omega)]
      have Av : ∀ k, k < 4 → A (a + 23) k = V k := fun k hk => by rw [Ao _ (by omega) (by omega), q2 _ (by omega), e5o _ (by omega) (by omega), Ev k hk, hV k hk]
      have eZ : zGoes Z0 m t r n (zN S t) = gTB (gN Z0 m n) m t r w oc (zC0 (Z0 (m + 1)) V t w) (nI 0) (-4) (nI 2) := by
        unfold zGoes
        rw [if_pos hgP, if_neg (show ¬ nI (gK Z0 m n).2.2 < gN Z0 m n (m + 1) 15 by
          rw [egN _ (by decide), k3 15 (by decide) (by decide) (by decide), hcap0]
          exact fun q => hc ((nI_ltI (by omega) (by omega)).mp q)), eo, eW, eEs]
      rw [eZ]
      have zl4 : gN Z0 m n (m + 1) 4 = nI (gK Z0 m n).2.2 := by rw [egN _ (by decide)]; exact k1
      have zl8 : gN Z0 m n (m + 1) 8 = (gK Z0 m n).1 (m + 1) 8 := egN _ (by decide)
      have zlw : ∀ i y, i < 8 → gN Z0 m n (m + 1) (367 + 9 * i + y) = (gK Z0 m n).1 (m + 1) (367 + 9 * i + y) := fun i y _ => egN _ (by omega)
      have zS : ∀ j, j < 367 → j ≠ 4 → j ≠ 8 → j ≠ 28 → gN Z0 m n (m + 1) j = Z0 (m + 1) j := fun j h1 h2 h4 h5 => by rw [egN j h5, k3 j h1 h2 h4]
      generalize gN Z0 m n = Z at *
      have hws : ∀ i, i < (gK Z0 m n).2.2 → ∀ y, y < 9 → A (pa (rMisK E3 Rp a n).2.1 (a + 11) i) y = Z (m + 1) (367 + 9 * f2 i + y) := fun i hi y hy => by
        have hl := hrgX i (by omega)
        have := i3.1 i hi
        rw [Ao _ (by omega) (by omega), q2 _ (by omega), ← hpX i (by omega), zlw _ _ (by omega)]
        exact i4 i hi y hy
      have eC : ∀ W : jM, (∀ y, y ≠ a + 13 → y ≠ a + 22 → W y = A y) → rCost W (a + 3) (a + 25 + 3 * t) v (A (a + 13) 3) = gCo Z m t r w (nI 0) := fun W hW => by
        have hWB : ∀ y, y ≠ a → y ≠ a + 22 → y ≠ a + 23 → y ≠ a + 25 + 3 * t → y ≠ a + 11 → y ≠ a + 13 → W y = B y := fun y h1 h2 h3 h4 h5 h6 => by rw [hW y h6 h2, AB2 y h1 h2 h3 h4 h5 h6]
        rw [Ap3, rCost_c (M := B) (hWB _ (by omega) (by omega) (by omega) (by omega) (by omega) (by omega)) (hWB _ (by omega) (by omega) (by omega) (by omega) (by omega) (by omega)) (hWB _ (by omega) (by omega) (by omega) (by omega) (by omega) (by omega)) (hWB _ (by omega) (by omega) (by omega) (by omega) (by omega) (by omega)) (hWB _ (by omega) (by omega) (by omega) (by omega) (by omega) (by omega)), hcost, gCo, gT1o _ _ (m + 4) (by omega), egNo (m + 4) (by omega), z4]
        exact (zC1_c hr30 (by omega) (fun k hk hwk => hct k hk w (by omega) hwk) (fun j h1 h2 => by rw [gT1_s _ (by omega) (by omega) (by omega), zS j (by omega) (by omega) (by omega) (by omega)]) (fun j h1 h2 => by rw [gT1_s _ (by omega) (by omega) (by omega), zS j (by omega) (by omega) (by omega) (by omega)])).symm
      have U := use_l (A := A) (Z := Z) (RA := (rMisK E3 Rp a n).2.1) (a := a) (u := a + 25 + 3 * t) (v := v) (n := (gK Z0 m n).2.2) (m := m) (t := t) (r := r) (w := w) (f := f2) (o := oc) (e := zC0 (Z0 (m + 1)) V t w) (b9 := nI 0) (num := -4) (how := nI 2) hn8' j1 i3 A2n zl4 hws (fun i hi => by
          obtain ⟨y, u', l, g1, -, -, g4, -, -⟩ := dz _ (hgn i hi)
          exact ⟨y, by omega, (hgw i hi 0 (by decide)).trans g1⟩) Ap0 eC rfl
        (by rw [AB2 _ (by omega) (by omega) (by omega) (by omega) (by omega) (by omega), zS _ (by decide) (by decide) (by decide) (by decide), z0 _ (by decide)]; exact hE.1 2 (by decide)) Ap4 (by omega)
      have zv : eVal (Z (m + 1)) (gK Z0 m n).2.2 c := fun i hi => by
        have ezz : ∀ y, y < c → zN (Z (m + 1)) y = zN S y := fun y hy => by rw [zN, zN, zS _ (by omega) (by omega) (by omega) (by omega), z0 _ (by omega)]
        obtain ⟨v1, y, v2, v3, w', v4, v5⟩ := dv _ (hgn i hi)
        exact ⟨by rw [hgw i hi 7 (by decide)]; exact v1, y, v2, (hgw i hi 1 (by decide)).trans v3, w', by rw [ezz y v2]; exact v4, (hgw i hi 3 (by decide)).trans v5⟩
      have zd : pDis (Z (m + 1)) (gK Z0 m n).2.2 (gK Z0 m n).2.2 b := by
        refine ⟨⟨x, z, by omega, d2, by rw [zS _ (by decide) (by decide) (by decide) (by decide), d3'], by rw [zS _ (by decide) (by decide) (by decide) (by decide), d4'], fun i hi => ?_⟩, fun i j hi hj hh => ?_, fun i j hi hj di dj hh => ?_⟩
        · obtain ⟨y, u', l, g1, g2, g3, g4, g5, g6⟩ := dz _ (hgn i hi)
          exact ⟨y, u', (hgw i hi 0 (by decide)).trans g1, (hgw i hi 5 (by decide)).trans g2, g4, g5, fun _ => ⟨l, (hgw i hi 8 (by decide)).trans g3, g6⟩⟩
        · rcases hh with e | ⟨e, e'⟩
          · exact i6 i j hi hj (dzn _ _ (hgn i hi) (hgn j hj) (Or.inl ((hgw i hi 0 (by decide)).symm.trans (e.trans (hgw j hj 0 (by decide))))))
          · exact i6 i j hi hj (dzn _ _ (hgn i hi) (hgn j hj) (Or.inr (Or.inl ⟨(hgw i hi 1 (by decide)).symm.trans (e.trans (hgw j hj 1 (by decide))), (hgw i hi 2 (by decide)).symm.trans (e'.trans (hgw j hj 2 (by decide)))⟩)))
        · exact i6 i j hi hj (dzn _ _ (hgn i hi) (hgn j hj) (Or.inr (Or.inr ((hgw i hi 8 (by decide)).symm.trans (hh.trans (hgw j hj 8 (by decide)))))))
      have fl : ∀ y, a + 14 ≤ y → y < a + 22 → isB (A y 7) := fun y h1 h2 => by
        rw [AB2 y (by omega) (by omega) (by omega) (by omega) (by omega) (by omega)]
        exact flB y h1 h2
      have RES := run_asm (q := (gK Z0 m n).2.2) (n1 := (gK Z0 m n).2.2) (p := a + 13) (w := w) (o := oc) (e := zC0 (Z0 (m + 1)) V t w) (b9 := nI 0) (num := -4) (how := nI 2) (d0 := (gK Z0 m n).2.1) (V := V) (Z := Z) eB ht hb AB ⟨by rw [Aa, Ea _ (by decide)], by rw [Aa, Ea _ (by decide)], by rw [Aa, Ea9], by rw [Aa, Ea _ (by decide), nI_0, Int32.add_zero], by rw [Aa, Ea _ (by decide)]⟩ ⟨by rw [Au, Eu _ (by decide)], by rw [Au, Eu3]⟩
        ⟨by rw [Al _ (by decide), e5l _ (by decide), El1], by rw [Al _ (by decide), e5l _ (by decide), El2], by rw [Al _ (by decide), e5l _ (by decide), El3], Al8, by rw [Al _ (by decide), e5l10]⟩ Av
        ⟨by rw [A11, e5s3, zS _ (by decide) (by decide) (by decide) (by decide)], by rw [A11, e5s4, zl8], by rw [A11, e5s5, zS _ (by decide) (by decide) (by decide) (by decide)]⟩
        (fun j h1 h2 => by rw [zS j h1 (by omega) (by omega) (by omega), z0 _ (by omega)]) (by rw [zS _ (by decide) (by decide) (by decide) (by decide), z1]) (fun k hk => by rw [zS _ (by omega) (by omega) (by omega) (by omega), z2 k hk]) egN28 hV2 zv zd hn8'
        Ap0 Ap3 Ap4 (by omega) (fun j a1 a2 a3 a4 a5 => gTB_f a3 a5) U rfl hXs fl
      obtain ⟨n2, f2', g2', s, d, U1, U2, U3, U4, U5, U6, U7, U8, U9, U10, U11, U12, U13, U14, U15, U16, U17, U18, U19, U20, U21, U22, U23, U24, U25, U26⟩ := U
      exact ⟨RES.1, RES.2, fun y hy => by rw [U16 y (by omega) (by omega) (by omega) (by omega), AB2 y (by omega) (by omega) (by omega) (by omega) (by omega) (by omega)], fun y hy => by rw [U26 y (by omega), j6 y (by omega)]⟩
end RNC
