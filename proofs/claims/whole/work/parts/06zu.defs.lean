section RNC
variable {A B Z0 F G M M' : jM} {Rp RA RF : jR} {a u v n k p m t r w q b c : Nat} {f : Nat → Nat} {o e b9 num how d0 C : Int32} {S S' V : Nat → Int32}
theorem mis_at {E3 : jM} {est : Int32} {nc : Nat} (hp : a + 13 ≤ rMisP E3 Rp a n ∧ rMisP E3 Rp a n < a + 22) (hw : rBest (rMis3 E3 Rp a n) a (a + 5) u v nc = nI w) (he : ∀ W : jM, (∀ x, x ≠ rMisP E3 Rp a n → W x = rMis3 E3 Rp a n x) → rCost W (a + 5) u v (nI w) = est) :
    rMisM E3 Rp a u v n nc = jup (jup (jup (rMis3 E3 Rp a n) (rMisP E3 Rp a n) 3 (nI w)) (rMisP E3 Rp a n) 4 est) (a + 22) 8 (if rMis3 E3 Rp a n (rMisP E3 Rp a n) 0 = -4 then nI 2 else nI 1) := by
  have e4 : rMis4 E3 Rp a u v n nc = jup (rMis3 E3 Rp a n) (rMisP E3 Rp a n) 3 (nI w) := by rw [rMis4, hw]
  have e5 : rMis5 E3 Rp a u v n nc = jup (jup (rMis3 E3 Rp a n) (rMisP E3 Rp a n) 3 (nI w)) (rMisP E3 Rp a n) 4 est := by
    rw [rMis5, e4, jup_eq, he _ (fun x hx => jup_row _ _ hx)]
  rw [rMisM, e5, jup_nk _ _ (show (0 : Nat) ≠ 4 by decide), jup_nk _ _ (show (0 : Nat) ≠ 3 by decide)]
set_option maxHeartbeats 1000000 in
theorem run_core (eB : eR B Rp a S b r n c f) (pA : SA B Rp a) (ht : t < c) (hb : b ≤ 1000) (hv : v < a ∨ a + 43 ≤ v) (hV : ∀ k, k < 4 → B v k = V k) (hV2 : ∀ k, k < 4 → ¬ zTkF V (zN S t) k = 0) (z0 : ∀ j, (j < 16 ∨ 20 < j) → Z0 (m + 1) j = S j) (z1 : Z0 (m + 1) 16 = nI t) (z2 : ∀ k, k < 4 → Z0 (m + 1) (17 + k) = V k) (z4 : Z0 (m + 4) = V) :
    (∃ n2 f2, eR (rExM B Rp a (a + 25 + 3 * t) v t n (zN S t)) (rExR B Rp a (a + 25 + 3 * t) v t n (zN S t)) a (zGoes Z0 m t r n (zN S t) (m + 1)) (b + 1) r n2 c f2) ∧ SA (rExM B Rp a (a + 25 + 3 * t) v t n (zN S t)) (rExR B Rp a (a + 25 + 3 * t) v t n (zN S t)) a ∧
      (∀ x, (x < a ∨ a + 43 ≤ x) → rExM B Rp a (a + 25 + 3 * t) v t n (zN S t) x = B x) ∧ (∀ x, (x < a ∨ a + 43 ≤ x) → rExR B Rp a (a + 25 + 3 * t) v t n (zN S t) x = Rp x) := by
  obtain ⟨hT, hU, hK, hS, hE, hX, hL, ⟨hk2, hk4, hn8, hf, hwd, hval⟩, hD⟩ := id eB
  have hc6 := hS.2.2.1
  have hr30 := hT.2.2.1
  have hT0 : eTab B a (Z0 (m + 1)) r := eTab_c hT rfl (fun _ _ => rfl) (fun j hj => z0 j (by omega))
  have hU0 : eSum B a (Z0 (m + 1)) r := eSum_c hU hr30 rfl (fun _ _ => rfl) (fun j _ _ => z0 j (by omega))
  have hK0 : eKno B a (Z0 (m + 1)) := eKno_c hK rfl (fun _ _ => rfl) (fun j hj => z0 j (by omega))
  have hS0 : eStm B a (Z0 (m + 1)) c := eStm_c hS rfl (fun _ _ _ _ _ => rfl) (fun _ _ _ _ => ⟨rfl, rfl⟩) (fun j hj => z0 j (by omega))
  have hE0 : eSet B a (Z0 (m + 1)) := eSet_c hE (fun _ _ => rfl) (fun j _ _ => z0 j (by omega))
  have ezn : zN (Z0 (m + 1)) t = zN S t := by rw [zN, zN, z0 _ (by omega)]
  have hst := (hS.2.2.2 t ht).1
  have hn4 : zN S t ≤ 4 := hst.2.2.2.1
  have hcl := q_cls hK0 hE0 hS0 ht hV
  have hbw := q_bw0 hK0 hS0 (by rw [z0 1 (by omega)]; exact hX.1) ht hV
  rw [ezn] at hcl hbw
  obtain ⟨cap, hcap8, hcap1, hcap⟩ := hE.2
  -- the class's beginning
  obtain ⟨E0, ⟨Ea9, Ea⟩, ⟨Eu3, Eu⟩, ⟨El1, El2, El3, El10⟩, Ev⟩ := E3_at (B := B) (a := a) (u := a + 25 + 3 * t) (v := v) (t := t) (o := zCls (Z0 (m + 1)) V t (zN S t) (zN S t)) (by omega) hv (by omega)
  have eE : rE3 B a (a + 25 + 3 * t) v t (zN S t) = rLBegin (rE2 B a (a + 25 + 3 * t)) (a + 22) v (nI t) (zCls (Z0 (m + 1)) V t (zN S t) (zN S t)) := by
    have hr2 : ∀ x, x ≠ a → x ≠ a + 25 + 3 * t → rE2 B a (a + 25 + 3 * t) x = B x := fun x h1 h2 => by rw [rE2, jup_row _ _ h2, jup_row _ _ h1]
    rw [rE3, rCls_c (M := B) (hr2 _ (by omega) (by omega)) (hr2 _ (by omega) (by omega)) (hr2 _ (by omega) (by omega)) (hr2 _ (by omega) (by omega)) (hr2 _ (by omega) (by omega)) (hr2 _ (by omega) (by omega)), hcl]
  unfold rExM rExR rE4 rEP rER
  rw [eE]
  have eo : gO Z0 m t (zN S t) = zCls (Z0 (m + 1)) V t (zN S t) (zN S t) := by rw [gO, z4]
  generalize zCls (Z0 (m + 1)) V t (zN S t) (zN S t) = oc at *
  generalize rLBegin (rE2 B a (a + 25 + 3 * t)) (a + 22) v (nI t) oc = E3 at *
  have hrg : ∀ i, i < 8 → a + 14 ≤ pa Rp (a + 11) i ∧ pa Rp (a + 11) i < a + 22 := fun i hi => by
    obtain ⟨j, hj, e⟩ := pA.2.1.rg hi
    omega
  have wd0 : ∀ i, i < n → ∀ y, y < 9 → B (pa Rp (a + 11) i) y = Z0 (m + 1) (367 + 9 * f i + y) := fun i hi y hy => by
    rw [z0 _ (by omega)]
    exact hwd i hi y hy
  have wd : eWds E3 Rp (a + 11) (Z0 (m + 1)) n f := fun i hi y hy => by
    have hl := hrg i (by omega)
    rw [E0 _ (by omega) (by omega) (by omega) (by omega)]
    exact wd0 i hi y hy
  have hcls0 : ∀ p q, p < n → q < n → Z0 (m + 1) (367 + 9 * p + 1) = Z0 (m + 1) (367 + 9 * q + 1) → Z0 (m + 1) (367 + 9 * p + 2) = Z0 (m + 1) (367 + 9 * q + 2) → p = q := fun p q hp hq e1 e2 => by
    rw [z0 _ (by omega), z0 _ (by omega)] at e1 e2
    exact hD.cls p q hp hq e1 e2
  have ord0 : eOrd (Z0 (m + 1)) n := eOrd_g (g := id) (hD.ord hb) (fun q hq => hq) (fun _ _ _ _ e => e) (fun q hq y hy => z0 _ (by omega))
  have hK3 : E3 (a + 11) 2 = nI n := by rw [E0 _ (by omega) (by omega) (by omega) (by omega)]; exact hk2
  have ePl : rPlc E3 Rp a n = rFirst (qFor E3 Rp (a + 11) (nI t) oc) n := by rw [rPlc, El2, El3]
  have egP : gP Z0 m t n (zN S t) = zLast (zFor (Z0 (m + 1)) (nI t) oc) n := by rw [gP, eo]
  have hct : ∀ k, k < 4 → ∀ w, w < zN S t → w = k → zCol (Z0 (m + 1)) t k < 4 := fun k hk w hw e => by
    have := (hst.2.2.2.2 k (by omega)).2
    rw [zCol, z0 _ (by omega)]
    exact this
  rcases sh_for hf wd hcls0 (nI t) oc with ⟨k, hk, e1, e2, e3, e3'⟩ | ⟨e1, e2, e3⟩
  · -- the plan is there
    have hfk := hf.1 k hk
    obtain ⟨-, t', ht', hte, w, hw, hwe⟩ := hval _ hfk
    have ett : t' = t := by
      rw [z0 _ (by omega)] at e3
      exact (nI_eq (by omega) (by omega)).mp (hte.symm.trans e3)
    rw [ett] at hw
    have hne : ¬ rPlc E3 Rp a n = -1 := by rw [ePl, e1]; exact nI_nem1 (by omega)
    have ep : rPFP E3 Rp a n = pa Rp (a + 11) k := by rw [rPFP, if_neg hne, ePl, e1, rPA_N _ _ (by omega)]
    have eR' : rPFR E3 Rp a n = Rp := by rw [rPFR, if_neg hne]
    have eM : rPFM E3 Rp a (a + 25 + 3 * t) v n (zN S t) = jup (jup E3 a 10 (E3 a 10 + nI 1)) (a + 22) 8 (nI 0) := by rw [rPFM, if_neg hne, rHitM]
    rw [ep, eR', eM]
    have hpk := hrg k (by omega)
    have Ao : ∀ x, x ≠ a → x ≠ a + 22 → jup (jup E3 a 10 (E3 a 10 + nI 1)) (a + 22) 8 (nI 0) x = E3 x := fun x h1 h2 => by rw [jup_row _ _ h2, jup_row _ _ h1]
    have Aa : ∀ j, j ≠ 10 → jup (jup E3 a 10 (E3 a 10 + nI 1)) (a + 22) 8 (nI 0) a j = E3 a j := fun j hj => by rw [jup_na _ _ (by omega), jup_nk _ _ hj]
    have Aa10 : jup (jup E3 a 10 (E3 a 10 + nI 1)) (a + 22) 8 (nI 0) a 10 = B a 10 + nI 1 := by rw [jup_na _ _ (by omega), jup_eq, Ea _ (by decide)]
    have Al : ∀ j, j ≠ 8 → jup (jup E3 a 10 (E3 a 10 + nI 1)) (a + 22) 8 (nI 0) (a + 22) j = E3 (a + 22) j := fun j hj => by rw [jup_nk _ _ hj, jup_na _ _ (by omega)]
    have Al8 : jup (jup E3 a 10 (E3 a 10 + nI 1)) (a + 22) 8 (nI 0) (a + 22) 8 = nI 0 := jup_eq _ _ _ _
    have A2n : jup (jup E3 a 10 (E3 a 10 + nI 1)) (a + 22) 8 (nI 0) (a + 11) 2 = nI n := by rw [Ao _ (by omega) (by omega)]; exact hK3
    have AB : ∀ x, a ≤ x → x < a + 43 → x ≠ a → (x < a + 11 ∨ a + 24 ≤ x) → x ≠ a + 25 + 3 * t → jup (jup E3 a 10 (E3 a 10 + nI 1)) (a + 22) 8 (nI 0) x = B x := fun x h1 h2 h3 h4 h5 => by rw [Ao x h3 (by omega), E0 x h3 h5 (by omega) (by omega)]
    have AB2 : ∀ x, x ≠ a → x ≠ a + 22 → x ≠ a + 23 → x ≠ a + 25 + 3 * t → jup (jup E3 a 10 (E3 a 10 + nI 1)) (a + 22) 8 (nI 0) x = B x := fun x h1 h2 h3 h4 => by rw [Ao x h1 h2, E0 x h1 h4 h2 h3]
    have Au : ∀ j, j ≠ 3 → jup (jup E3 a 10 (E3 a 10 + nI 1)) (a + 22) 8 (nI 0) (a + 25 + 3 * t) j = B (a + 25 + 3 * t) j := fun j hj => by rw [Ao _ (by omega) (by omega), Eu j hj]
    have Au3 : jup (jup E3 a 10 (E3 a 10 + nI 1)) (a + 22) 8 (nI 0) (a + 25 + 3 * t) 3 = B (a + 25 + 3 * t) 3 + nI 1 := by rw [Ao _ (by omega) (by omega), Eu3]
    have Av : ∀ k, k < 4 → jup (jup E3 a 10 (E3 a 10 + nI 1)) (a + 22) 8 (nI 0) (a + 23) k = V k := fun k hk => by rw [Ao _ (by omega) (by omega), Ev k hk, hV k hk]
    have Ap : ∀ i, i < n → ∀ y, y < 9 → jup (jup E3 a 10 (E3 a 10 + nI 1)) (a + 22) 8 (nI 0) (pa Rp (a + 11) i) y = Z0 (m + 1) (367 + 9 * f i + y) := fun i hi y hy => by
      have hl := hrg i (by omega)
      rw [Ao _ (by omega) (by omega)]
      exact wd i hi y hy
    rw [rN_eq A2n hn8]
    generalize jup (jup E3 a 10 (E3 a 10 + nI 1)) (a + 22) 8 (nI 0) = A at *
    have eZ := zGoes_there (M := Z0) (m := m) (t := t) (r := r) (n := n) (nc := zN S t) (q := f k) (w := w) (by rw [egP, e2]; exact nI_pos (by omega)) (by rw [egP, e2]) (by omega) (by rw [z0 _ (by omega)]; exact hwe) (by omega)
    rw [eo] at eZ
    rw [eZ]
    have zz : ∀ j, j ≠ 28 → jup Z0 (m + 1) 28 (-4) (m + 1) j = Z0 (m + 1) j := fun j hj => jup_nk _ _ hj
    have eC : ∀ W : jM, (∀ x, x ≠ pa Rp (a + 11) k → x ≠ a + 22 → W x = A x) → rCost W (a + 3) (a + 25 + 3 * t) v (A (pa Rp (a + 11) k) 3) = gCo (jup Z0 (m + 1) 28 (-4)) m t r w (nI 1) := fun W hW => by
      have h3 : A (pa Rp (a + 11) k) 3 = nI w := by rw [Ap k hk 3 (by decide), z0 _ (by omega)]; exact hwe
      have hWB : ∀ x, (x < a ∨ a + 43 ≤ x ∨ (a + 1 ≤ x ∧ x < a + 7) ∨ (a + 25 ≤ x ∧ x < a + 43 ∧ x ≠ a + 25 + 3 * t)) → W x = B x := fun x hx => by rw [hW x (by omega) (by omega), AB2 x (by omega) (by omega) (by omega) (by omega)]
      rw [h3, rCost_c (M := B) (hWB _ (by omega)) (hWB _ (by omega)) (hWB _ (by omega)) (hWB _ (by omega)) (hWB _ (by omega)), q_c1 hT0 hU0 hS0 ht (by rw [ezn]; exact hw) hV, gCo]
      have e4 : gT1 (jup Z0 (m + 1) 28 (-4)) m t (nI 1) (m + 4) = V := by rw [← z4]; unfold gT1; rw [jup_row _ _ (by omega), jup_row _ _ (by omega), jup_row _ _ (by omega), jup_row _ _ (by omega)]
      rw [e4]
      exact (zC1_c hr30 (by omega) (fun k hk hwk => hct k hk w (by omega) hwk) (fun j h1 h2 => by rw [gT1_s _ (by omega) (by omega) (by omega), zz j (by omega)]) (fun j h1 h2 => by rw [gT1_s _ (by omega) (by omega) (by omega), zz j (by omega)])).symm
    have U := use_k (A := A) (Z := jup Z0 (m + 1) 28 (-4)) (RA := Rp) (a := a) (u := a + 25 + 3 * t) (v := v) (n := n) (k := k) (p := pa Rp (a + 11) k) (m := m) (t := t) (r := r) (w := w) (q := f k) (f := f) (o := oc) (e := Z0 (m + 1) (367 + 9 * f k + 4)) (b := nI 1) (num := gT1 (jup Z0 (m + 1) 28 (-4)) m t (nI 1) (m + 1) (367 + 9 * f k + 0)) (how := nI 0) hn8 hk pA.2.1 hf rfl rfl A2n (by rw [zz _ (by decide), z0 _ (by decide)]; exact hk4)
      (fun i hi y hy _ => by rw [zz _ (by omega)]; exact Ap i hi y hy) (fun i j hi hj hh => by
        rw [zz _ (by omega), zz _ (by omega), z0 _ (by omega), z0 _ (by omega)] at hh
        exact hD.num i j hi hj hh) eC rfl (by rw [AB2 _ (by omega) (by omega) (by omega) (by omega), zz _ (by decide), z0 _ (by decide)]; exact hE.1 2 (by decide)) (by rw [AB2 _ (by omega) (by omega) (by omega) (by omega), zz _ (by decide), z0 _ (by decide)]; exact hE.1 3 (by decide)) (by rw [Aa _ (by decide), Ea9, zz _ (by decide), z0 _ (by decide), hX.2.1]) (Ap k hk 4 (by decide)) (by omega)
    have zv : eVal (jup Z0 (m + 1) 28 (-4) (m + 1)) n c := eVal_g (g := id) hval (fun q hq => hq) (fun q hq => ⟨by rw [zz _ (by omega), z0 _ (by omega)]; rfl, by rw [zz _ (by omega), z0 _ (by omega)]; rfl, by rw [zz _ (by omega), z0 _ (by omega)]; exact (hval q hq).1⟩) (fun y hy => by rw [zN, zN, zz _ (by omega), z0 _ (by omega)])
    have zd : pDis (jup Z0 (m + 1) 28 (-4) (m + 1)) n (f k) b := by
      obtain ⟨⟨x, z, d1, d2, d3, d4, d5⟩, d6⟩ := hD
      refine ⟨⟨x, z, by omega, d2, by rw [zz _ (by omega), z0 _ (by omega)]; exact d3, by rw [zz _ (by omega), z0 _ (by omega)]; exact d4, fun i hi => ?_⟩, fun i j hi hj hh => ?_, fun i j hi hj _ _ hh => ?_⟩
      · obtain ⟨y, u', l, g1, g2, g3, g4, g5, g6⟩ := d5 i hi
        exact ⟨y, u', by rw [zz _ (by omega), z0 _ (by omega)]; exact g1, by rw [zz _ (by omega), z0 _ (by omega)]; exact g2, g4, g5, fun _ => ⟨l, by rw [zz _ (by omega), z0 _ (by omega)]; exact g3, g6⟩⟩
      · rw [zz _ (by omega), zz _ (by omega), zz (367 + 9 * i + 1) (by omega), zz (367 + 9 * i + 2) (by omega), zz (367 + 9 * j + 1) (by omega), zz (367 + 9 * j + 2) (by omega), z0 _ (by omega), z0 _ (by omega), z0 (367 + 9 * i + 1) (by omega), z0 (367 + 9 * i + 2) (by omega), z0 (367 + 9 * j + 1) (by omega), z0 (367 + 9 * j + 2) (by omega)] at hh
        exact d6 i j hi hj (hh.elim Or.inl (fun q => Or.inr (Or.inl q)))
      · rw [zz _ (by omega), zz _ (by omega), z0 _ (by omega), z0 _ (by omega)] at hh
        exact d6 i j hi hj (Or.inr (Or.inr hh))
    have fl : ∀ x, a + 14 ≤ x → x < a + 22 → isB (A x 7) := fun x h1 h2 => by
      obtain ⟨k', hk', ek'⟩ := SR_sur pA.2.1 (show x - (a + 14) < 8 by omega)
      have := pA.2.2.1 k' hk'
      rw [ek', show a + 11 + 3 + (x - (a + 14)) = x by omega] at this
      rw [AB2 x (by omega) (by omega) (by omega) (by omega)]
      exact this
    have RES := run_asm (q := f k) (n1 := n) (p := pa Rp (a + 11) k) (w := w) (o := oc) (e := Z0 (m + 1) (367 + 9 * f k + 4)) (b9 := nI 1) (num := gT1 (jup Z0 (m + 1) 28 (-4)) m t (nI 1) (m + 1) (367 + 9 * f k + 0)) (how := nI 0) (d0 := -4) (V := V) (Z := jup Z0 (m + 1) 28 (-4)) eB ht hb AB ⟨by rw [Aa _ (by decide), Ea _ (by decide)], by rw [Aa _ (by decide), Ea _ (by decide)], by rw [Aa _ (by decide), Ea9], Aa10, by rw [Aa _ (by decide), Ea _ (by decide)]⟩ ⟨Au 2 (by decide), Au3⟩ ⟨by rw [Al _ (by decide), El1], by rw [Al _ (by decide), El2], by rw [Al _ (by decide), El3], Al8, by rw [Al _ (by decide), El10]⟩ Av
        ⟨by rw [AB2 _ (by omega) (by omega) (by omega) (by omega), zz _ (by decide), z0 _ (by decide)]; exact hX.2.2.2.2.1, by rw [AB2 _ (by omega) (by omega) (by omega) (by omega), zz _ (by decide), z0 _ (by decide)]; exact hX.2.2.2.2.2.1, by rw [AB2 _ (by omega) (by omega) (by omega) (by omega), zz _ (by decide), z0 _ (by decide)]; exact hX.2.2.2.2.2.2⟩ (fun j h1 h2 => by rw [zz _ (by omega), z0 _ (by omega)]) (by rw [zz _ (by decide), z1]) (fun k hk => by rw [zz _ (by omega), z2 k hk]) (jup_eq _ _ _ _) hV2 zv zd hn8
        (by rw [gT1_s _ (by omega) (by omega) (by omega), zz _ (by omega)]; exact Ap k hk 0 (by decide)) (by rw [Ap k hk 3 (by decide), z0 _ (by omega)]; exact hwe) (Ap k hk 4 (by decide)) (by omega) (fun j a1 a2 a3 a4 a5 => gTA_f a1 a2 a3 a4 a5) U rfl pA.1 fl
    obtain ⟨n2, f2, g2, s, d, U1, U2, U3, U4, U5, U6, U7, U8, U9, U10, U11, U12, U13, U14, U15, U16, U17, U18, U19, U20, U21, U22, U23, U24, U25, U26⟩ := U
    exact ⟨RES.1, RES.2, fun x hx => by rw [U16 x (by omega) (by omega) (by omega) (by omega), AB2 x (by omega) (by omega) (by omega) (by omega)], fun x hx => U26 x (by omega)⟩
  · -- a plan is made
    have hne : rPlc E3 Rp a n = -1 := ePl.trans e1
    have ep : rPFP E3 Rp a n = rMisP E3 Rp a n := by rw [rPFP, if_pos hne]
    have eR' : rPFR E3 Rp a n = (rMisK E3 Rp a n).2.1 := by rw [rPFR, if_pos hne]
    have eM : rPFM E3 Rp a (a + 25 + 3 * t) v n (zN S t) = rMisM E3 Rp a (a + 25 + 3 * t) v n (zN S t) := by rw [rPFM, if_pos hne]
    rw [ep, eR', eM]
    have hc15 : E3 (a + 24) 4 = Z0 (m + 1) 15 := by rw [E0 _ (by omega) (by omega) (by omega) (by omega), z0 15 (by decide)]; exact hE.1 4 (by decide)
    have hZ4 : Z0 (m + 1) 4 = nI n := by rw [z0 4 (by decide)]; exact hk4
    have hcap0 : Z0 (m + 1) 15 = nI cap := by rw [z0 15 (by decide)]; exact hcap
    obtain ⟨⟨x, z, d1, d2, d3, d4, d5⟩, d6⟩ := hD
    obtain ⟨i1, i2, f2, g, i3, i4, i5, i6, i7, i8⟩ := mk_sim (m := m) (b := a + 11) (Z0 (m + 1) 15) n E3 Rp Z0 (-4) f hn8 pA.2.1 hK3 hZ4 hf wd ord0 (fun q hq => by
      obtain ⟨y, u', l, g1, g2, g3, g4, g5, g6⟩ := d5 q hq
      exact ⟨y, by omega, by rw [z0 _ (by omega)]; exact g1⟩) (Or.inl rfl)
    obtain ⟨j1, j2, j3, j4, ⟨j5, j5'⟩, j6⟩ := rMk_inv (Z0 (m + 1) 15) (a + 11) n E3 Rp (-4) hn8 pA.2.1 hK3
    obtain ⟨k1, k2, k3, k4⟩ := zCl_inv (Z0 (m + 1) 15) m n Z0 (-4) hZ4
    have eX : rMk (Z0 (m + 1) 15) (a + 11) n E3 Rp (-4) = rMisK E3 Rp a n := by rw [rMisK, hc15]
    have eY : zCl (Z0 (m + 1) 15) m n Z0 (-4) = gK Z0 m n := rfl
    rw [eX] at i1 i2 i4 i7 j1 j2 j3 j4 j5 j5' j6
    rw [eY] at i1 i2 i3 i4 i5 i6 i7 i8 k1 k2 k3 k4
    have r2 : rMis2 E3 Rp a n = jup (rMisK E3 Rp a n).1 (a + 22) 10 (rMisK E3 Rp a n).2.2.1 := rfl
    have e5o : ∀ x, x ≠ a + 11 → x ≠ a + 22 → rMis2 E3 Rp a n x = E3 x := fun x h1 h2 => by rw [r2, jup_row _ _ h2, j4 x h1]
    have e5l : ∀ j, j ≠ 10 → rMis2 E3 Rp a n (a + 22) j = E3 (a + 22) j := fun j hj => by rw [r2, jup_nk _ _ hj, j4 _ (by omega)]
    have e5l10 : rMis2 E3 Rp a n (a + 22) 10 = (gK Z0 m n).2.1 := by rw [r2, jup_eq, i2]
    have e5s2 : rMis2 E3 Rp a n (a + 11) 2 = nI (gK Z0 m n).2.2 := by rw [r2, jup_row _ _ (by omega), j3, i1]
    have e5s3 : rMis2 E3 Rp a n (a + 11) 3 = Z0 (m + 1) 5 := by rw [r2, jup_row _ _ (by omega), j5, E0 _ (by omega) (by omega) (by omega) (by omega), z0 5 (by decide)]; exact hX.2.2.2.2.1
    have e5s4 : rMis2 E3 Rp a n (a + 11) 4 = (gK Z0 m n).1 (m + 1) 8 := by rw [r2, jup_row _ _ (by omega), i7, i8, E0 _ (by omega) (by omega) (by omega) (by omega), z0 8 (by decide), hX.2.2.2.2.2.1]
    have e5s5 : rMis2 E3 Rp a n (a + 11) 5 = Z0 (m + 1) 10 := by rw [r2, jup_row _ _ (by omega), j5', E0 _ (by omega) (by omega) (by omega) (by omega), z0 10 (by decide)]; exact hX.2.2.2.2.2.2
    have e5c : rMis2 E3 Rp a n (a + 24) 4 = Z0 (m + 1) 15 := by rw [e5o _ (by omega) (by omega)]; exact hc15
    have r3 : rMis3 E3 Rp a n = rNewM (rMis2 E3 Rp a n) (rMisK E3 Rp a n).2.1 (a + 11) (nI t) oc (Z0 (m + 1) 15) (gK Z0 m n).2.2 := by rw [rMis3, e5l _ (by decide), e5l _ (by decide), El2, El3, e5c, i1]
    have rP : rMisP E3 Rp a n = rNewP (rMis2 E3 Rp a n) (rMisK E3 Rp a n).2.1 (a + 11) (Z0 (m + 1) 15) (gK Z0 m n).2.2 := by rw [rMisP, e5c, i1]
    have egN : ∀ j, j ≠ 28 → gN Z0 m n (m + 1) j = (gK Z0 m n).1 (m + 1) j := fun j hj => by rw [gN, jup_nk _ _ hj]
    have egN28 : gN Z0 m n (m + 1) 28 = (gK Z0 m n).2.1 := by rw [gN, jup_eq]
    have egNo : ∀ x, x ≠ m + 1 → gN Z0 m n x = Z0 x := fun x hx => by rw [gN, jup_row _ _ hx, k4 x hx]
    have hgP : gP Z0 m t n (zN S t) < 0 := by rw [egP, e2]; decide
    have eW : gWy Z0 m t (zN S t) = zBest (Z0 (m + 1)) (zC0 (Z0 (m + 1)) V t) t (zN S t) (zN S t) := by rw [gWy, z4]
    have eEs : gE Z0 m t (zN S t) = zC0 (Z0 (m + 1)) V t (zBest (Z0 (m + 1)) (zC0 (Z0 (m + 1)) V t) t (zN S t) (zN S t)) := by rw [gE, z4, eW]
    have hwr := zBest_rg (Z0 (m + 1)) (zC0 (Z0 (m + 1)) V t) t (zN S t) (zN S t) (Nat.le_refl _)
    have hest := q_c0 (w := zBest (Z0 (m + 1)) (zC0 (Z0 (m + 1)) V t) t (zN S t) (zN S t)) hK0 hS0 ht (by rw [ezn]; exact hwr) hV
    generalize zBest (Z0 (m + 1)) (zC0 (Z0 (m + 1)) V t) t (zN S t) (zN S t) = w at *
    have hcost := q_c1 (w := w) hT0 hU0 hS0 ht (by rw [ezn]; exact hwr) hV
    have hrgX : ∀ i, i < 8 → a + 14 ≤ pa (rMisK E3 Rp a n).2.1 (a + 11) i ∧ pa (rMisK E3 Rp a n).2.1 (a + 11) i < a + 22 := fun i hi => by
      obtain ⟨j, hj, e⟩ := j1.rg hi
      omega
    have hXs : SS (rMisK E3 Rp a n).2.1 a := fun j hj => by rw [j6 _ (by omega)]; exact pA.1 j hj
    have flB : ∀ x, a + 14 ≤ x → x < a + 22 → isB (B x 7) := fun x h1 h2 => by
      obtain ⟨k', hk', ek'⟩ := SR_sur pA.2.1 (show x - (a + 14) < 8 by omega)
      have := pA.2.2.1 k' hk'
      rw [ek', show a + 11 + 3 + (x - (a + 14)) = x by omega] at this
      exact this
    have dz : ∀ q, q < n → ∃ y u' l, Z0 (m + 1) (367 + 9 * q) = nI y ∧ Z0 (m + 1) (367 + 9 * q + 5) = nI u' ∧ Z0 (m + 1) (367 + 9 * q + 8) = nI l ∧ y < x ∧ u' ≤ b ∧ l ≤ z := fun q hq => by
      obtain ⟨y, u', l, g1, g2, g3, g4, g5, g6⟩ := d5 q hq
      exact ⟨y, u', l, by rw [z0 _ (by omega)]; exact g1, by rw [z0 _ (by omega)]; exact g2, by rw [z0 _ (by omega)]; exact g3, g4, g5, g6⟩
    have dzn : ∀ p q, p < n → q < n → (Z0 (m + 1) (367 + 9 * p) = Z0 (m + 1) (367 + 9 * q) ∨ (Z0 (m + 1) (367 + 9 * p + 1) = Z0 (m + 1) (367 + 9 * q + 1) ∧ Z0 (m + 1) (367 + 9 * p + 2) = Z0 (m + 1) (367 + 9 * q + 2)) ∨ Z0 (m + 1) (367 + 9 * p + 8) = Z0 (m + 1) (367 + 9 * q + 8)) → p = q := fun p q hp hq hh => by
      rw [z0 _ (by omega), z0 _ (by omega), z0 (367 + 9 * p + 1) (by omega), z0 (367 + 9 * p + 2) (by omega), z0 (367 + 9 * q + 1) (by omega), z0 (367 + 9 * q + 2) (by omega), z0 (367 + 9 * p + 8) (by omega), z0 (367 + 9 * q + 8) (by omega)] at hh
      exact d6 p q hp hq hh
    have dv : ∀ q, q < n → isB (Z0 (m + 1) (367 + 9 * q + 7)) ∧ ∃ y, y < c ∧ Z0 (m + 1) (367 + 9 * q + 1) = nI y ∧ ∃ w', (w' = 9 ∨ w' < zN S y) ∧ Z0 (m + 1) (367 + 9 * q + 3) = nI w' := fun q hq => by
      rw [z0 _ (by omega), z0 _ (by omega), z0 _ (by omega)]
      exact hval q hq
    have d3' : Z0 (m + 1) 5 = nI x := by rw [z0 5 (by decide)]; exact d3
    have d4' : Z0 (m + 1) 6 = nI z := by rw [z0 6 (by decide)]; exact d4
    have hgn : ∀ q, q < (gK Z0 m n).2.2 → g q < n := fun q hq => (i5 q hq).1
    have hgw : ∀ q, q < (gK Z0 m n).2.2 → ∀ y, y < 9 → gN Z0 m n (m + 1) (367 + 9 * q + y) = Z0 (m + 1) (367 + 9 * g q + y) := fun q hq y hy => by rw [egN _ (by omega)]; exact (i5 q hq).2 y hy
    by_cases hc : (gK Z0 m n).2.2 < cap
    · sorry
    · sorry
end RNC
