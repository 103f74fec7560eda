section REA
variable {M M1 M2 N : jM} {R R1 : jR} {a h T v m b nh : Nat} {S S2 V : Nat → Int32} {r n n' c b' k len : Nat} {f f' : Nat → Nat}
theorem eR_giv (e : eR M R a S b r n c f) (hA : SA M R a) (hv : a + 43 ≤ v) (v0 v1 v2 v3 : Int32) : eR (rGiv M v v0 v1 v2 v3) R a S b r n c f := eR_c e (eqB_same hA.2.1 (fun x h1 h2 => rGiv_o _ (by omega)) rfl) (fun _ _ => rfl) (Nat.le_refl _)
theorem giv_v (M : jM) (v : Nat) (v0 v1 v2 v3 : Int32) : rGiv M v v0 v1 v2 v3 v 0 = v0 ∧ rGiv M v v0 v1 v2 v3 v 1 = v1 ∧ rGiv M v v0 v1 v2 v3 v 2 = v2 ∧ rGiv M v v0 v1 v2 v3 v 3 = v3 := by
  unfold rGiv
  exact ⟨by rw [jup_nk _ _ (by decide), jup_nk _ _ (by decide), jup_nk _ _ (by decide), jup_eq], by rw [jup_nk _ _ (by decide), jup_nk _ _ (by decide), jup_eq], by rw [jup_nk _ _ (by decide), jup_eq], by rw [jup_eq]⟩
theorem mTk_v (M : jM) (m : Nat) (v0 v1 v2 v3 : Int32) : mTk M m v0 v1 v2 v3 (m + 4) 0 = v0 ∧ mTk M m v0 v1 v2 v3 (m + 4) 1 = v1 ∧ mTk M m v0 v1 v2 v3 (m + 4) 2 = v2 ∧ mTk M m v0 v1 v2 v3 (m + 4) 3 = v3 := by
  unfold mTk
  exact ⟨by rw [jup_nk _ _ (by decide), jup_nk _ _ (by decide), jup_nk _ _ (by decide), jup_eq], by rw [jup_nk _ _ (by decide), jup_nk _ _ (by decide), jup_eq], by rw [jup_nk _ _ (by decide), jup_eq], by rw [jup_eq]⟩
theorem giv_tk (M N : jM) (m v : Nat) (v0 v1 v2 v3 : Int32) : ∀ k, k < 4 → rGiv M v v0 v1 v2 v3 v k = mTk N m v0 v1 v2 v3 (m + 4) k := by
  intro k hk
  obtain ⟨a0, a1, a2, a3⟩ := giv_v M v v0 v1 v2 v3
  obtain ⟨b0, b1, b2, b3⟩ := mTk_v N m v0 v1 v2 v3
  match k, hk with
  | 0, _ => exact a0.trans b0.symm
  | 1, _ => exact a1.trans b1.symm
  | 2, _ => exact a2.trans b2.symm
  | 3, _ => exact a3.trans b3.symm
theorem rNC_zN {t : Nat} (hS : eStm M a S c) (ht : t < c) : rNC M (a + 25 + 3 * t) = zN S t := by
  obtain ⟨-, -, -, hs⟩ := hS
  rw [rNC, (hs t ht).2.2.1]
  rfl
theorem q_bw0 {t : Nat} (hK : eKno M a S) (hS : eStm M a S c) (hX : M a 7 = S 1) (ht : t < c) (hV : ∀ k, k < 4 → M v k = V k) : rBest M a (a + 5) (a + 25 + 3 * t) v (zN S t) = nI (zBest S (zC0 S V t) t (zN S t) (zN S t)) :=
  q_best hS hX ht (fun k hk => q_c0 hK hS ht (Or.inr hk) hV) (by
    rw [zC0, if_pos rfl]
    exact hK.2)
theorem q_bw1 {t : Nat} (hT : eTab M a S r) (hU : eSum M a S r) (hS : eStm M a S c) (hX : M a 7 = S 1) (ht : t < c) (hV : ∀ k, k < 4 → M v k = V k) : rBest M a (a + 3) (a + 25 + 3 * t) v (zN S t) = nI (zBest S (zC1 S V t r) t (zN S t) (zN S t)) :=
  q_best hS hX ht (fun k hk => q_c1 hT hU hS ht (Or.inr hk) hV) (by
    rw [zC1, if_pos rfl]
    exact hU.2)
theorem st_val (I : eInv M R a h T v m b nh) (hM : ∀ x, x ≠ v → x ≠ m + 4 → M2 x = M x) : eInv M2 R a h T v m (b + 1) nh := by
  obtain ⟨I1, I2, I3, I4, I5, -, I7, I8, I9, I10⟩ := id I
  exact e_same I (fun x h1 h2 => hM x (by omega) (by omega)) (fun j _ => by rw [hM m (by omega) (by omega)]) (hM _ (by omega) (by omega)) (hM _ (by omega) (by omega)) (hM _ (by omega) (by omega))
theorem acc_o (x : Nat) (hx : x ≠ v) (s v0 v1 v2 v3 : Int32) : mAcc M a v s v0 v1 v2 v3 x = M x := by
  unfold mAcc
  split
  · rfl
  · exact rGiv_o _ hx
theorem st_class (I : eInv M R a h T v m b nh) (e : eR M R a (M (m + 1)) b r n c f) (s v0 v1 v2 v3 : Int32) : (∀ y, v < y → mAcc M a v s v0 v1 v2 v3 y = M y) ∧ fClassOf M a v s v0 v1 v2 v3 = zfClass (mAcc M a v s v0 v1 v2 v3 (m + 1)) (mTk (mAcc M a v s v0 v1 v2 v3) m v0 v1 v2 v3 (m + 4)) s ∧ ∃ nh', eInv (mTk (mAcc M a v s v0 v1 v2 v3) m v0 v1 v2 v3) R a h T v m (b + 1) nh' := by
  obtain ⟨I1, I2, I3, I4, I5, -, I7, I8, I9, I10⟩ := id I
  refine ⟨fun y hy => acc_o y (by omega) _ _ _ _ _, ?_, nh, st_val I (fun x h1 h2 => by rw [mTk_o _ _ _ _ _ h2, acc_o x h1])⟩
  obtain ⟨b0, b1, b2, b3⟩ := mTk_v (mAcc M a v s v0 v1 v2 v3) m v0 v1 v2 v3
  rw [acc_o _ (by omega)]
  have ea : rAcc M a s v0 v1 v2 v3 = zTks (M (m + 1)) (mTk (mAcc M a v s v0 v1 v2 v3) m v0 v1 v2 v3 (m + 4)) s := q_acc e.2.2.2.1 b0 b1 b2 b3
  unfold fClassOf zfClass
  rw [ea]
  by_cases c0 : zTks (M (m + 1)) (mTk (mAcc M a v s v0 v1 v2 v3) m v0 v1 v2 v3 (m + 4)) s = 0
  · rw [if_pos c0, if_pos c0]
  · rw [if_neg c0, if_neg c0]
    have hc6 := e.2.2.2.1.2.2.1
    obtain ⟨t, ht, rfl, -⟩ := zTks_of e.2.2.2.1.2.1 hc6 c0
    have eg := eR_giv e I1.2.2.2.1 (v := v) (by omega) v0 v1 v2 v3
    rw [rSA_N a (by omega), nI_clamp (by omega), rNC_zN e.2.2.2.1 ht]
    exact q_cls eg.2.2.1 eg.2.2.2.2.1 eg.2.2.2.1 ht (giv_tk _ _ _ _ _ _ _ _)
theorem st_way (I : eInv M R a h T v m b nh) (e : eR M R a (M (m + 1)) b r n c f) (s v0 v1 v2 v3 : Int32) : (∀ y, v < y → mAcc M a v s v0 v1 v2 v3 y = M y) ∧ fWay M a v s v0 v1 v2 v3 = zfWay (mAcc M a v s v0 v1 v2 v3 (m + 1)) (mTk (mAcc M a v s v0 v1 v2 v3) m v0 v1 v2 v3 (m + 4)) s ∧ ∃ nh', eInv (mTk (mAcc M a v s v0 v1 v2 v3) m v0 v1 v2 v3) R a h T v m (b + 1) nh' := by
  obtain ⟨I1, I2, I3, I4, I5, -, I7, I8, I9, I10⟩ := id I
  refine ⟨fun y hy => acc_o y (by omega) _ _ _ _ _, ?_, nh, st_val I (fun x h1 h2 => by rw [mTk_o _ _ _ _ _ h2, acc_o x h1])⟩
  obtain ⟨b0, b1, b2, b3⟩ := mTk_v (mAcc M a v s v0 v1 v2 v3) m v0 v1 v2 v3
  rw [acc_o _ (by omega)]
  have ea : rAcc M a s v0 v1 v2 v3 = zTks (M (m + 1)) (mTk (mAcc M a v s v0 v1 v2 v3) m v0 v1 v2 v3 (m + 4)) s := q_acc e.2.2.2.1 b0 b1 b2 b3
  unfold fWay zfWay
  rw [ea]
  by_cases c0 : zTks (M (m + 1)) (mTk (mAcc M a v s v0 v1 v2 v3) m v0 v1 v2 v3 (m + 4)) s = 0
  · rw [if_pos c0, if_pos c0]
  · rw [if_neg c0, if_neg c0]
    have hc6 := e.2.2.2.1.2.2.1
    obtain ⟨t, ht, rfl, -⟩ := zTks_of e.2.2.2.1.2.1 hc6 c0
    have eg := eR_giv e I1.2.2.2.1 (v := v) (by omega) v0 v1 v2 v3
    rw [rSA_N a (by omega), nI_clamp (by omega), rNC_zN e.2.2.2.1 ht]
    exact q_bw0 eg.2.2.1 eg.2.2.2.1 eg.2.2.2.2.2.1.1 ht (giv_tk _ _ _ _ _ _ _ _)
theorem st_best (I : eInv M R a h T v m b nh) (e : eR M R a (M (m + 1)) b r n c f) : fBestCost M a = zfBestC (M (m + 1)) (mTk M m (M (m + 1) 17) (M (m + 1) 18) (M (m + 1) 19) (M (m + 1) 20) (m + 4)) r ∧ ∃ nh', eInv (zmBestC M m) R a h T v m (b + 1) nh' := by
  obtain ⟨I1, I2, I3, I4, I5, -, I7, I8, I9, I10⟩ := id I
  refine ⟨?_, nh, st_val I (fun x h1 h2 => ?_)⟩
  · obtain ⟨b0, b1, b2, b3⟩ := mTk_v M m (M (m + 1) 17) (M (m + 1) 18) (M (m + 1) 19) (M (m + 1) 20)
    generalize mTk M m (M (m + 1) 17) (M (m + 1) 18) (M (m + 1) 19) (M (m + 1) 20) (m + 4) = V at *
    have hV : ∀ k, k < 4 → V k = M (m + 1) (17 + k) := fun k hk => by
      match k, hk with
      | 0, _ => exact b0
      | 1, _ => exact b1
      | 2, _ => exact b2
      | 3, _ => exact b3
    obtain ⟨h1, h2, h3, h4, h5, h6, h7, h8, h9⟩ := e
    have hc6 := h4.2.2.1
    unfold fBestCost zfBestC
    rcases h7 with ⟨g1, g2⟩ | ⟨g1, ⟨t, g2, g3, g3'⟩, g4, g5, g6⟩
    · rw [if_pos g1, g2, if_neg (by decide)]
    · have hc : ¬ zTks (M (m + 1)) V (nI t) = 0 := zTks_yes h4.2.1 hc6 g2 (fun k hk => by
        rw [zTkF_c (V := fun k => M (m + 1) (17 + k)) (hV k hk)]
        exact g3' k hk)
      have hV2 : ∀ k, k < 4 → M (a + 23) k = V k := fun k hk => (g5 k hk).trans (hV k hk).symm
      have hz := zBest_rg (M (m + 1)) (zC1 (M (m + 1)) V t r) t (zN (M (m + 1)) t) (zN (M (m + 1)) t) (Nat.le_refl _)
      rw [if_neg (by rw [g1]; decide), g4, g3, if_pos (nI_pos' (by omega)), if_neg hc, rSA_N a (by omega), nI_clamp (by omega), rNC_zN h4 g2, q_bw1 h1 h2 h4 h6.1 g2 hV2, q_c1 h1 h2 h4 g2 hz hV2]
  · unfold zmBestC
    split
    · exact mTk_o _ _ _ _ _ h2
    · rfl
theorem st_fault (I : eInv M R a h T v m b nh) (hx : eTxt M T m len) (w : Int32) : fFault M T len w = zfFault M m len w ∧ ∃ nh', eInv (zmFault M m len w) R a h T v m (b + 1) nh' := by
  obtain ⟨I1, I2, I3, I4, I5, -, I7, I8, I9, I10⟩ := id I
  refine ⟨q_fault hx I5 w, nh, ?_⟩
  unfold zmFault
  split
  · exact e_same0 I
  · exact e_right I
section RD2
theorem st_rowOf (e : eR M R a (M (m + 1)) b r n c f) (p w : Int32) : fRowOf M a p w = zRowOf (M (m + 1)) p w := q_rowOf e.1 p w
theorem st_known (e : eR M R a (M (m + 1)) b r n c f) (p w : Int32) : fKnown M a p w = zKnown (M (m + 1)) p w := q_known e.2.2.1 p w
theorem st_stOf (e : eR M R a (M (m + 1)) b r n c f) (p w : Int32) : fStOf M R a n p w = zStOf (M (m + 1)) n p w := by
  obtain ⟨h1, h2, h3, h4, h5, h6, h7, ⟨k1, k2, k3, k4, k5, k6⟩, h9⟩ := e
  exact q_stOf k4 k5 h4 p w
theorem st_latest (I : eInv M R a h T v m b nh) (e : eR M R a (M (m + 1)) b r n c f) (w : Int32) : fLatest M a w = zLatest (M (m + 1)) w := q_latest e.2.2.2.1.2.2.1 e.2.2.2.2.2.2.1 I.1.2.2.2.1.2.2.2.2 w
theorem st_planOf (e : eR M R a (M (m + 1)) b r n c f) (p w : Int32) : fPlanOf M R a n p w = zPlanOf (M (m + 1)) n p w := by
  obtain ⟨h1, h2, h3, h4, h5, h6, h7, ⟨k1, k2, k3, k4, k5, k6⟩, h9⟩ := e
  exact q_planOf k4 k5 k3 h9.num (fun q hq => (k6 q hq).1) h6.2.1 p w
theorem st_planFor (e : eR M R a (M (m + 1)) b r n c f) (p w : Int32) : fPlanFor M R a n p w = zPlanFor (M (m + 1)) n p w := by
  obtain ⟨h1, h2, h3, h4, h5, h6, h7, ⟨k1, k2, k3, k4, k5, k6⟩, h9⟩ := e
  exact q_planFor k4 k5 k3 k1 h9.cls (h4.1.trans h4.2.1.symm) p w
theorem st_drops (e : eR M R a (M (m + 1)) b r n c f) (hb : b ≤ 100000) (x : Int32) : fDrops M R a n x = zDropsN (M (m + 1)) n x := by
  obtain ⟨h1, h2, h3, h4, h5, h6, h7, ⟨k1, k2, k3, k4, k5, k6⟩, h9⟩ := e
  exact q_drops k4 k5 k3 k1 (h9.ord hb) x
theorem st_count (I : eInv M R a h T v m b nh) (e : eR M R a (M (m + 1)) b r n c f) (w : Int32) : fCount M R a h T n w = zCount M m r n w := by
  obtain ⟨h1, h2, h3, h4, h5, h6, h7, ⟨k1, k2, k3, k4, k5, k6⟩, h9⟩ := e
  obtain ⟨I1, I2, I3, I4, I5, ⟨len, x1, x2, x3, x4⟩, I7, I8, I9, I10⟩ := I
  obtain ⟨c1, c2, c3, c4, c5, c6, c7⟩ := h6
  exact q_count (h1.1.trans h1.2.1.symm) h2.2 h3.2 c1 (h4.1.trans h4.2.1.symm) (k1.trans k2.symm) (sh_pin k4 k5 (fun q hq => (k6 q hq).1)) c2 c3 c6 c4 c7 (I1.2.1.trans I2.symm) (x2.trans x3.symm) h5.1 w
end RD2
end REA
