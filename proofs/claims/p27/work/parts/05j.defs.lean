def rN (M : jM) (b : Nat) : Nat := (M b 2).toNatClampNeg
theorem rN_eq {M : jM} {b n : Nat} (h : M b 2 = nI n) (hn : n ≤ 8) : rN M b = n := by
  rw [rN, h, nI_clamp (by omega)]
theorem rMisM_o {M : jM} {R : jR} {a t v n nc x : Nat} (hs : SR R (a + 11)) (hk : M (a + 11) 2 = nI n) (hn : n ≤ 8) (hx : x < a + 11 ∨ a + 22 < x) : rMisM M R a t v n nc x = M x := by
  obtain ⟨m1, m2, m3, m4, -, m6⟩ := rMk_inv (M (a + 24) 4) (a + 11) n M R (-4) hn hs hk
  have h3 : rMis2 M R a n (a + 11) 2 = nI (rMisK M R a n).2.2.2 := by
    rw [rMis2, jup_row _ _ (by omega)]
    exact m3
  have hp := rNewP_rg (cap := rMis2 M R a n (a + 24) 4) m1 (Nat.le_trans m2 hn) h3
  have hp' : x ≠ rMisP M R a n := by
    have e : rMisP M R a n = rNewP (rMis2 M R a n) (rMk (M (a + 24) 4) (a + 11) n M R (-4)).2.1 (a + 11) (rMis2 M R a n (a + 24) 4) (rMk (M (a + 24) 4) (a + 11) n M R (-4)).2.2.2 := rfl
    have hp2 : a + 11 + 2 ≤ rMisP M R a n ∧ rMisP M R a n < a + 11 + 11 := hp
    omega
  have e3 : rMis3 M R a n x = M x := by
    rw [rMis3]
    have e := rNewM_o (M := rMis2 M R a n) (R := (rMisK M R a n).2.1) (b := a + 11) (n := (rMisK M R a n).2.2.2) (x := x) (s := rMis2 M R a n (a + 22) 2) (c := rMis2 M R a n (a + 22) 3) (cap := rMis2 M R a n (a + 24) 4) m1 (Nat.le_trans m2 hn) h3 (by omega)
    rw [e, rMis2, jup_row _ _ (by omega)]
    exact m4 x (by omega)
  rw [rMisM, jup_row _ _ (by omega), rMis5, jup_row _ _ hp', rMis4, jup_row _ _ hp', e3]
theorem rPFM_o {M : jM} {R : jR} {a t v n nc x : Nat} (hs : SR R (a + 11)) (hk : M (a + 11) 2 = nI n) (hn : n ≤ 8) (hx : (x < a + 11 ∨ a + 22 < x) ∧ x ≠ a) : rPFM M R a t v n nc x = M x := by
  unfold rPFM
  split
  · exact rMisM_o hs hk hn hx.1
  · rw [rHitM, jup_row _ _ (by omega), jup_row _ _ hx.2]
theorem rPFR_SR {M : jM} {R : jR} {a n : Nat} (hs : SR R (a + 11)) (hk : M (a + 11) 2 = nI n) (hn : n ≤ 8) : SR (rPFR M R a n) (a + 11) ∧ ∀ x, x ≠ a + 12 → rPFR M R a n x = R x := by
  obtain ⟨m1, m2, m3, m4, -, m6⟩ := rMk_inv (M (a + 24) 4) (a + 11) n M R (-4) hn hs hk
  unfold rPFR
  split
  · exact ⟨m1, m6⟩
  · exact ⟨hs, fun _ _ => rfl⟩
theorem rPFP_at {ω : jW} {γ : jG} {M : jM} {R : jR} {a n : Nat} (g : gState ω γ a) (hs : SR R (a + 11)) (hk : M (a + 11) 2 = nI n) (hn : n ≤ 8) : jAt ω γ (rPFP M R a n) 2 := by
  obtain ⟨m1, m2, m3, m4, -, m6⟩ := rMk_inv (M (a + 24) 4) (a + 11) n M R (-4) hn hs hk
  have gh : gShelf ω γ (a + 11) := g.2.2.2.2.2.2.2.2.2.2.1
  have h3 : rMis2 M R a n (a + 11) 2 = nI (rMisK M R a n).2.2.2 := by
    rw [rMis2, jup_row _ _ (by omega)]
    exact m3
  unfold rPFP
  split
  · exact rNewP_at m1 gh (Nat.le_trans m2 hn) h3
  · exact rPA_at hs gh _
theorem rPA_rg {R : jR} {b : Nat} (h : SR R b) (p : Int32) : b + 2 ≤ rPA R b p ∧ rPA R b p < b + 11 := by
  unfold rPA
  split
  · omega
  · split
    · rename_i h0 h1
      obtain ⟨j, hj, e⟩ := h.rg (lt_of_in (in_of' h0 h1 (by decide)))
      omega
    · omega
theorem rPFP_rg {M : jM} {R : jR} {a n : Nat} (hs : SR R (a + 11)) (hk : M (a + 11) 2 = nI n) (hn : n ≤ 8) : a + 13 ≤ rPFP M R a n ∧ rPFP M R a n < a + 22 := by
  obtain ⟨m1, m2, m3, m4, -, m6⟩ := rMk_inv (M (a + 24) 4) (a + 11) n M R (-4) hn hs hk
  have h3 : rMis2 M R a n (a + 11) 2 = nI (rMisK M R a n).2.2.2 := by
    rw [rMis2, jup_row _ _ (by omega)]
    exact m3
  unfold rPFP
  split
  · have hp := rNewP_rg (cap := rMis2 M R a n (a + 24) 4) m1 (Nat.le_trans m2 hn) h3
    have hp2 : a + 11 + 2 ≤ rMisP M R a n ∧ rMisP M R a n < a + 11 + 11 := hp
    omega
  · have := rPA_rg hs (rPlc M R a n)
    omega
/-- how many plans there are behind the choice of one -/
theorem rNewM_k {M : jM} {R : jR} {b n : Nat} {s c cap : Int32} (h : SR R b) (hn : n ≤ 8) (hk : M b 2 = nI n) : ∃ m, m ≤ 8 ∧ rNewM M R b s c cap n b 2 = nI m := by
  have e1 : ∀ p (n s c : Int32), b ≠ p → rPBegin M p n s c b = M b := fun p n s c hp => by
    simp only [rPBegin]
    rw [jup_row _ _ hp, jup_row _ _ hp, jup_row _ _ hp, jup_row _ _ hp, jup_row _ _ hp, jup_row _ _ hp]
  unfold rNewM
  split
  · exact ⟨n, hn, by rw [e1 _ _ _ _ (by omega)]; exact hk⟩
  · split
    · rename_i h1 h2
      rw [hk] at h2
      have h8 : n < 8 := (nI_ltI (by omega) (by decide)).mp h2
      obtain ⟨j, hj, e⟩ := h.rg h8
      refine ⟨n + 1, by omega, ?_⟩
      rw [jup_nk _ _ (by decide), jup_eq, e1 _ _ _ _ (by omega), hk, nI_add]
    · exact ⟨n, hn, by rw [e1 _ _ _ _ (by omega)]; exact hk⟩
theorem rPFM_k {M : jM} {R : jR} {a t v n nc : Nat} (hs : SR R (a + 11)) (hk : M (a + 11) 2 = nI n) (hn : n ≤ 8) : ∃ m, m ≤ 8 ∧ rPFM M R a t v n nc (a + 11) 2 = nI m := by
  obtain ⟨m1, m2, m3, m4, -, m6⟩ := rMk_inv (M (a + 24) 4) (a + 11) n M R (-4) hn hs hk
  have h3 : rMis2 M R a n (a + 11) 2 = nI (rMisK M R a n).2.2.2 := by
    rw [rMis2, jup_row _ _ (by omega)]
    exact m3
  unfold rPFM
  split
  · obtain ⟨m, hm, e⟩ := rNewM_k (M := rMis2 M R a n) (R := (rMisK M R a n).2.1) (b := a + 11) (n := (rMisK M R a n).2.2.2) (s := rMis2 M R a n (a + 22) 2) (c := rMis2 M R a n (a + 22) 3) (cap := rMis2 M R a n (a + 24) 4) m1 (Nat.le_trans m2 hn) h3
    have hp := rNewP_rg (cap := rMis2 M R a n (a + 24) 4) m1 (Nat.le_trans m2 hn) h3
    have hp2 : a + 11 + 2 ≤ rMisP M R a n ∧ rMisP M R a n < a + 11 + 11 := hp
    refine ⟨m, hm, ?_⟩
    rw [rMisM, jup_row _ _ (by omega), rMis5, jup_row _ _ (by omega), rMis4, jup_row _ _ (by omega)]
    exact e
  · refine ⟨n, hn, ?_⟩
    rw [rHitM, jup_row _ _ (by omega), jup_row _ _ (by omega)]
    exact hk
theorem rThrM_o (M : jM) {b n x : Nat} {p : Int32} (h : x ≠ b) : rThrM M b n p x = M x := by
  unfold rThrM
  split
  · rfl
  · split
    · rfl
    · rw [rThr, jup_row _ _ h, rRem, jup_row _ _ h]
theorem rSurM_o (M : jM) {R : jR} {a p n x : Nat} (h1 : x ≠ a) (h2 : x ≠ p) (h3 : x ≠ a + 11) : rSurM M R a p n x = M x := by
  have e : rSur2 M a p x = M x := by
    simp only [rSur2]
    rw [jup_row _ _ h2, jup_row _ _ h1]
  unfold rSurM
  split
  · exact e
  · rw [rThrM_o _ h3, e]
theorem rUseM_o (M : jM) {R : jR} {a p t v n x : Nat} (h1 : x ≠ a) (h2 : x ≠ p) (h3 : x ≠ a + 11) (h4 : x ≠ a + 22) : rUseM M R a p t v n x = M x := by
  unfold rUseM
  split
  · exact rUse7_o M h2 h4
  · rw [rSurM_o _ h1 h2 h3, rUse7_o M h2 h4]
theorem rLBegin_o (M : jM) {b v x : Nat} {s c : Int32} (h1 : x ≠ b) (h2 : x ≠ b + 1) : rLBegin M b v s c x = M x := by
  rw [rLBegin, jup_row _ _ h1, jup_row _ _ h1, jcopy_o _ h2, jup_row _ _ h1, jup_row _ _ h1]
def rE2 (M : jM) (a t : Nat) : jM := jup (jup M a 9 (M a 9 + nI 1)) t 3 (jup M a 9 (M a 9 + nI 1) t 3 + nI 1)
def rE3 (M : jM) (a t v s nc : Nat) : jM := rLBegin (rE2 M a t) (a + 22) v (nI s) (rCls (rE2 M a t) a t v nc)
def rE4 (M : jM) (R : jR) (a t v s n nc : Nat) : jM := rPFM (rE3 M a t v s nc) R a t v n nc
def rEP (M : jM) (R : jR) (a t v s n nc : Nat) : Nat := rPFP (rE3 M a t v s nc) R a n
def rER (M : jM) (R : jR) (a t v s n nc : Nat) : jR := rPFR (rE3 M a t v s nc) R a n
def rExM (M : jM) (R : jR) (a t v s n nc : Nat) : jM := rUseM (rE4 M R a t v s n nc) (rER M R a t v s n nc) a (rEP M R a t v s n nc) t v (rN (rE4 M R a t v s n nc) (a + 11))
def rExR (M : jM) (R : jR) (a t v s n nc : Nat) : jR := rUseR (rE4 M R a t v s n nc) (rER M R a t v s n nc) a (rEP M R a t v s n nc) t v (rN (rE4 M R a t v s n nc) (a + 11))
def rGiv (M : jM) (v : Nat) (v0 v1 v2 v3 : Int32) : jM := jup (jup (jup (jup M v 0 v0) v 1 v1) v 2 v2) v 3 v3
theorem rGiv_o (M : jM) {v x : Nat} {v0 v1 v2 v3 : Int32} (h : x ≠ v) : rGiv M v v0 v1 v2 v3 x = M x := by
  rw [rGiv, jup_row _ _ h, jup_row _ _ h, jup_row _ _ h, jup_row _ _ h]
/-- the object x: its state a, history h, text T, values v -/
def gX (ω : jW) (γ : jG) (x a h T v : Nat) : Prop := jAt ω γ x 9 ∧ jP γ x 0 = some a ∧ gState ω γ a ∧ jP γ x 1 = some h ∧ gHist ω γ h ∧ jP γ x 2 = some T ∧ gText ω γ T ∧ jP γ x 3 = some v ∧ jArr ω γ v 12 4 ∧ x + 1 ≤ a ∧ a + 43 ≤ h ∧ h + 174 ≤ T ∧ T + 2 ≤ v
/-- what always holds of the class's cells -/
def CI (M : jM) (R : jR) (a h : Nat) (nh : Nat) : Prop := SH R h ∧ M h 1 = nI nh ∧ nh ≤ 4 ∧ SA M R a ∧ ∀ i, i < 4 → SA M R (sa R h i)
theorem rPuM_o {M : jM} {R : jR} {a h nh x : Nat} (H : CI M R a h nh) (hx : x < h ∨ h + 174 ≤ x) : rPuM M R h a nh x = M x := by
  obtain ⟨hs, hk, hn, hA, hH⟩ := H
  have hrot := SH_rot hs
  unfold rPuM
  split
  · obtain ⟨j, hj, ej⟩ := hrot.1.rg (show 3 < 4 by decide)
    have hSA : SA (jup M h 1 (nI 3)) (jrot R h) (sa (jrot R h) h 3) := by
      rw [hrot.2.1] at ej ⊢
      exact SA_cong (hH 0 (by decide)) (fun x hx => jup_row _ _ (by omega)) (fun x hx => jrot_o R (by omega))
    rw [jup_row _ _ (by omega), kState_o _ hSA.2.1 (by omega), jup_row _ _ (by omega)]
  · have h4 : nh < 4 := by omega
    obtain ⟨j, hj, ej⟩ := hs.rg h4
    rw [jup_row _ _ (by omega), kState_o _ (hH nh h4).2.1 (by omega)]
theorem rPuR_o {R : jR} {h nh x : Nat} (hx : x ≠ h + 1) : rPuR R h nh x = R x := by
  unfold rPuR
  split
  · exact jrot_o R hx
  · rfl
def rNC (M : jM) (t : Nat) : Nat := (M t 2).toNatClampNeg
def qStm (M : jM) (a b n k : Nat) : Bool := decide (¬ rIsOf M (a + 25 + 3 * k) b n (rNC M (a + 25 + 3 * k)) = 0)
