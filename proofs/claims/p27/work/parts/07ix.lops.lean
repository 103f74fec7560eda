/-- where the law's loop over plans stands while an index goes -/
def lIxI (M : jM) (d m c n b j : Nat) (w : Int32) (p n1 : Nat) (Ml N1 : jM) (k : Nat) : Prop := p ≤ n1 ∧ n1 ≤ n ∧ zIx m (nI j) (nI 0) p n1 N1 k = zIx m (nI j) (nI 0) n n (jup M (m + 1) 1 w) 0 ∧ (∀ x, x ≠ d → x ≠ d + 4 → Ml x = M x) ∧ Ml d 4 = nI n1 ∧ Ml d 1 = w ∧ (∀ i, i ≠ 1 → i ≠ 4 → Ml d i = M d i) ∧ lPl Ml d (N1 (m + 1)) n1 ∧ xSp (N1 (m + 1)) n1 b ∧ (∀ i, i < 367 → i ≠ 4 → N1 (m + 1) i = (jup M (m + 1) 1 w) (m + 1) i) ∧ N1 (m + 1) 4 = nI n1 ∧
  ∀ q, q < n1 → ∃ t, t < c ∧ N1 (m + 1) (367 + 9 * q + 1) = nI t ∧ ∃ y, (y = 9 ∨ y < zN (M (m + 1)) t) ∧ N1 (m + 1) (367 + 9 * q + 3) = nI y
section LIX
variable {M Ml N1 : jM} {d m c n b j p n1 k t y r : Nat} {w : Int32}
theorem lIx_0 (h4 : M d 4 = nI n) (s4 : M (m + 1) 4 = nI n) (P : lPl M d (M (m + 1)) n) (X : xSp (M (m + 1)) n b) (hp : ∀ q, q < n → ∃ t, t < c ∧ M (m + 1) (367 + 9 * q + 1) = nI t ∧ ∃ y, (y = 9 ∨ y < zN (M (m + 1)) t) ∧ M (m + 1) (367 + 9 * q + 3) = nI y) : lIxI M d m c n b j w n n (jup M d 1 w) (jup M (m + 1) 1 w) 0 := by
  refine ⟨Nat.le_refl n, Nat.le_refl n, rfl, fun x h1 h2 => jup_row _ _ h1, ?_, jup_eq _ _ _ _, fun i h1 h2 => jup_nk _ _ h1, lPl_c P (jup_row _ _ (by omega)) (fun i h1 h2 => jup_nk _ _ (by omega)), xSp_c X (Nat.le_refl b) (fun i h1 h2 => jup_nk _ _ (by omega)), fun i h1 h2 => rfl, ?_, fun q hq => ?_⟩
  · rw [jup_nk _ _ (by decide)]; exact h4
  · rw [jup_nk _ _ (by decide)]; exact s4
  · obtain ⟨t, h1, h2, y, h3, h4⟩ := hp q hq
    exact ⟨t, h1, by rw [jup_nk _ _ (by omega)]; exact h2, y, h3, by rw [jup_nk _ _ (by omega)]; exact h4⟩
theorem lIx_go (hn8 : n ≤ 8) (I : lIxI M d m c n b j w (p + 1) n1 Ml N1 k) (hg : zGo N1 m (nI j) (nI 0) p = true) : lIxI M d m c n b j w p (n1 - 1) (lOut Ml d n1 p) (mOut N1 m n1 p) (k + 1) := by
  obtain ⟨h1, h2, h3, h4, h5, h6, h7, h8, h9, h10, h11, h12⟩ := I
  have hpn : p < n1 := by omega
  refine ⟨by omega, by omega, ?_, fun x a1 a2 => ?_, lOut_4 _ _ _ _, ?_, fun i a1 a2 => ?_, lPl_out h8 hpn (fun q hq w hw => mOut_pl _ _ hpn hq hw), xSp_out h9 (Nat.le_refl b) hpn (fun q hq w hw => mOut_pl _ _ hpn hq hw), fun i a1 a2 => ?_, mOut_n _ _ _ _, fun q hq => ?_⟩
  · rw [← h3]
    show _ = (if zGo N1 m (nI j) (nI 0) p = true then _ else _)
    rw [if_pos hg]
  · rw [lOut_o _ a1 a2]; exact h4 x a1 a2
  · rw [lOut_g _ (by decide)]; exact h6
  · rw [lOut_g _ a2]; exact h7 i a1 a2
  · rw [mOut_l _ a1 a2]; exact h10 i a1 a2
  · obtain ⟨t, b1, b2, y, b3, b4⟩ := h12 (outG p q) (outG_lt hpn hq)
    exact ⟨t, b1, by rw [mOut_pl _ _ hpn hq (by decide)]; exact b2, y, b3, by rw [mOut_pl _ _ hpn hq (by decide)]; exact b4⟩
theorem lIx_stay (I : lIxI M d m c n b j w (p + 1) n1 Ml N1 k) (hg : ¬ zGo N1 m (nI j) (nI 0) p = true) : lIxI M d m c n b j w p n1 Ml N1 k := by
  obtain ⟨h1, h2, h3, h4⟩ := I
  refine ⟨by omega, h2, ?_, h4⟩
  rw [← h3]
  show _ = (if zGo N1 m (nI j) (nI 0) p = true then _ else _)
  rw [if_neg hg]
end LIX
