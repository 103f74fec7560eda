section MKR
variable {m b : Nat}
theorem find_first {p : Nat → Bool} {n : Nat} : (∃ k, k < n ∧ rFirst p n = nI k ∧ (List.range n).find? p = some k) ∨ (rFirst p n = -1 ∧ (List.range n).find? p = none) := by
  rcases rFirst_cases p n with ⟨k, hk, h1, h2, -, -⟩ | ⟨h1, h2, -⟩
  · exact Or.inl ⟨k, hk, h2, h1⟩
  · exact Or.inr ⟨h2, h1⟩
theorem eOrd_g {S S2 : Nat → Int32} {n n' : Nat} {g : Nat → Nat} (h : eOrd S n) (hg : ∀ q, q < n' → g q < n) (hi : ∀ p q, p < n' → q < n' → g p = g q → p = q) (es : ∀ q, q < n' → ∀ w, (w = 5 ∨ w = 8) → S2 (367 + 9 * q + w) = S (367 + 9 * g q + w)) : eOrd S2 n' := by
  refine ⟨fun q hq => ?_, fun p q hp hq e => ?_⟩
  · obtain ⟨u, l, h1, h2, h3, h4⟩ := h.1 _ (hg q hq)
    exact ⟨u, l, h1, h2, (es q hq 5 (by omega)).trans h3, (es q hq 8 (by omega)).trans h4⟩
  · exact hi p q hp hq (h.2 _ _ (hg p hp) (hg q hq) ((es p hp 8 (by omega)).symm.trans (e.trans (es q hq 8 (by omega)))))
theorem mk_sim (cap : Int32) : ∀ (n : Nat) (M : jM) (R : jR) (N : jM) (F : Int32) (f : Nat → Nat), n ≤ 8 → SR R b → M b 2 = nI n → N (m + 1) 4 = nI n → eBij f n → eWds M R b (N (m + 1)) n f → eOrd (N (m + 1)) n → (∀ q, q < n → ∃ y, y < 2 ^ 20 ∧ N (m + 1) (367 + 9 * q) = nI y) → (F = -4 ∨ 0 ≤ F) →
    (rMk cap b n M R F).2.2.2 = (zCl cap m n N F).2.2 ∧ (rMk cap b n M R F).2.2.1 = (zCl cap m n N F).2.1 ∧ ∃ f2 g : Nat → Nat, eBij f2 (zCl cap m n N F).2.2 ∧ eWds (rMk cap b n M R F).1 (rMk cap b n M R F).2.1 b ((zCl cap m n N F).1 (m + 1)) (zCl cap m n N F).2.2 f2 ∧
      (∀ q, q < (zCl cap m n N F).2.2 → g q < n ∧ ∀ w, w < 9 → (zCl cap m n N F).1 (m + 1) (367 + 9 * q + w) = N (m + 1) (367 + 9 * g q + w)) ∧ (∀ p q, p < (zCl cap m n N F).2.2 → q < (zCl cap m n N F).2.2 → g p = g q → p = q) ∧
      (rMk cap b n M R F).1 b 4 = M b 4 + nI (n - (zCl cap m n N F).2.2) ∧ (zCl cap m n N F).1 (m + 1) 8 = N (m + 1) 8 + nI (n - (zCl cap m n N F).2.2) := by
  have done : ∀ (n : Nat) (M : jM) (R : jR) (N : jM) (F : Int32) (f : Nat → Nat), eBij f n → eWds M R b (N (m + 1)) n f → rMk cap b n M R F = (M, R, F, n) → zCl cap m n N F = (N, F, n) →
    (rMk cap b n M R F).2.2.2 = (zCl cap m n N F).2.2 ∧ (rMk cap b n M R F).2.2.1 = (zCl cap m n N F).2.1 ∧ ∃ f2 g : Nat → Nat, eBij f2 (zCl cap m n N F).2.2 ∧ eWds (rMk cap b n M R F).1 (rMk cap b n M R F).2.1 b ((zCl cap m n N F).1 (m + 1)) (zCl cap m n N F).2.2 f2 ∧
      (∀ q, q < (zCl cap m n N F).2.2 → g q < n ∧ ∀ w, w < 9 → (zCl cap m n N F).1 (m + 1) (367 + 9 * q + w) = N (m + 1) (367 + 9 * g q + w)) ∧ (∀ p q, p < (zCl cap m n N F).2.2 → q < (zCl cap m n N F).2.2 → g p = g q → p = q) ∧
      (rMk cap b n M R F).1 b 4 = M b 4 + nI (n - (zCl cap m n N F).2.2) ∧ (zCl cap m n N F).1 (m + 1) 8 = N (m + 1) 8 + nI (n - (zCl cap m n N F).2.2) := by
    intro n M R N F f hf hw e1 e2
    rw [e1, e2]
    refine ⟨rfl, rfl, f, id, hf, hw, fun q hq => ⟨hq, fun _ _ => rfl⟩, fun _ _ _ _ q => q, ?_, ?_⟩
    · show M b 4 = _ + nI (n - n)
      rw [Nat.sub_self, nI_0, Int32.add_zero]
    · show N (m + 1) 8 = _ + nI (n - n)
      rw [Nat.sub_self, nI_0, Int32.add_zero]
  intro n
  induction n with
  | zero => intro M R N F f _ _ _ _ hf hw _ _ _; exact done 0 M R N F f hf hw rfl rfl
  | succ n ih =>
    intro M R N F f hn hR h2 h4 hf hw ho hy hF
    by_cases hc : nI (n + 1) < cap
    · exact done (n + 1) M R N F f hf hw (rMk_stop (Or.inl hc)) (zCl_stop (Or.inl hc))
    · rcases sh_drp hf hw hn ho (nI 0) with ⟨k, hk, e1, e2, -⟩ | ⟨e1, e2⟩
      · have e3 : (List.range (n + 1)).find? (qDrp M R b (n + 1) (nI 0)) = some k := by
          rcases find_first (p := qDrp M R b (n + 1) (nI 0)) (n := n + 1) with ⟨j, j1, j2, j3⟩ | ⟨j2, -⟩
          · rw [j3]
            rw [j2] at e1
            rw [(nI_eq (by omega) (by omega)).mp e1]
          · rw [j2] at e1
            exact absurd e1.symm (nI_nem1 (by omega))
        have hfk := hf.1 k hk
        have eA := rMk_go (M := M) (R := R) (f := F) hc e3
        have eB := zCl_go (m := m) (N := N) (f := F) hc e2 (by omega)
        obtain ⟨y, hy1, hy2⟩ := hy _ hfk
        have eF : (if F = -4 then M (pa R b k) 0 else F) = (if 0 ≤ F then F else N (m + 1) (367 + 9 * f k + 0)) := by
          rcases hF with q | q
          · rw [q, if_pos rfl, if_neg (by decide)]
            exact hw k hk 0 (by decide)
          · rw [if_neg (fun q2 => by rw [q2] at q; exact absurd q (by decide)), if_pos q]
        rw [eA, eB, eF]
        have ne : ∀ i, i < 8 → pa R b i ≠ b := fun i hi => by
          obtain ⟨j, hj, e⟩ := hR.rg hi
          omega
        have sw : ∀ q, q < n + 1 - 1 → ∀ w, w < 9 → jup (mOut N m (n + 1) (f k)) (m + 1) 8 (mOut N m (n + 1) (f k) (m + 1) 8 + nI 1) (m + 1) (367 + 9 * q + w) = N (m + 1) (367 + 9 * outG (f k) q + w) := fun q hq w hw9 => by rw [jup_nk _ _ (by omega), mOut_w hfk hq hw9, outG]
        have i := ih (jup (rRem M b (n + 1)) b 4 (M b 4 + nI 1)) (jswap R b k n) (jup (mOut N m (n + 1) (f k)) (m + 1) 8 (mOut N m (n + 1) (f k) (m + 1) 8 + nI 1)) (if 0 ≤ F then F else N (m + 1) (367 + 9 * f k + 0)) (remF f (n + 1) k) (by omega) (SR_swap hR (by omega) (by omega)) (rRem_k _ _ _ _) (by rw [jup_nk _ _ (by decide), mOut_n]; rfl) (rem_bij hf hk)
          (rem_wds hf hk hw (fun i hi w hw9 => by rw [jup_row _ _ (ne i (by omega)), rRem, jup_row _ _ (ne i (by omega))]) sw)
          (eOrd_g ho (fun q hq => outG_lt hfk hq) (fun _ _ _ _ q => outG_inj q) (fun q hq w hw' => sw q hq w (by omega)))
          (fun q hq => by
            obtain ⟨y, y1, y2⟩ := hy _ (outG_lt (n := n + 1) hfk hq)
            exact ⟨y, y1, (sw q hq 0 (by decide)).trans y2⟩)
          (by
            by_cases q : 0 ≤ F
            · rw [if_pos q]; exact Or.inr q
            · rw [if_neg q]
              refine Or.inr ?_
              show 0 ≤ N (m + 1) (367 + 9 * f k)
              rw [hy2]
              exact nI_pos' (by omega))
        obtain ⟨i1, i2, f2, g, i3, i4, i5, i6, i7, i8⟩ := i
        have hle := (zCl_inv cap m n (jup (mOut N m (n + 1) (f k)) (m + 1) 8 (mOut N m (n + 1) (f k) (m + 1) 8 + nI 1)) (if 0 ≤ F then F else N (m + 1) (367 + 9 * f k + 0)) (by rw [jup_nk _ _ (by decide), mOut_n]; rfl)).2.1
        generalize zCl cap m n (jup (mOut N m (n + 1) (f k)) (m + 1) 8 (mOut N m (n + 1) (f k) (m + 1) 8 + nI 1)) (if 0 ≤ F then F else N (m + 1) (367 + 9 * f k + 0)) = Y at *
        generalize rMk cap b n (jup (rRem M b (n + 1)) b 4 (M b 4 + nI 1)) (jswap R b k n) (if 0 ≤ F then F else N (m + 1) (367 + 9 * f k + 0)) = X at *
        refine ⟨i1, i2, f2, fun q => outG (f k) (g q), i3, i4, fun q hq => ?_, fun p q hp hq e => i6 p q hp hq (outG_inj e), ?_, ?_⟩
        · obtain ⟨a1, a2⟩ := i5 q hq
          exact ⟨outG_lt (n := n + 1) hfk a1, fun w hw9 => by rw [a2 w hw9, sw _ a1 w hw9]⟩
        · rw [i7, jup_eq, Int32.add_assoc, nI_add, show 1 + (n - Y.2.2) = n + 1 - Y.2.2 by omega]
        · rw [i8, jup_eq, mOut_l _ (by decide) (by decide), Int32.add_assoc, nI_add, show 1 + (n - Y.2.2) = n + 1 - Y.2.2 by omega]
      · have e3 : (List.range (n + 1)).find? (qDrp M R b (n + 1) (nI 0)) = none := by
          rcases find_first (p := qDrp M R b (n + 1) (nI 0)) (n := n + 1) with ⟨j, j1, j2, j3⟩ | ⟨-, j2⟩
          · rw [j2] at e1
            exact absurd e1 (nI_nem1 (by omega))
          · exact j2
        exact done (n + 1) M R N F f hf hw (rMk_stop (Or.inr e3)) (zCl_stop (Or.inr (by rw [e2]; decide)))
end MKR
