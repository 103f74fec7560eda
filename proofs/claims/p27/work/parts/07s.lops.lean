/-! the pool grows by one row -/
def jLe (ω : jW) (γ γ' : jG) : Prop := jn γ ≤ jn γ' ∧ ∀ x, x < jlo ω + jn γ → jK γ' x = jK γ x ∧ jL γ' x = jL γ x ∧ jP γ' x = jP γ x
section LE
variable {ω : jW} {γ γ' : jG} {b k i y kd len : Nat}
theorem jLe_new (ω : jW) (γ : jG) (kd len : Nat) : jLe ω γ (jnew ω γ kd len) := ⟨Nat.le_succ _, fun x hx => ⟨jva_up_other _ _ (Nat.ne_of_lt hx), jva_up_other _ _ (Nat.ne_of_lt hx), jz_row _ _ (Nat.ne_of_lt hx)⟩⟩
theorem jArr_new (ω : jW) (γ : jG) (kd len : Nat) : jArr ω (jnew ω γ kd len) (jlo ω + jn γ) kd len := ⟨⟨Nat.le_add_right _ _, by show _ < _ + (jn γ + 1); omega, jva_up_self _ _ _⟩, jva_up_self _ _ _⟩
theorem lt_at (g : jLe ω γ γ') (h : jAt ω γ b k) : jAt ω γ' b k := ⟨h.1, by have := h.2.1; have := g.1; omega, (g.2 b h.2.1).1.trans h.2.2⟩
theorem lt_ar (g : jLe ω γ γ') (h : jArr ω γ b k i) : jArr ω γ' b k i := ⟨lt_at g h.1, (g.2 b h.1.2.1).2.1.trans h.2⟩
theorem lt_p (g : jLe ω γ γ') (h : jAt ω γ b k) (e : jP γ b i = some y) : jP γ' b i = some y := by rw [(g.2 b h.2.1).2.2]; exact e
theorem lt_sums (g : jLe ω γ γ') (h : gSums ω γ b) : gSums ω γ' b := ⟨lt_at g h.1, lt_p g h.1 h.2.1, lt_ar g h.2.2⟩
theorem lt_stm (g : jLe ω γ γ') (h : gStm ω γ b) : gStm ω γ' b := ⟨lt_at g h.1, lt_p g h.1 h.2.1, lt_ar g h.2.2.1, lt_p g h.1 h.2.2.2.1, lt_ar g h.2.2.2.2⟩
theorem lt_last (g : jLe ω γ γ') (h : gLast ω γ b) : gLast ω γ' b := ⟨lt_at g h.1, lt_p g h.1 h.2.1, lt_ar g h.2.2⟩
theorem lt_tab (g : jLe ω γ γ') (h : gTable ω γ b) : gTable ω γ' b := ⟨lt_at g h.1, lt_p g h.1 h.2.1, lt_ar g h.2.2.1, lt_p g h.1 h.2.2.2.1, lt_sums g h.2.2.2.2⟩
theorem lt_shelf (g : jLe ω γ γ') (h : gShelf ω γ b) : gShelf ω γ' b := ⟨lt_at g h.1, lt_p g h.1 h.2.1, lt_ar g h.2.2.1, lt_p g h.1 h.2.2.2.1, lt_at g h.2.2.2.2.1, fun j hj => lt_at g (h.2.2.2.2.2 j hj)⟩
theorem lt_text (g : jLe ω γ γ') (h : gText ω γ b) : gText ω γ' b := ⟨lt_at g h.1, lt_p g h.1 h.2.1, lt_ar g h.2.2⟩
theorem lt_state (g : jLe ω γ γ') (h : gState ω γ b) : gState ω γ' b := by
  obtain ⟨h0, h1, h2, h3, h4, h5, h6, h7, h8, h9, h10, h11, h12, h13, h14, h15⟩ := h
  exact ⟨lt_at g h0, lt_p g h0 h1, lt_tab g h2, lt_p g h0 h3, lt_sums g h4, lt_p g h0 h5, lt_ar g h6, lt_p g h0 h7, lt_stm g h8, lt_p g h0 h9, lt_shelf g h10, lt_p g h0 h11, lt_last g h12, lt_p g h0 h13, lt_ar g h14, fun t ht => lt_stm g (h15 t ht)⟩
theorem lt_hist (g : jLe ω γ γ') (h : gHist ω γ b) : gHist ω γ' b := ⟨lt_at g h.1, lt_p g h.1 h.2.1, lt_ar g h.2.2.1, fun i hi => lt_state g (h.2.2.2 i hi)⟩
theorem lt_X {x a h T v : Nat} (g : jLe ω γ γ') (H : gX ω γ x a h T v) : gX ω γ' x a h T v := by
  obtain ⟨h0, h1, h2, h3, h4, h5, h6, h7, h8, h9⟩ := H
  exact ⟨lt_at g h0, lt_p g h0 h1, lt_state g h2, lt_p g h0 h3, lt_hist g h4, lt_p g h0 h5, lt_text g h6, lt_p g h0 h7, lt_ar g h8, h9⟩
theorem lt_D {d : Nat} (g : jLe ω γ γ') (H : gD ω γ d) : gD ω γ' d := ⟨lt_ar g H.1, lt_ar g H.2.1, lt_ar g H.2.2.1, lt_ar g H.2.2.2.1, lt_ar g H.2.2.2.2.1, lt_ar g H.2.2.2.2.2⟩
theorem gD_lt {d : Nat} (H : gD ω γ d) : d + 6 ≤ jlo ω + jn γ := by have := H.2.2.2.2.2.1.2.1; omega
end LE
section LG
variable {ω : jW} {γ γ' : jG} {M M2 : jM} {R R2 : jR} {x a h T v m d b nh r n c len : Nat} {f : Nat → Nat}
theorem SR_R {a : Nat} (h : SR R a) (e : R2 (a + 1) = R (a + 1)) : SR R2 a := by unfold SR at *; rw [e]; exact h
theorem SH_R (h' : SH R h) (e : R2 (h + 1) = R (h + 1)) : SH R2 h := by unfold SH at *; rw [e]; exact h'
/-- the class's words where nothing of the class moved -/
theorem e_same2 (I : eInv M R a h T v m b nh) (hM : ∀ x, a ≤ x → x < T + 2 → M2 x = M x) (hR : ∀ x, a ≤ x → x < T + 2 → R2 x = R x) (hm : ∀ j, (j = 2 ∨ j = 4) → M2 m j = M m j) (hm1 : M2 (m + 1) = M (m + 1)) (hm2 : M2 (m + 2) = M (m + 2)) (hm3 : M2 (m + 3) = M (m + 3)) : eInv M2 R2 a h T v m (b + 1) nh := by
  obtain ⟨⟨p1, p2, p3, p4, p5⟩, I2, I3, I4, I5, ⟨len, I6⟩, I7, I8, I9, I10⟩ := I
  have lohi : ∀ i, i < 4 → h + 2 ≤ sa R h i ∧ sa R h i + 43 ≤ h + 174 := fun i hi => by
    obtain ⟨i', _, ei⟩ := p1.rg hi
    omega
  have es : ∀ i, sa R2 h i = sa R h i := fun i => by unfold sa; rw [hR (h + 1) (by omega) (by omega)]
  refine ⟨⟨SH_R p1 (hR _ (by omega) (by omega)), by rw [hM _ (by omega) (by omega)]; exact p2, p3, SA_same p4 (fun x h1 h2 => hM x (by omega) (by omega)) (fun x h1 h2 => hR x (by omega) (by omega)), fun i hi => ?_⟩, by rw [hm 2 (Or.inl rfl)]; exact I2, fun i hi => ?_, ?_, ?_, ⟨len, I6.1, by rw [hM _ (by omega) (by omega)]; exact I6.2.1, by rw [hm 4 (Or.inr rfl)]; exact I6.2.2.1, fun k hk => by rw [hM _ (by omega) (by omega), hm3]; exact I6.2.2.2 k hk⟩, I7, I8, I9, I10⟩
  · have l := lohi i hi
    rw [es i]
    exact SA_same (p5 i hi) (fun x h1 h2 => hM x (by omega) (by omega)) (fun x h1 h2 => hR x (by omega) (by omega))
  · have l := lohi i (by omega)
    rw [hm2, es i]
    exact eRep_c (I3 i hi) (eqB_same (p5 i (by omega)).2.1 (fun x h1 h2 => hM x (by omega) (by omega)) (hR _ (by omega) (by omega))) (fun _ _ => rfl) (Nat.le_succ b)
  · rw [hm1]
    exact eRep_c I4 (eqB_same p4.2.1 (fun x h1 h2 => hM x (by omega) (by omega)) (hR _ (by omega) (by omega))) (fun _ _ => rfl) (Nat.le_succ b)
  · exact TC_o I5 (hM _ (by omega) (by omega))
theorem LI_grow {w : Nat} (L : LI ω γ M R x a h T v m d b nh r n c f) (g : jLe ω γ γ') (hj : jlo ω + jn γ' ≤ m) (hw : jlo ω + jn γ ≤ w) (hwm : w < m) (hM : ∀ x, x ≠ w → M2 x = M x) (hR : ∀ x, x ≠ w → R2 x = R x) : LI ω γ' M2 R2 x a h T v m d (b + 1) nh r n c f := by
  obtain ⟨gx, gd, hvd, hdm, hjm, I, e, hx, A⟩ := L
  have hdw := gD_lt gd
  have I' := I
  obtain ⟨I1, I2, I3, I4, I5, -, I7, I8, I9, I10⟩ := I'
  have e1 : M2 (m + 1) = M (m + 1) := hM _ (by omega)
  refine ⟨lt_X g gx, lt_D g gd, hvd, hdm, hj, e_same2 I (fun x h1 h2 => hM x (by omega)) (fun x h1 h2 => hR x (by omega)) (fun j _ => by rw [hM m (by omega)]) e1 (hM _ (by omega)) (hM _ (by omega)), ?_, ⟨hx.1, ?_, ?_, fun k hk => ?_⟩, ?_⟩
  · exact eR_c e (eqB_same I1.2.2.2.1.2.1 (fun x h1 h2 => hM x (by omega)) (hR _ (by omega))) (fun _ _ => by rw [e1]) (Nat.le_succ b)
  · rw [hM _ (by omega)]; exact hx.2.1
  · rw [hM _ (by omega)]; exact hx.2.2.1
  · rw [hM _ (by omega), hM _ (by omega)]; exact hx.2.2.2 k hk
  · rw [e1]
    exact lA_b (lA_M A (fun y h1 h2 => hM y (by omega))) (Nat.le_succ b)
end LG
