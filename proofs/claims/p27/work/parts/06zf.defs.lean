section HIS
variable {M M2 : jM} {R R2 : jR} {a h T v m b nh : Nat}
abbrev hNp (nh : Nat) : Nat := if nh = 4 then 4 else nh + 1
theorem mChg_2 (M : jM) {m nh : Nat} (hn : nh ≤ 4) : mChg M m nh m 2 = nI (hNp nh) := by
  unfold mChg
  by_cases c : nh = 4
  · rw [if_pos c, jup_eq, hNp, if_pos c]
  · rw [if_neg c, jup_eq, hNp, if_neg c]
theorem mChg_old (M : jM) {m nh i k : Nat} (hn : nh ≤ 4) (hi : i + 1 < hNp nh) (hk : k < 439) : mChg M m nh (m + 2) (439 * i + k) = M (m + 2) (439 * (if nh = 4 then i + 1 else i) + k) := by
  unfold mChg hNp at *
  by_cases c : nh = 4
  · rw [if_pos c] at hi
    rw [if_pos c, if_pos c, jup_row _ _ (by omega)]
    simp only [zCp]
    rw [if_neg (by omega), jup_row _ _ (by omega)]
    simp only [zSh]
    rw [if_pos ⟨trivial, by omega⟩]
    exact congrArg (M (m + 2)) (by omega)
  · rw [if_neg c] at hi
    rw [if_neg c, if_neg c, jup_row _ _ (by omega)]
    simp only [zCp]
    rw [if_neg (by omega)]
theorem mChg_new (M : jM) {m nh k : Nat} (hn : nh ≤ 4) (hk : k < 439) : mChg M m nh (m + 2) (439 * (hNp nh - 1) + k) = M (m + 1) k := by
  unfold mChg hNp
  by_cases c : nh = 4
  · rw [if_pos c, if_pos c, jup_row _ _ (by omega)]
    simp only [zCp]
    rw [if_pos ⟨trivial, by omega, by omega⟩, jup_row _ _ (by omega), zSh_o _ (by omega)]
    exact congrArg (M (m + 1)) (by omega)
  · rw [if_neg c, if_neg c, jup_row _ _ (by omega)]
    simp only [zCp]
    rw [if_pos ⟨trivial, by omega, by omega⟩]
    exact congrArg (M (m + 1)) (by omega)
theorem SA_same (H : SA M R a) (hM : ∀ x, a ≤ x → x < a + 43 → M2 x = M x) (hR : ∀ x, a ≤ x → x < a + 43 → R2 x = R x) : SA M2 R2 a := SA_cong H (fun x hx => hM x hx.1 hx.2) (fun x hx => hR x hx.1 hx.2)
/-- what a change lays down in the history -/
theorem push_h (H : CI M R a h nh) (ha : a + 43 ≤ h) : CI (rPuM M R h a nh) (rPuR R h nh) a h (hNp nh) ∧ eqB M R a (rPuM M R h a nh) (rPuR R h nh) (sa (rPuR R h nh) h (hNp nh - 1)) ∧ ∀ i, i + 1 < hNp nh → (if nh = 4 then i + 1 else i) < nh ∧ eqB M R (sa R h (if nh = 4 then i + 1 else i)) (rPuM M R h a nh) (rPuR R h nh) (sa (rPuR R h nh) h i) := by
  obtain ⟨hs, hk, hn, hA, hH⟩ := id H
  have hrot := SH_rot hs
  have oa : ∀ x, x < h → rPuM M R h a nh x = M x := fun x hx => rPuM_o H (Or.inl hx)
  have ra : ∀ x, x ≠ h + 1 → rPuR R h nh x = R x := fun x hx => rPuR_o hx
  have eA : SA (rPuM M R h a nh) (rPuR R h nh) a := SA_same hA (fun x h1 h2 => oa x (by omega)) (fun x h1 h2 => ra x (by omega))
  have apart : ∀ i j, i < 4 → j < 4 → i ≠ j → (sa R h i + 43 ≤ sa R h j ∨ sa R h j + 43 ≤ sa R h i) := fun i j hi hj hne => by
    obtain ⟨i', _, ei⟩ := hs.rg hi
    obtain ⟨j', _, ej⟩ := hs.rg hj
    have : i' ≠ j' := fun q => hne (hs.2 i j hi hj (by rw [hs.at hi, hs.at hj, ei, ej, q]))
    omega
  have lohi : ∀ i, i < 4 → h + 2 ≤ sa R h i ∧ sa R h i + 43 ≤ h + 174 := fun i hi => by
    obtain ⟨i', _, ei⟩ := hs.rg hi
    omega
  by_cases c : nh = 4
  · subst c
    have eP : rPuM M R h a 4 = jup (kState (jup M h 1 (nI 3)) (jrot R h) a (sa R h 0)) h 1 (nI 4) := by rw [rPuM, if_pos rfl, hrot.2.1]
    have eR : rPuR R h 4 = jrot R h := if_pos rfl
    have e4 : hNp 4 = 4 := rfl
    have s0 := lohi 0 (by decide)
    have h0 : SA (jup M h 1 (nI 3)) (jrot R h) (sa R h 0) := SA_same (hH 0 (by decide)) (fun x h1 h2 => jup_row _ _ (by omega)) (fun x h1 h2 => jrot_o R (by omega))
    have hA1 : SA (jup M h 1 (nI 3)) (jrot R h) a := SA_same hA (fun x h1 h2 => jup_row _ _ (by omega)) (fun x h1 h2 => jrot_o R (by omega))
    have q1 : eqB M R a (jup M h 1 (nI 3)) (jrot R h) a := eqB_same hA.2.1 (fun x h1 h2 => jup_row _ _ (by omega)) (jrot_o R (by omega))
    have q2 : eqB (jup M h 1 (nI 3)) (jrot R h) a (kState (jup M h 1 (nI 3)) (jrot R h) a (sa R h 0)) (jrot R h) (sa R h 0) := eqB_copy h0.2.1 hA1.2.1 (by omega)
    have q3 : eqB (kState (jup M h 1 (nI 3)) (jrot R h) a (sa R h 0)) (jrot R h) (sa R h 0) (rPuM M R h a 4) (rPuR R h 4) (sa R h 0) := eqB_same h0.2.1 (fun x h1 h2 => by rw [eP]; exact jup_row _ _ (by omega)) (by rw [eR])
    have qn := eqB_trans (eqB_trans q1 q2) q3
    have osa : ∀ i, i < 4 → i ≠ 0 → ∀ x, sa R h i ≤ x → x < sa R h i + 43 → rPuM M R h a 4 x = M x := fun i hi h1 x h2 h3 => by
      have d := apart i 0 hi (by decide) h1
      have l := lohi i hi
      rw [eP, jup_row _ _ (by omega), kState_o _ h0.2.1 (by omega), jup_row _ _ (by omega)]
    have s3 : sa (rPuR R h 4) h 3 = sa R h 0 := by rw [eR]; exact hrot.2.1
    have sk : ∀ k, k < 3 → sa (rPuR R h 4) h k = sa R h (k + 1) := fun k hk => by rw [eR]; exact hrot.2.2 k hk
    refine ⟨⟨by rw [eR]; exact hrot.1, by rw [eP, jup_eq, e4], by decide, eA, fun i hi => ?_⟩, ?_, fun i hi => ?_⟩
    · by_cases e : i = 3
      · subst e
        rw [s3]
        exact SA_eqB hA qn (fun j hj => by rw [ra _ (by omega)]; exact (hH 0 (by decide)).1 j hj) (by
          have := (hH 0 (by decide)).2.1
          exact ⟨fun k hk => by rw [ra _ (by omega)]; exact this.1 k hk, fun i j hi hj q => this.2 i j hi hj (by rw [ra _ (by omega)] at q; exact q)⟩)
      · rw [sk i (by omega)]
        have l := lohi (i + 1) (by omega)
        exact SA_same (hH (i + 1) (by omega)) (osa (i + 1) (by omega) (by omega)) (fun x h1 h2 => ra x (by omega))
    · rw [e4, show 4 - 1 = 3 from rfl, s3]
      exact qn
    · rw [e4] at hi
      rw [if_pos rfl, sk i (by omega)]
      have l := lohi (i + 1) (by omega)
      exact ⟨by omega, eqB_same (hH (i + 1) (by omega)).2.1 (osa (i + 1) (by omega) (by omega)) (ra _ (by omega))⟩
  · have eP : rPuM M R h a nh = jup (kState M R a (sa R h nh)) h 1 (nI (nh + 1)) := by rw [rPuM, if_neg c]
    have eR : rPuR R h nh = R := if_neg c
    have e4 : hNp nh = nh + 1 := if_neg c
    have s0 := lohi nh (by omega)
    have hn4 : nh < 4 := by omega
    have q2 : eqB M R a (kState M R a (sa R h nh)) R (sa R h nh) := eqB_copy (hH nh hn4).2.1 hA.2.1 (by omega)
    have q3 : eqB (kState M R a (sa R h nh)) R (sa R h nh) (rPuM M R h a nh) (rPuR R h nh) (sa R h nh) := eqB_same (hH nh hn4).2.1 (fun x h1 h2 => by rw [eP]; exact jup_row _ _ (by omega)) (by rw [eR])
    have qn := eqB_trans q2 q3
    have osa : ∀ i, i < 4 → i ≠ nh → ∀ x, sa R h i ≤ x → x < sa R h i + 43 → rPuM M R h a nh x = M x := fun i hi h1 x h2 h3 => by
      have d := apart i nh hi hn4 h1
      have l := lohi i hi
      rw [eP, jup_row _ _ (by omega), kState_o _ (hH nh hn4).2.1 (by omega)]
    refine ⟨⟨by rw [eR]; exact hs, by rw [eP, jup_eq, e4], by omega, eA, fun i hi => ?_⟩, ?_, fun i hi => ?_⟩
    · rw [eR]
      by_cases e : i = nh
      · subst e
        rw [eR] at qn
        exact SA_eqB hA qn (hH i hn4).1 (hH i hn4).2.1
      · exact SA_same (hH i hi) (osa i hi e) (fun x h1 h2 => rfl)
    · rw [e4, Nat.add_sub_cancel, eR]
      rw [eR] at qn
      exact qn
    · rw [e4] at hi
      rw [if_neg c, eR]
      exact ⟨by omega, eqB_same (hH i (by omega)).2.1 (osa i (by omega) (by omega)) rfl⟩
/-- what always holds between class and model, b calls at most so far -/
def eInv (M : jM) (R : jR) (a h T v m b nh : Nat) : Prop := CI M R a h nh ∧ M m 2 = nI nh ∧ (∀ i, i < nh → eRep M R (sa R h i) (fun k => M (m + 2) (439 * i + k)) b) ∧ eRep M R a (M (m + 1)) b ∧ TC M T ∧ (∃ len, eTxt M T m len) ∧ a + 43 ≤ h ∧ h + 174 ≤ T ∧ T + 2 ≤ v ∧ v < m
theorem e_chg (I : eInv M R a h T v m b nh) (hH : ∀ x, h ≤ x → x < h + 174 → M2 x = rPuM M R h a nh x) (hR : ∀ x, h ≤ x → x < h + 174 → R2 x = rPuR R h nh x) (hp : M2 (m + 2) = mChg M m nh (m + 2)) (hm : M2 m 2 = mChg M m nh m 2)
    (ht : M2 T = M T) (ht' : M2 (T + 1) = M (T + 1)) (hm3 : M2 (m + 3) = M (m + 3)) (hm4 : M2 m 4 = M m 4) (now : eRep M2 R2 a (M2 (m + 1)) (b + 1)) (hs : SA M2 R2 a) : eInv M2 R2 a h T v m (b + 1) (hNp nh) := by
  obtain ⟨I1, I2, I3, I4, I5, ⟨len, I6⟩, I7, I8, I9, I10⟩ := I
  obtain ⟨⟨p1, p2, p3, p4, p5⟩, p6, p7⟩ := push_h I1 I7
  have hn4 : nh ≤ 4 := I1.2.2.1
  have esa : ∀ i, sa R2 h i = sa (rPuR R h nh) h i := fun i => by simp only [sa]; rw [hR (h + 1) (by omega) (by omega)]
  have lohi : ∀ i, i < 4 → h + 2 ≤ sa (rPuR R h nh) h i ∧ sa (rPuR R h nh) h i + 43 ≤ h + 174 := fun i hi => by
    obtain ⟨i', _, ei⟩ := p1.rg hi
    omega
  have np4 : hNp nh ≤ 4 := p3
  refine ⟨⟨⟨fun k hk => by rw [hR _ (by omega) (by omega)]; exact p1.1 k hk, fun i j hi hj q => p1.2 i j hi hj (by rw [hR _ (by omega) (by omega)] at q; exact q)⟩, by rw [hH h (by omega) (by omega)]; exact p2, p3, hs, fun i hi => ?_⟩, by rw [hm, mChg_2 _ hn4], fun i hi => ?_, now, ?_, ⟨len, I6.1, by rw [ht]; exact I6.2.1, by rw [hm4]; exact I6.2.2.1, fun k hk => by rw [ht', hm3]; exact I6.2.2.2 k hk⟩, I7, I8, I9, I10⟩
  · rw [esa]
    have l := lohi i hi
    exact SA_same (p5 i hi) (fun x h1 h2 => hH x (by omega) (by omega)) (fun x h1 h2 => hR x (by omega) (by omega))
  · have l := lohi i (by omega)
    have q : eqB (rPuM M R h a nh) (rPuR R h nh) (sa (rPuR R h nh) h i) M2 R2 (sa R2 h i) := by
      rw [esa]
      exact eqB_same (p5 i (by omega)).2.1 (fun x h1 h2 => hH x (by omega) (by omega)) (hR _ (by omega) (by omega))
    by_cases e : i + 1 < hNp nh
    · obtain ⟨r1, r2⟩ := p7 i e
      refine eRep_c (I3 _ r1) (eqB_trans r2 q) (fun j hj => ?_) (Nat.le_succ b)
      show M2 (m + 2) (439 * i + j) = _
      rw [hp, mChg_old M hn4 e hj]
    · have e2 : i = hNp nh - 1 := by omega
      subst e2
      refine eRep_c I4 (eqB_trans p6 q) (fun j hj => ?_) (Nat.le_succ b)
      show M2 (m + 2) (439 * (hNp nh - 1) + j) = _
      rw [hp, mChg_new M hn4 hj]
  · exact TC_o I5 ht'
/-- a call that changes nothing but what is not told of -/
theorem e_same (I : eInv M R a h T v m b nh) (hM : ∀ x, a ≤ x → x < T + 2 → M2 x = M x) (hm : ∀ j, (j = 2 ∨ j = 4) → M2 m j = M m j) (hm1 : M2 (m + 1) = M (m + 1)) (hm2 : M2 (m + 2) = M (m + 2)) (hm3 : M2 (m + 3) = M (m + 3)) : eInv M2 R a h T v m (b + 1) nh := by
  obtain ⟨⟨p1, p2, p3, p4, p5⟩, I2, I3, I4, I5, ⟨len, I6⟩, I7, I8, I9, I10⟩ := I
  have lohi : ∀ i, i < 4 → h + 2 ≤ sa R h i ∧ sa R h i + 43 ≤ h + 174 := fun i hi => by
    obtain ⟨i', _, ei⟩ := p1.rg hi
    omega
  refine ⟨⟨p1, by rw [hM _ (by omega) (by omega)]; exact p2, p3, SA_same p4 (fun x h1 h2 => hM x (by omega) (by omega)) (fun _ _ _ => rfl), fun i hi => ?_⟩, by rw [hm 2 (Or.inl rfl)]; exact I2, fun i hi => ?_, ?_, ?_, ⟨len, I6.1, by rw [hM _ (by omega) (by omega)]; exact I6.2.1, by rw [hm 4 (Or.inr rfl)]; exact I6.2.2.1, fun k hk => by rw [hM _ (by omega) (by omega), hm3]; exact I6.2.2.2 k hk⟩, I7, I8, I9, I10⟩
  · have l := lohi i hi
    exact SA_same (p5 i hi) (fun x h1 h2 => hM x (by omega) (by omega)) (fun _ _ _ => rfl)
  · have l := lohi i (by omega)
    rw [hm2]
    exact eRep_c (I3 i hi) (eqB_same (p5 i (by omega)).2.1 (fun x h1 h2 => hM x (by omega) (by omega)) rfl) (fun _ _ => rfl) (Nat.le_succ b)
  · rw [hm1]
    exact eRep_c I4 (eqB_same p4.2.1 (fun x h1 h2 => hM x (by omega) (by omega)) rfl) (fun _ _ => rfl) (Nat.le_succ b)
  · exact TC_o I5 (hM _ (by omega) (by omega))
theorem CB_inv {r n c len : Nat} {f : Nat → Nat} {S : Nat → Int32} (H : CI M R a h nh) (e : eR M R a S b r n c f) (ht : TC M T) (hx : eTxt M T m len) : CB M R a h T nh n c r len := by
  obtain ⟨h1, h2, h3, h4, h5, h6, h7, h8, h9⟩ := e
  have hst : ∀ t, t < c → M (a + 25 + 3 * t) 2 = nI (rNC M (a + 25 + 3 * t)) ∧ rNC M (a + 25 + 3 * t) ≤ 4 := fun t htc => by
    obtain ⟨g1, g2, g3, g4, g5⟩ := h4.2.2.2 t htc
    have e : rNC M (a + 25 + 3 * t) = zN S t := by rw [rNC, g3]; rfl
    rw [e, g3]
    exact ⟨g1.2.1, g1.2.2.2.1⟩
  refine ⟨H, h8.1, h8.2.2.1, h4.1, h4.2.2.1, h1.1, h1.2.2.1, ht, hx.2.1, hx.1, hst, fun q => ?_⟩
  rcases h7 with ⟨g1, g2⟩ | ⟨g1, ⟨t, g2, g3, -⟩, g4, -, -⟩
  · exact absurd g1 q
  · have hc6 := h4.2.2.1
    rw [g4, g3, rSA_N a (by omega)]
    exact hst t g2
end HIS
