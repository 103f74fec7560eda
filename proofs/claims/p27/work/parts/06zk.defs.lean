section STA
variable {M M1 M2 N : jM} {R R1 : jR} {a h T v m b nh : Nat} {S S2 : Nat → Int32} {r n n' c b' k len : Nat} {f f' : Nat → Nat}
theorem st_stat (I : eInv M R a h T v m b nh) (e : eR M R a (M (m + 1)) b r n c f) (hx : eTxt M T m len) : (∀ y, v < y → mStat M R a h T nh len c y = M y) ∧ fStat M a T len c = zfStat (mStat M R a h T nh len c) m len c ∧ ∃ nh', eInv (zmStat (mStat M R a h T nh len c) m len c nh) (pStat M R a h T nh len c) a h T v m (b + 1) nh' := by
  obtain ⟨I1, I2, I3, I4, I5, -, I7, I8, I9, I10⟩ := id I
  have hS := e.2.2.2.1
  have hc6 := hS.2.2.1
  have h30 := hx.1
  by_cases c0 : rFlt M T len = -1
  · have z0 : ¬ zRight (M (m + 3)) len = 0 := (q_flt hx I5).mp c0
    obtain ⟨g1, g2, g3⟩ := tx_good hx I5 c0
    have ef : rFirst (qStm M a T len) c = rFirst (zFnd (M (m + 1)) (M (m + 3)) (nI (len + 1) / nI 4)) c := rFirst_congr (fun t ht => q_stm hx I5 c0 hS ht)
    obtain ⟨pe, pA, oa, ra⟩ := e_psh I e
    by_cases c3 : rFirst (qStm M a T len) c = -1
    · by_cases c2 : M a 8 < nI 6
      · have hc : c < 6 := by
          rw [hS.1] at c2
          exact (nI_ltI (by omega) (by decide)).mp c2
        have hcn : ¬ nI c = nI 6 := fun q => by
          have := (nI_eq (by omega) (by decide)).mp q
          omega
        have q1 : mStat M R a h T nh len c = jup (rRead (rPuM M R h a nh) (a + 25 + 3 * c) T ((len + 1) / 4)) a 8 (nI (c + 1)) := by rw [mStat, if_pos c0, if_pos c3, if_pos c2]
        have q2 : pStat M R a h T nh len c = rPuR R h nh := by rw [pStat, if_pos c0, if_pos c3, if_pos c2]
        have o1 : ∀ y, (y < a + 25 + 3 * c ∨ a + 25 + 3 * c + 3 ≤ y) → y ≠ a → mStat M R a h T nh len c y = rPuM M R h a nh y := fun y hy hy2 => by rw [q1, jup_row _ _ hy2, rRead, jup_row _ _ (by omega), rRdK_o _ (by omega) (by omega) (by omega)]
        have oa8 : ∀ j, j ≠ 8 → mStat M R a h T nh len c a j = M a j := fun j hj => by rw [q1, jup_nk _ _ hj, rRead, jup_row _ _ (by omega), rRdK_o _ (by omega) (by omega) (by omega), oa _ (by omega)]
        have c1 : ∀ y, (y < a ∨ a + 43 ≤ y) → y ≠ v → mStat M R a h T nh len c y = rPuM M R h a nh y := fun y hy _ => o1 y (by omega) (by omega)
        have md := e_mod I c1
        have eT : rPuM M R h a nh T = M T ∧ rPuM M R h a nh (T + 1) = M (T + 1) := ⟨rPuM_o I1 (by omega), rPuM_o I1 (by omega)⟩
        have em : zRight (mStat M R a h T nh len c (m + 3)) len = zRight (M (m + 3)) len := by rw [md (m + 3) (by omega)]
        have q3 : zmStat (mStat M R a h T nh len c) m len c nh = zmNew (mChg (zmRight (mStat M R a h T nh len c) m len) m nh) m c (nI (len + 1) / nI 4) := by rw [zmStat, em, if_neg z0, md (m + 1) (by omega), md (m + 3) (by omega), ← ef, if_pos c3, if_neg hcn]
        have eq : nI (len + 1) / nI 4 = nI ((len + 1) / 4) := pk_div (by omega) (by decide) (by decide)
        rw [eq] at q3
        have e3 : mChg (zmRight (mStat M R a h T nh len c) m len) m nh (m + 3) = M (m + 3) := by rw [mChg_o _ (by omega) (by omega), zmRight_o _ (by omega), md (m + 3) (by omega)]
        have e1 : mChg (zmRight (mStat M R a h T nh len c) m len) m nh (m + 1) = M (m + 1) := by rw [mChg_o _ (by omega) (by omega), zmRight_o _ (by omega), md (m + 1) (by omega)]
        have ox : ∀ x, x ≠ m + 1 → zmStat (mStat M R a h T nh len c) m len c nh x = mChg (zmRight (mStat M R a h T nh len c) m len) m nh x := fun x hx => by rw [q3, zmNew, jup_row _ _ hx, jup_row _ _ hx, zNw_o _ _ hx]
        have s1 : ∀ j, j ≠ 3 → (j < 307 + 10 * c ∨ 307 + 10 * c + 10 ≤ j) → zmStat (mStat M R a h T nh len c) m len c nh (m + 1) j = M (m + 1) j := fun j hj hj2 => by
          rw [q3, zmNew, jup_nk _ _ hj, jup_nk _ _ (by omega)]
          rcases hj2 with hj2 | hj2
          · rw [zNw_a _ _ hj2, e1]
          · rw [zNw_hi _ (by omega) 4 (Nat.le_refl 4), e1]
        have s3 : zmStat (mStat M R a h T nh len c) m len c nh (m + 1) 3 = nI (c + 1) := by rw [q3, zmNew, jup_eq]
        have sq : zmStat (mStat M R a h T nh len c) m len c nh (m + 1) (307 + 10 * c) = nI ((len + 1) / 4) := by rw [q3, zmNew, jup_nk _ _ (by omega), jup_nk _ _ (by omega), zNw_q]
        have s9 : zmStat (mStat M R a h T nh len c) m len c nh (m + 1) (307 + 10 * c + 9) = nI 0 := by rw [q3, zmNew, jup_nk _ _ (by omega), jup_eq]
        have sk : ∀ k, k < (len + 1) / 4 → zmStat (mStat M R a h T nh len c) m len c nh (m + 1) (307 + 10 * c + 1 + k) = zMt1 (M (m + 3)) k ∧ zmStat (mStat M R a h T nh len c) m len c nh (m + 1) (307 + 10 * c + 5 + k) = zMt0 (M (m + 3)) k := fun k hk => by
          have z := zNw_at (mChg (zmRight (mStat M R a h T nh len c) m len) m nh) (m := m) (a := 307 + 10 * c) (q := nI ((len + 1) / 4)) 4 (Nat.le_refl 4) k (by omega)
          rw [if_neg (nI_ge hk (by omega)), if_neg (nI_ge hk (by omega)), e3] at z
          exact ⟨by rw [q3, zmNew, jup_nk _ _ (by omega), jup_nk _ _ (by omega)]; exact z.1, by rw [q3, zmNew, jup_nk _ _ (by omega), jup_nk _ _ (by omega)]; exact z.2⟩
        have ezn : zN (zmStat (mStat M R a h T nh len c) m len c nh (m + 1)) c = (len + 1) / 4 := by rw [zN, sq, nI_clamp (by omega)]
        have ezo : ∀ t, t < c → zN (zmStat (mStat M R a h T nh len c) m len c nh (m + 1)) t = zN (M (m + 1)) t := fun t ht => by rw [zN, zN, s1 _ (by omega) (by omega)]
        have cl : ∀ k, k < (len + 1) / 4 → mStat M R a h T nh len c (a + 25 + 3 * c + 1) k = zMt1 (M (m + 3)) k ∧ mStat M R a h T nh len c (a + 25 + 3 * c + 2) k = zMt0 (M (m + 3)) k := fun k hk => by
          have z := rRd_at (rPuM M R h a nh) (t := a + 25 + 3 * c) (b := T) (nc := (len + 1) / 4) (by omega) ((len + 1) / 4) (by omega) k hk
          have y1 : rTCol (rPuM M R h a nh) T k = rTCol M T k := by unfold rTCol rChr; rw [eT.1, eT.2]
          have y2 : rTOp (rPuM M R h a nh) T k = rTOp M T k := by unfold rTOp rChr; rw [eT.1, eT.2]
          have gk := g3 k (by omega)
          rw [y1, y2, gk.1, gk.2.1] at z
          exact ⟨by rw [q1, jup_row _ _ (by omega), rRead, jup_row _ _ (by omega)]; exact z.1, by rw [q1, jup_row _ _ (by omega), rRead, jup_row _ _ (by omega)]; exact z.2⟩
        obtain ⟨h1, h2, h3, h4, h5, h6, h7, h8, h9⟩ := pe
        have ro := right_op (M1 := mStat M R a h T nh len c) (M2 := mChg (zmRight (mStat M R a h T nh len c) m len) m nh) (m := m) (nh := nh) (len := len) (fun _ _ => rfl) (fun _ _ => rfl) I1.2.2.1
        refine ⟨md, ?_, hNp nh, ?_⟩
        · rw [fStat, if_pos c0, if_pos c3, if_pos c2, zfStat, em, if_neg z0, md (m + 1) (by omega), md (m + 3) (by omega), ← ef, if_pos c3, if_neg hcn]
        · rw [q2]
          refine e_op I c1 (fun _ _ => rfl) (fun y h1 h2 h3 => by rw [ox y h2, ro.1 y h1]) (fun i hi => by rw [ox m (by omega), ro.2 i hi]) ⟨r, n, c + 1, f, ?_⟩ ⟨pA.1, pA.2.1, fun i hi => by
            obtain ⟨j0, hj0, ej0⟩ := pA.2.1.rg hi
            rw [o1 _ (by omega) (by omega)]
            exact pA.2.2.1 i hi, by rw [o1 _ (by omega) (by omega)]; exact pA.2.2.2.1, by rw [o1 _ (by omega) (by omega)]; exact pA.2.2.2.2⟩
          refine ⟨eTab_c h1 (by rw [o1 _ (by omega) (by omega)]) (fun i _ => by rw [o1 _ (by omega) (by omega)]) (fun i _ => s1 i (by omega) (by omega)), eSum_c h2 h1.2.2.1 (by rw [o1 _ (by omega) (by omega)]) (fun i _ => by rw [o1 _ (by omega) (by omega)]) (fun i _ _ => s1 i (by omega) (by omega)),
            eKno_c h3 (by rw [o1 _ (by omega) (by omega)]) (fun i _ => by rw [o1 _ (by omega) (by omega)]) (fun i _ => s1 i (by omega) (by omega)),
            ⟨by rw [q1, jup_eq], s3, by omega, fun t ht => ?_⟩, eSet_c h5 (fun k hk => by rw [o1 _ (by omega) (by omega)]) (fun i _ _ => s1 i (by omega) (by omega)),
            ?_,
            eLst_c h7 (Nat.le_succ c) (fun i _ _ => by rw [o1 _ (by omega) (by omega)]) (fun k _ => by rw [o1 _ (by omega) (by omega)]) (fun i _ _ => s1 i (by omega) (by omega)) ezo,
            eShf_c h8 (Nat.le_succ c) (by rw [o1 _ (by omega) (by omega)]) (fun k hk w hw => ?_) (fun i _ => s1 i (by omega) (by omega)) ezo, eDis_c h9 h8.2.2.1 (Nat.le_succ b) (fun i _ => s1 i (by omega) (by omega))⟩
          · by_cases d : t = c
            · subst d
              rw [ezn]
              refine ⟨⟨hc, sq, by omega, by omega, fun k hk => ?_⟩, fun k hk => ?_, ?_, ?_, fun k hk => ?_⟩
              · obtain ⟨-, -, -, o, ho, eo⟩ := g3 k (by omega)
                have e5 := (sk k hk).1
                rw [eo] at e5
                rw [zCol, e5, nI_clamp (by omega)]
                exact ⟨rfl, ho⟩
              · obtain ⟨-, -, ⟨o, ho, eo⟩, -⟩ := g3 k (by omega)
                exact ⟨o, ho, by rw [(sk k hk).2, eo]⟩
              · rw [sq, q1, jup_row _ _ (by omega), rRead, jup_nk _ _ (by decide), rRdK_2]
              · rw [s9, q1, jup_row _ _ (by omega), rRead, jup_eq]
              · rw [(sk k hk).1, (sk k hk).2]
                exact cl k hk
            · obtain ⟨t1, t2, t3, t4, t5⟩ := h4.2.2.2 t (by omega)
              have hz4 := t1.2.2.2.1
              rw [ezo t (by omega)]
              refine ⟨zSt_cong t1 (fun j h1 h2 => s1 j (by omega) (by omega)), fun k hk => ?_, ?_, ?_, fun k hk => ⟨?_, ?_⟩⟩
              · rw [s1 _ (by omega) (by omega)]; exact t2 k hk
              · rw [s1 _ (by omega) (by omega), o1 _ (by omega) (by omega)]; exact t3
              · rw [s1 _ (by omega) (by omega), o1 _ (by omega) (by omega)]; exact t4
              · rw [s1 _ (by omega) (by omega), o1 _ (by omega) (by omega)]; exact (t5 k hk).1
              · rw [s1 _ (by omega) (by omega), o1 _ (by omega) (by omega)]; exact (t5 k hk).2
          · obtain ⟨t1, t2, t3, t4, t5, t6, t7⟩ := h6
            rw [oa _ (by omega)] at t1 t2 t3 t4
            exact ⟨by rw [oa8 _ (by decide), t1, s1 _ (by decide) (by omega)], by rw [oa8 _ (by decide), t2, s1 _ (by decide) (by omega)], by rw [oa8 _ (by decide), t3, s1 _ (by decide) (by omega)], by rw [oa8 _ (by decide), t4, s1 _ (by decide) (by omega)], by rw [o1 _ (by omega) (by omega), t5, s1 _ (by decide) (by omega)], by rw [o1 _ (by omega) (by omega), t6, s1 _ (by decide) (by omega)], by rw [o1 _ (by omega) (by omega), t7, s1 _ (by decide) (by omega)]⟩
          · obtain ⟨j0, hj0, ej0⟩ := pA.2.1.rg hk
            rw [o1 _ (by omega) (by omega)]
      · have hc : c = 6 := by
          rw [hS.1] at c2
          have := mt (nI_ltI (by omega) (by decide)).mpr c2
          omega
        have q1 : mStat M R a h T nh len c = M := by rw [mStat, if_pos c0, if_pos c3, if_neg c2]
        have q2 : pStat M R a h T nh len c = R := by rw [pStat, if_pos c0, if_pos c3, if_neg c2]
        rw [q1, q2]
        refine ⟨fun _ _ => rfl, ?_, nh, ?_⟩
        · rw [fStat, if_pos c0, if_pos c3, if_neg c2, zfStat, if_neg z0, ← ef, if_pos c3, if_pos (by rw [hc])]
        · rw [zmStat, if_neg z0, ← ef, if_pos c3, if_pos (by rw [hc])]
          exact e_right I
    · have q1 : mStat M R a h T nh len c = rPuM M R h a nh := by rw [mStat, if_pos c0, if_neg c3]
      have q2 : pStat M R a h T nh len c = rPuR R h nh := by rw [pStat, if_pos c0, if_neg c3]
      have md := e_mod I (M1 := rPuM M R h a nh) (fun _ _ _ => rfl)
      have c3' : ¬ rFirst (zFnd (M (m + 1)) (M (m + 3)) (nI (len + 1) / nI 4)) c = -1 := by rw [← ef]; exact c3
      have q3 : zmStat (rPuM M R h a nh) m len c nh = mChg (zmRight (rPuM M R h a nh) m len) m nh := by rw [zmStat, md (m + 3) (by omega), if_neg z0, md (m + 1) (by omega), if_neg c3']
      have ro := right_op (M1 := rPuM M R h a nh) (M2 := mChg (zmRight (rPuM M R h a nh) m len) m nh) (m := m) (nh := nh) (len := len) (fun _ _ => rfl) (fun _ _ => rfl) I1.2.2.1
      rw [q1, q2, q3]
      refine ⟨md, ?_, hNp nh, ?_⟩
      · rw [fStat, if_pos c0, if_neg c3, zfStat, md (m + 3) (by omega), if_neg z0, md (m + 1) (by omega), if_neg c3', ef]
      · refine e_op I (fun _ _ _ => rfl) (fun _ _ => rfl) (fun y h1 h2 h3 => ro.1 y h1) ro.2 ⟨r, n, c, f, ?_⟩ pA
        rw [mChg_o _ (by omega) (by omega), zmRight_o _ (by omega), md (m + 1) (by omega)]
        exact eR_c pe (eqB_same pA.2.1 (fun _ _ _ => rfl) rfl) (fun _ _ => rfl) (Nat.le_succ b)
  · have z0 : zRight (M (m + 3)) len = 0 := Decidable.byContradiction fun q => c0 ((q_flt hx I5).mpr q)
    have q1 : mStat M R a h T nh len c = M := by rw [mStat, if_neg c0]
    have q2 : pStat M R a h T nh len c = R := by rw [pStat, if_neg c0]
    rw [q1, q2]
    refine ⟨fun _ _ => rfl, ?_, nh, ?_⟩
    · rw [fStat, if_neg c0, zfStat, if_pos z0]
    · rw [zmStat, if_pos z0]
      exact e_right I
end STA
