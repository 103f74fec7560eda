set_option maxHeartbeats 4000000 in
set_option maxRecDepth 100000 in
theorem c_X10_isRight (l : Launch) (ω : jW) (γ : jG) (M : jM) (R : jR) {m : Nat} (g : gM ω γ m) {len : Nat} (hl : M m 4 = nI len) (hl30 : len ≤ 30)  : Ct l ω yX10_isRight cX10_isRight 3 (some .boolean) 2 0 0 [.ref m] γ M R (jx γ (some (.int (zRight (M (m + 3)) len))) (zmRight M m len) R) := by
  refine Ct_of (by decide) (Nat.le_of_ble_eq_true rfl) rfl (jcat_of rfl) ?_
  intro X C E hnm hxl hxn
  subst hxl
  have g9 := g
  obtain ⟨g0, g1, g2, g3, g4, g5, g6, g7, g8⟩ := g
  refine j_aload_n C dX10_isRight_0 rfl ?_
  refine j_iconst C (nI 0) dX10_isRight_1 (by decide) ?_
  refine j_putI C fl_X10_61 (by assumption) dX10_isRight_2 (by decide) rfl (rfl) (rfl) ?_
  refine j_mem (mSp M m (nI 0) (zRs M m 0)) (mSp_0 M m (nI 0)) ?_
  refine j_loop len (fun k => [(0, .ref m)]) (fun k => mSp M m (nI k) (zRs M m k)) (fun _ => R) (fun k => ∀ j, j < k → zWr (M (m + 3)) j = false) (fun j hj => absurd hj (Nat.not_lt_zero j)) (fun k hk hI ih => ?_) (fun hI => ?_)
  · skip
    refine j_aload_n C dX10_isRight_5 rfl ?_
    refine j_getI C fl_X10_61 (by assumption) dX10_isRight_6 (by decide) rfl ?_
    refine j_top (nI k) (mSp_5 _ _ _ _) ?_
    refine j_aload_n C dX10_isRight_9 rfl ?_
    refine j_getI C fl_X10_64 (by assumption) dX10_isRight_10 (by decide) rfl ?_
    refine j_top (nI len) (by rw [mSp_k _ _ _ _ (by decide)]; exact hl) ?_
    refine j_icmp_ge C 135 dX10_isRight_13 (by decide) (fun h => absurd h (nI_ge hk (by omega))) (fun _ => ?_)
    refine j_aload_n C dX10_isRight_16 rfl ?_
    refine j_getR C fl_X10_16 (by assumption) dX10_isRight_17 (by decide) rfl (by assumption) ?_
    refine j_aload_n C dX10_isRight_20 rfl ?_
    refine j_getI C fl_X10_61 (by assumption) dX10_isRight_21 (by decide) rfl ?_
    refine j_top (nI k) (mSp_5 _ _ _ _) ?_
    refine j_ialdN C (by assumption) dX10_isRight_24 (by omega) (by decide) ?_
    refine j_top (M (m + 3) k) (by rw [mSp_o _ _ _ (by omega)]) ?_
    refine j_istore_n C dX10_isRight_25 (by rw [hxn]; decide) ?_
    refine j_aload_n C dX10_isRight_26 rfl ?_
    refine j_getI C fl_X10_61 (by assumption) dX10_isRight_27 (by decide) rfl ?_
    refine j_top (nI k) (mSp_5 _ _ _ _) ?_
    refine j_iconst C (nI 4) dX10_isRight_30 (by decide) ?_
    refine j_irem C dX10_isRight_31 (by decide) ?_
    refine j_if_ne C 46 dX10_isRight_32 (by decide) (fun h32 => ?_) (fun h32 => ?_)
    · skip
      refine j_aload_n C dX10_isRight_46 rfl ?_
      refine j_getI C fl_X10_61 (by assumption) dX10_isRight_47 (by decide) rfl ?_
      refine j_top (nI k) (mSp_5 _ _ _ _) ?_
      refine j_iconst C (nI 4) dX10_isRight_50 (by decide) ?_
      refine j_irem C dX10_isRight_51 (by decide) ?_
      refine j_iconst C (nI 1) dX10_isRight_52 (by decide) ?_
      refine j_icmp_ne C 67 dX10_isRight_53 (by decide) (fun h53 => ?_) (fun h53 => ?_)
      · skip
        refine j_iload_n C dX10_isRight_67 rfl ?_
        refine j_aload_n C dX10_isRight_68 rfl ?_
        refine j_getI C fl_X10_61 (by assumption) dX10_isRight_69 (by decide) rfl ?_
        refine j_top (nI k) (mSp_5 _ _ _ _) ?_
        refine j_iconst C (nI 4) dX10_isRight_72 (by decide) ?_
        refine j_irem C dX10_isRight_73 (by decide) ?_
        refine j_iconst C (nI 2) dX10_isRight_74 (by decide) ?_
        refine j_icmp_ne C 83 dX10_isRight_75 (by decide) (fun h75 => ?_) (fun h75 => ?_)
        · skip
          refine j_bipush C (nI 38) dX10_isRight_83 (by decide) ?_
          refine j_icmp_ne C 92 dX10_isRight_85 (by decide) (fun h85 => ?_) (fun h85 => ?_)
          · skip
            refine j_iconst C (nI 0) dX10_isRight_92 (by decide) ?_
            refine j_top (zOk (M (m + 3)) k) (by first | rw [zOk, if_pos h32] | rw [zOk, if_neg h32, if_pos h53] | rw [zOk, if_neg h32, if_neg h53, if_pos h75, if_pos h85] | rw [zOk, if_neg h32, if_neg h53, if_pos h75, if_neg h85] | rw [zOk, if_neg h32, if_neg h53, if_neg h75, if_pos h85] | rw [zOk, if_neg h32, if_neg h53, if_neg h75, if_neg h85]) ?_
            refine j_istore_n C dX10_isRight_93 (by rw [hxn]; decide) ?_
            refine j_aload_n C dX10_isRight_94 rfl ?_
            refine j_iload_n C dX10_isRight_95 rfl ?_
            refine j_if_eq C 103 dX10_isRight_96 (by decide) (fun h96 => ?_) (fun h96 => ?_)
            · skip
              refine j_iconst C (nI 1) dX10_isRight_103 (by decide) ?_
              refine j_putI C fl_X10_67 (by assumption) dX10_isRight_104 (by decide) rfl (rfl) (rfl) ?_
              rw [mSp_r]
              refine j_iload_n C dX10_isRight_107 rfl ?_
              refine j_if_eq C 120 dX10_isRight_108 (by decide) (fun h108 => ?_) (fun h108 => ?_)
              · skip
                refine j_iconst C (nI 0) dX10_isRight_120 (by decide) ?_
                exact j_ireturn C E dX10_isRight_121 ((by first | exact nb0 | exact nb1)) (by decide) (by decide) (by first | exact absurd h96 h108 | exact absurd h108 h96 | (have e9 := zRight_at hk hl30 (zWr_1 h96) hI; rw [if_pos h96] at e9; exact ⟨by rw [e9.1], rfl, e9.2.symm, rfl⟩) | (have e9 := zRight_at hk hl30 (zWr_2 h117) hI; rw [if_neg h96] at e9; exact ⟨by rw [e9.1], rfl, e9.2.symm, rfl⟩))
              · skip
                refine j_aload_n C dX10_isRight_111 rfl ?_
                refine j_getI C fl_X10_61 (by assumption) dX10_isRight_112 (by decide) rfl ?_
                refine j_top (nI k) (mSp_5 _ _ _ _) ?_
                refine j_bipush C (nI 15) dX10_isRight_115 (by decide) ?_
                refine j_icmp_ne C 122 dX10_isRight_117 (by decide) (fun h117 => ?_) (fun h117 => ?_)
                · skip
                  refine j_aload_n C dX10_isRight_122 rfl ?_
                  refine j_dup C dX10_isRight_123 rfl ?_
                  refine j_getI C fl_X10_61 (by assumption) dX10_isRight_124 (by decide) rfl ?_
                  refine j_top (nI k) (mSp_5 _ _ _ _) ?_
                  refine j_iconst C (nI 1) dX10_isRight_127 (by decide) ?_
                  first | with_reducible refine j_iaddN C dX10_isRight_128 ?_ | refine j_iadd C dX10_isRight_128 ?_
                  refine j_putI C fl_X10_61 (by assumption) dX10_isRight_129 (by decide) rfl (rfl) (rfl) ?_
                  rw [mSp_s]
                  refine j_goto C 5 dX10_isRight_132 (by decide) ?_
                  first | exact absurd h96 h108 | exact absurd h108 h96 | (refine j_locs [0] rfl ?_; exact ih (lt_s hI (zWr_f h96 h117)))
                · skip
                  refine j_iconst C (nI 0) dX10_isRight_120 (by decide) ?_
                  exact j_ireturn C E dX10_isRight_121 ((by first | exact nb0 | exact nb1)) (by decide) (by decide) (by first | exact absurd h96 h108 | exact absurd h108 h96 | (have e9 := zRight_at hk hl30 (zWr_1 h96) hI; rw [if_pos h96] at e9; exact ⟨by rw [e9.1], rfl, e9.2.symm, rfl⟩) | (have e9 := zRight_at hk hl30 (zWr_2 h117) hI; rw [if_neg h96] at e9; exact ⟨by rw [e9.1], rfl, e9.2.symm, rfl⟩))
            · skip
              refine j_iconst C (nI 2) dX10_isRight_99 (by decide) ?_
              refine j_goto C 104 dX10_isRight_100 (by decide) ?_
              refine j_putI C fl_X10_67 (by assumption) dX10_isRight_104 (by decide) rfl (rfl) (rfl) ?_
              rw [mSp_r]
              refine j_iload_n C dX10_isRight_107 rfl ?_
              refine j_if_eq C 120 dX10_isRight_108 (by decide) (fun h108 => ?_) (fun h108 => ?_)
              · skip
                refine j_iconst C (nI 0) dX10_isRight_120 (by decide) ?_
                exact j_ireturn C E dX10_isRight_121 ((by first | exact nb0 | exact nb1)) (by decide) (by decide) (by first | exact absurd h96 h108 | exact absurd h108 h96 | (have e9 := zRight_at hk hl30 (zWr_1 h96) hI; rw [if_pos h96] at e9; exact ⟨by rw [e9.1], rfl, e9.2.symm, rfl⟩) | (have e9 := zRight_at hk hl30 (zWr_2 h117) hI; rw [if_neg h96] at e9; exact ⟨by rw [e9.1], rfl, e9.2.symm, rfl⟩))
              · skip
                refine j_aload_n C dX10_isRight_111 rfl ?_
                refine j_getI C fl_X10_61 (by assumption) dX10_isRight_112 (by decide) rfl ?_
                refine j_top (nI k) (mSp_5 _ _ _ _) ?_
                refine j_bipush C (nI 15) dX10_isRight_115 (by decide) ?_
                refine j_icmp_ne C 122 dX10_isRight_117 (by decide) (fun h117 => ?_) (fun h117 => ?_)
                · skip
                  refine j_aload_n C dX10_isRight_122 rfl ?_
                  refine j_dup C dX10_isRight_123 rfl ?_
                  refine j_getI C fl_X10_61 (by assumption) dX10_isRight_124 (by decide) rfl ?_
                  refine j_top (nI k) (mSp_5 _ _ _ _) ?_
                  refine j_iconst C (nI 1) dX10_isRight_127 (by decide) ?_
                  first | with_reducible refine j_iaddN C dX10_isRight_128 ?_ | refine j_iadd C dX10_isRight_128 ?_
                  refine j_putI C fl_X10_61 (by assumption) dX10_isRight_129 (by decide) rfl (rfl) (rfl) ?_
                  rw [mSp_s]
                  refine j_goto C 5 dX10_isRight_132 (by decide) ?_
                  first | exact absurd h96 h108 | exact absurd h108 h96 | (refine j_locs [0] rfl ?_; exact ih (lt_s hI (zWr_f h96 h117)))
                · skip
                  refine j_iconst C (nI 0) dX10_isRight_120 (by decide) ?_
                  exact j_ireturn C E dX10_isRight_121 ((by first | exact nb0 | exact nb1)) (by decide) (by decide) (by first | exact absurd h96 h108 | exact absurd h108 h96 | (have e9 := zRight_at hk hl30 (zWr_1 h96) hI; rw [if_pos h96] at e9; exact ⟨by rw [e9.1], rfl, e9.2.symm, rfl⟩) | (have e9 := zRight_at hk hl30 (zWr_2 h117) hI; rw [if_neg h96] at e9; exact ⟨by rw [e9.1], rfl, e9.2.symm, rfl⟩))
          · skip
            refine j_iconst C (nI 1) dX10_isRight_88 (by decide) ?_
            refine j_goto C 93 dX10_isRight_89 (by decide) ?_
            refine j_top (zOk (M (m + 3)) k) (by first | rw [zOk, if_pos h32] | rw [zOk, if_neg h32, if_pos h53] | rw [zOk, if_neg h32, if_neg h53, if_pos h75, if_pos h85] | rw [zOk, if_neg h32, if_neg h53, if_pos h75, if_neg h85] | rw [zOk, if_neg h32, if_neg h53, if_neg h75, if_pos h85] | rw [zOk, if_neg h32, if_neg h53, if_neg h75, if_neg h85]) ?_
            refine j_istore_n C dX10_isRight_93 (by rw [hxn]; decide) ?_
            refine j_aload_n C dX10_isRight_94 rfl ?_
            refine j_iload_n C dX10_isRight_95 rfl ?_
            refine j_if_eq C 103 dX10_isRight_96 (by decide) (fun h96 => ?_) (fun h96 => ?_)
            · skip
              refine j_iconst C (nI 1) dX10_isRight_103 (by decide) ?_
              refine j_putI C fl_X10_67 (by assumption) dX10_isRight_104 (by decide) rfl (rfl) (rfl) ?_
              rw [mSp_r]
              refine j_iload_n C dX10_isRight_107 rfl ?_
              refine j_if_eq C 120 dX10_isRight_108 (by decide) (fun h108 => ?_) (fun h108 => ?_)
              · skip
                refine j_iconst C (nI 0) dX10_isRight_120 (by decide) ?_
                exact j_ireturn C E dX10_isRight_121 ((by first | exact nb0 | exact nb1)) (by decide) (by decide) (by first | exact absurd h96 h108 | exact absurd h108 h96 | (have e9 := zRight_at hk hl30 (zWr_1 h96) hI; rw [if_pos h96] at e9; exact ⟨by rw [e9.1], rfl, e9.2.symm, rfl⟩) | (have e9 := zRight_at hk hl30 (zWr_2 h117) hI; rw [if_neg h96] at e9; exact ⟨by rw [e9.1], rfl, e9.2.symm, rfl⟩))
              · skip
                refine j_aload_n C dX10_isRight_111 rfl ?_
                refine j_getI C fl_X10_61 (by assumption) dX10_isRight_112 (by decide) rfl ?_
                refine j_top (nI k) (mSp_5 _ _ _ _) ?_
                refine j_bipush C (nI 15) dX10_isRight_115 (by decide) ?_
                refine j_icmp_ne C 122 dX10_isRight_117 (by decide) (fun h117 => ?_) (fun h117 => ?_)
                · skip
                  refine j_aload_n C dX10_isRight_122 rfl ?_
                  refine j_dup C dX10_isRight_123 rfl ?_
                  refine j_getI C fl_X10_61 (by assumption) dX10_isRight_124 (by decide) rfl ?_
                  refine j_top (nI k) (mSp_5 _ _ _ _) ?_
                  refine j_iconst C (nI 1) dX10_isRight_127 (by decide) ?_
                  first | with_reducible refine j_iaddN C dX10_isRight_128 ?_ | refine j_iadd C dX10_isRight_128 ?_
                  refine j_putI C fl_X10_61 (by assumption) dX10_isRight_129 (by decide) rfl (rfl) (rfl) ?_
                  rw [mSp_s]
                  refine j_goto C 5 dX10_isRight_132 (by decide) ?_
                  first | exact absurd h96 h108 | exact absurd h108 h96 | (refine j_locs [0] rfl ?_; exact ih (lt_s hI (zWr_f h96 h117)))
                · skip
                  refine j_iconst C (nI 0) dX10_isRight_120 (by decide) ?_
                  exact j_ireturn C E dX10_isRight_121 ((by first | exact nb0 | exact nb1)) (by decide) (by decide) (by first | exact absurd h96 h108 | exact absurd h108 h96 | (have e9 := zRight_at hk hl30 (zWr_1 h96) hI; rw [if_pos h96] at e9; exact ⟨by rw [e9.1], rfl, e9.2.symm, rfl⟩) | (have e9 := zRight_at hk hl30 (zWr_2 h117) hI; rw [if_neg h96] at e9; exact ⟨by rw [e9.1], rfl, e9.2.symm, rfl⟩))
            · skip
              refine j_iconst C (nI 2) dX10_isRight_99 (by decide) ?_
              refine j_goto C 104 dX10_isRight_100 (by decide) ?_
              refine j_putI C fl_X10_67 (by assumption) dX10_isRight_104 (by decide) rfl (rfl) (rfl) ?_
              rw [mSp_r]
              refine j_iload_n C dX10_isRight_107 rfl ?_
              refine j_if_eq C 120 dX10_isRight_108 (by decide) (fun h108 => ?_) (fun h108 => ?_)
              · skip
                refine j_iconst C (nI 0) dX10_isRight_120 (by decide) ?_
                exact j_ireturn C E dX10_isRight_121 ((by first | exact nb0 | exact nb1)) (by decide) (by decide) (by first | exact absurd h96 h108 | exact absurd h108 h96 | (have e9 := zRight_at hk hl30 (zWr_1 h96) hI; rw [if_pos h96] at e9; exact ⟨by rw [e9.1], rfl, e9.2.symm, rfl⟩) | (have e9 := zRight_at hk hl30 (zWr_2 h117) hI; rw [if_neg h96] at e9; exact ⟨by rw [e9.1], rfl, e9.2.symm, rfl⟩))
              · skip
                refine j_aload_n C dX10_isRight_111 rfl ?_
                refine j_getI C fl_X10_61 (by assumption) dX10_isRight_112 (by decide) rfl ?_
                refine j_top (nI k) (mSp_5 _ _ _ _) ?_
                refine j_bipush C (nI 15) dX10_isRight_115 (by decide) ?_
                refine j_icmp_ne C 122 dX10_isRight_117 (by decide) (fun h117 => ?_) (fun h117 => ?_)
                · skip
                  refine j_aload_n C dX10_isRight_122 rfl ?_
                  refine j_dup C dX10_isRight_123 rfl ?_
                  refine j_getI C fl_X10_61 (by assumption) dX10_isRight_124 (by decide) rfl ?_
                  refine j_top (nI k) (mSp_5 _ _ _ _) ?_
                  refine j_iconst C (nI 1) dX10_isRight_127 (by decide) ?_
                  first | with_reducible refine j_iaddN C dX10_isRight_128 ?_ | refine j_iadd C dX10_isRight_128 ?_
                  refine j_putI C fl_X10_61 (by assumption) dX10_isRight_129 (by decide) rfl (rfl) (rfl) ?_
                  rw [mSp_s]
                  refine j_goto C 5 dX10_isRight_132 (by decide) ?_
                  first | exact absurd h96 h108 | exact absurd h108 h96 | (refine j_locs [0] rfl ?_; exact ih (lt_s hI (zWr_f h96 h117)))
                · skip
                  refine j_iconst C (nI 0) dX10_isRight_120 (by decide) ?_
                  exact j_ireturn C E dX10_isRight_121 ((by first | exact nb0 | exact nb1)) (by decide) (by decide) (by first | exact absurd h96 h108 | exact absurd h108 h96 | (have e9 := zRight_at hk hl30 (zWr_1 h96) hI; rw [if_pos h96] at e9; exact ⟨by rw [e9.1], rfl, e9.2.symm, rfl⟩) | (have e9 := zRight_at hk hl30 (zWr_2 h117) hI; rw [if_neg h96] at e9; exact ⟨by rw [e9.1], rfl, e9.2.symm, rfl⟩))
        · skip
          refine j_bipush C (nI 63) dX10_isRight_78 (by decide) ?_
          refine j_goto C 85 dX10_isRight_80 (by decide) ?_
          refine j_icmp_ne C 92 dX10_isRight_85 (by decide) (fun h85 => ?_) (fun h85 => ?_)
          · skip
            refine j_iconst C (nI 0) dX10_isRight_92 (by decide) ?_
            refine j_top (zOk (M (m + 3)) k) (by first | rw [zOk, if_pos h32] | rw [zOk, if_neg h32, if_pos h53] | rw [zOk, if_neg h32, if_neg h53, if_pos h75, if_pos h85] | rw [zOk, if_neg h32, if_neg h53, if_pos h75, if_neg h85] | rw [zOk, if_neg h32, if_neg h53, if_neg h75, if_pos h85] | rw [zOk, if_neg h32, if_neg h53, if_neg h75, if_neg h85]) ?_
            refine j_istore_n C dX10_isRight_93 (by rw [hxn]; decide) ?_
            refine j_aload_n C dX10_isRight_94 rfl ?_
            refine j_iload_n C dX10_isRight_95 rfl ?_
            refine j_if_eq C 103 dX10_isRight_96 (by decide) (fun h96 => ?_) (fun h96 => ?_)
            · skip
              refine j_iconst C (nI 1) dX10_isRight_103 (by decide) ?_
              refine j_putI C fl_X10_67 (by assumption) dX10_isRight_104 (by decide) rfl (rfl) (rfl) ?_
              rw [mSp_r]
              refine j_iload_n C dX10_isRight_107 rfl ?_
              refine j_if_eq C 120 dX10_isRight_108 (by decide) (fun h108 => ?_) (fun h108 => ?_)
              · skip
                refine j_iconst C (nI 0) dX10_isRight_120 (by decide) ?_
                exact j_ireturn C E dX10_isRight_121 ((by first | exact nb0 | exact nb1)) (by decide) (by decide) (by first | exact absurd h96 h108 | exact absurd h108 h96 | (have e9 := zRight_at hk hl30 (zWr_1 h96) hI; rw [if_pos h96] at e9; exact ⟨by rw [e9.1], rfl, e9.2.symm, rfl⟩) | (have e9 := zRight_at hk hl30 (zWr_2 h117) hI; rw [if_neg h96] at e9; exact ⟨by rw [e9.1], rfl, e9.2.symm, rfl⟩))
              · skip
                refine j_aload_n C dX10_isRight_111 rfl ?_
                refine j_getI C fl_X10_61 (by assumption) dX10_isRight_112 (by decide) rfl ?_
                refine j_top (nI k) (mSp_5 _ _ _ _) ?_
                refine j_bipush C (nI 15) dX10_isRight_115 (by decide) ?_
                refine j_icmp_ne C 122 dX10_isRight_117 (by decide) (fun h117 => ?_) (fun h117 => ?_)
                · skip
                  refine j_aload_n C dX10_isRight_122 rfl ?_
                  refine j_dup C dX10_isRight_123 rfl ?_
                  refine j_getI C fl_X10_61 (by assumption) dX10_isRight_124 (by decide) rfl ?_
                  refine j_top (nI k) (mSp_5 _ _ _ _) ?_
                  refine j_iconst C (nI 1) dX10_isRight_127 (by decide) ?_
                  first | with_reducible refine j_iaddN C dX10_isRight_128 ?_ | refine j_iadd C dX10_isRight_128 ?_
                  refine j_putI C fl_X10_61 (by assumption) dX10_isRight_129 (by decide) rfl (rfl) (rfl) ?_
                  rw [mSp_s]
                  refine j_goto C 5 dX10_isRight_132 (by decide) ?_
                  first | exact absurd h96 h108 | exact absurd h108 h96 | (refine j_locs [0] rfl ?_; exact ih (lt_s hI (zWr_f h96 h117)))
                · skip
                  refine j_iconst C (nI 0) dX10_isRight_120 (by decide) ?_
                  exact j_ireturn C E dX10_isRight_121 ((by first | exact nb0 | exact nb1)) (by decide) (by decide) (by first | exact absurd h96 h108 | exact absurd h108 h96 | (have e9 := zRight_at hk hl30 (zWr_1 h96) hI; rw [if_pos h96] at e9; exact ⟨by rw [e9.1], rfl, e9.2.symm, rfl⟩) | (have e9 := zRight_at hk hl30 (zWr_2 h117) hI; rw [if_neg h96] at e9; exact ⟨by rw [e9.1], rfl, e9.2.symm, rfl⟩))
            · skip
              refine j_iconst C (nI 2) dX10_isRight_99 (by decide) ?_
              refine j_goto C 104 dX10_isRight_100 (by decide) ?_
              refine j_putI C fl_X10_67 (by assumption) dX10_isRight_104 (by decide) rfl (rfl) (rfl) ?_
              rw [mSp_r]
              refine j_iload_n C dX10_isRight_107 rfl ?_
              refine j_if_eq C 120 dX10_isRight_108 (by decide) (fun h108 => ?_) (fun h108 => ?_)
              · skip
                refine j_iconst C (nI 0) dX10_isRight_120 (by decide) ?_
                exact j_ireturn C E dX10_isRight_121 ((by first | exact nb0 | exact nb1)) (by decide) (by decide) (by first | exact absurd h96 h108 | exact absurd h108 h96 | (have e9 := zRight_at hk hl30 (zWr_1 h96) hI; rw [if_pos h96] at e9; exact ⟨by rw [e9.1], rfl, e9.2.symm, rfl⟩) | (have e9 := zRight_at hk hl30 (zWr_2 h117) hI; rw [if_neg h96] at e9; exact ⟨by rw [e9.1], rfl, e9.2.symm, rfl⟩))
              · skip
                refine j_aload_n C dX10_isRight_111 rfl ?_
                refine j_getI C fl_X10_61 (by assumption) dX10_isRight_112 (by decide) rfl ?_
                refine j_top (nI k) (mSp_5 _ _ _ _) ?_
                refine j_bipush C (nI 15) dX10_isRight_115 (by decide) ?_
                refine j_icmp_ne C 122 dX10_isRight_117 (by decide) (fun h117 => ?_) (fun h117 => ?_)
                · skip
                  refine j_aload_n C dX10_isRight_122 rfl ?_
                  refine j_dup C dX10_isRight_123 rfl ?_
                  refine j_getI C fl_X10_61 (by assumption) dX10_isRight_124 (by decide) rfl ?_
                  refine j_top (nI k) (mSp_5 _ _ _ _) ?_
                  refine j_iconst C (nI 1) dX10_isRight_127 (by decide) ?_
                  first | with_reducible refine j_iaddN C dX10_isRight_128 ?_ | refine j_iadd C dX10_isRight_128 ?_
                  refine j_putI C fl_X10_61 (by assumption) dX10_isRight_129 (by decide) rfl (rfl) (rfl) ?_
                  rw [mSp_s]
                  refine j_goto C 5 dX10_isRight_132 (by decide) ?_
                  first | exact absurd h96 h108 | exact absurd h108 h96 | (refine j_locs [0] rfl ?_; exact ih (lt_s hI (zWr_f h96 h117)))
                · skip
                  refine j_iconst C (nI 0) dX10_isRight_120 (by decide) ?_
                  exact j_ireturn C E dX10_isRight_121 ((by first | exact nb0 | exact nb1)) (by decide) (by decide) (by first | exact absurd h96 h108 | exact absurd h108 h96 | (have e9 := zRight_at hk hl30 (zWr_1 h96) hI; rw [if_pos h96] at e9; exact ⟨by rw [e9.1], rfl, e9.2.symm, rfl⟩) | (have e9 := zRight_at hk hl30 (zWr_2 h117) hI; rw [if_neg h96] at e9; exact ⟨by rw [e9.1], rfl, e9.2.symm, rfl⟩))
          · skip
            refine j_iconst C (nI 1) dX10_isRight_88 (by decide) ?_
            refine j_goto C 93 dX10_isRight_89 (by decide) ?_
            refine j_top (zOk (M (m + 3)) k) (by first | rw [zOk, if_pos h32] | rw [zOk, if_neg h32, if_pos h53] | rw [zOk, if_neg h32, if_neg h53, if_pos h75, if_pos h85] | rw [zOk, if_neg h32, if_neg h53, if_pos h75, if_neg h85] | rw [zOk, if_neg h32, if_neg h53, if_neg h75, if_pos h85] | rw [zOk, if_neg h32, if_neg h53, if_neg h75, if_neg h85]) ?_
            refine j_istore_n C dX10_isRight_93 (by rw [hxn]; decide) ?_
            refine j_aload_n C dX10_isRight_94 rfl ?_
            refine j_iload_n C dX10_isRight_95 rfl ?_
            refine j_if_eq C 103 dX10_isRight_96 (by decide) (fun h96 => ?_) (fun h96 => ?_)
            · skip
              refine j_iconst C (nI 1) dX10_isRight_103 (by decide) ?_
              refine j_putI C fl_X10_67 (by assumption) dX10_isRight_104 (by decide) rfl (rfl) (rfl) ?_
              rw [mSp_r]
              refine j_iload_n C dX10_isRight_107 rfl ?_
              refine j_if_eq C 120 dX10_isRight_108 (by decide) (fun h108 => ?_) (fun h108 => ?_)
              · skip
                refine j_iconst C (nI 0) dX10_isRight_120 (by decide) ?_
                exact j_ireturn C E dX10_isRight_121 ((by first | exact nb0 | exact nb1)) (by decide) (by decide) (by first | exact absurd h96 h108 | exact absurd h108 h96 | (have e9 := zRight_at hk hl30 (zWr_1 h96) hI; rw [if_pos h96] at e9; exact ⟨by rw [e9.1], rfl, e9.2.symm, rfl⟩) | (have e9 := zRight_at hk hl30 (zWr_2 h117) hI; rw [if_neg h96] at e9; exact ⟨by rw [e9.1], rfl, e9.2.symm, rfl⟩))
              · skip
                refine j_aload_n C dX10_isRight_111 rfl ?_
                refine j_getI C fl_X10_61 (by assumption) dX10_isRight_112 (by decide) rfl ?_
                refine j_top (nI k) (mSp_5 _ _ _ _) ?_
                refine j_bipush C (nI 15) dX10_isRight_115 (by decide) ?_
                refine j_icmp_ne C 122 dX10_isRight_117 (by decide) (fun h117 => ?_) (fun h117 => ?_)
                · skip
                  refine j_aload_n C dX10_isRight_122 rfl ?_
                  refine j_dup C dX10_isRight_123 rfl ?_
                  refine j_getI C fl_X10_61 (by assumption) dX10_isRight_124 (by decide) rfl ?_
                  refine j_top (nI k) (mSp_5 _ _ _ _) ?_
                  refine j_iconst C (nI 1) dX10_isRight_127 (by decide) ?_
                  first | with_reducible refine j_iaddN C dX10_isRight_128 ?_ | refine j_iadd C dX10_isRight_128 ?_
                  refine j_putI C fl_X10_61 (by assumption) dX10_isRight_129 (by decide) rfl (rfl) (rfl) ?_
                  rw [mSp_s]
                  refine j_goto C 5 dX10_isRight_132 (by decide) ?_
                  first | exact absurd h96 h108 | exact absurd h108 h96 | (refine j_locs [0] rfl ?_; exact ih (lt_s hI (zWr_f h96 h117)))
                · skip
                  refine j_iconst C (nI 0) dX10_isRight_120 (by decide) ?_
                  exact j_ireturn C E dX10_isRight_121 ((by first | exact nb0 | exact nb1)) (by decide) (by decide) (by first | exact absurd h96 h108 | exact absurd h108 h96 | (have e9 := zRight_at hk hl30 (zWr_1 h96) hI; rw [if_pos h96] at e9; exact ⟨by rw [e9.1], rfl, e9.2.symm, rfl⟩) | (have e9 := zRight_at hk hl30 (zWr_2 h117) hI; rw [if_neg h96] at e9; exact ⟨by rw [e9.1], rfl, e9.2.symm, rfl⟩))
            · skip
              refine j_iconst C (nI 2) dX10_isRight_99 (by decide) ?_
              refine j_goto C 104 dX10_isRight_100 (by decide) ?_
              refine j_putI C fl_X10_67 (by assumption) dX10_isRight_104 (by decide) rfl (rfl) (rfl) ?_
              rw [mSp_r]
              refine j_iload_n C dX10_isRight_107 rfl ?_
              refine j_if_eq C 120 dX10_isRight_108 (by decide) (fun h108 => ?_) (fun h108 => ?_)
              · skip
                refine j_iconst C (nI 0) dX10_isRight_120 (by decide) ?_
                exact j_ireturn C E dX10_isRight_121 ((by first | exact nb0 | exact nb1)) (by decide) (by decide) (by first | exact absurd h96 h108 | exact absurd h108 h96 | (have e9 := zRight_at hk hl30 (zWr_1 h96) hI; rw [if_pos h96] at e9; exact ⟨by rw [e9.1], rfl, e9.2.symm, rfl⟩) | (have e9 := zRight_at hk hl30 (zWr_2 h117) hI; rw [if_neg h96] at e9; exact ⟨by rw [e9.1], rfl, e9.2.symm, rfl⟩))
              · skip
                refine j_aload_n C dX10_isRight_111 rfl ?_
                refine j_getI C fl_X10_61 (by assumption) dX10_isRight_112 (by decide) rfl ?_
                refine j_top (nI k) (mSp_5 _ _ _ _) ?_
                refine j_bipush C (nI 15) dX10_isRight_115 (by decide) ?_
                refine j_icmp_ne C 122 dX10_isRight_117 (by decide) (fun h117 => ?_) (fun h117 => ?_)
                · skip
                  refine j_aload_n C dX10_isRight_122 rfl ?_
                  refine j_dup C dX10_isRight_123 rfl ?_
                  refine j_getI C fl_X10_61 (by assumption) dX10_isRight_124 (by decide) rfl ?_
                  refine j_top (nI k) (mSp_5 _ _ _ _) ?_
                  refine j_iconst C (nI 1) dX10_isRight_127 (by decide) ?_
                  first | with_reducible refine j_iaddN C dX10_isRight_128 ?_ | refine j_iadd C dX10_isRight_128 ?_
                  refine j_putI C fl_X10_61 (by assumption) dX10_isRight_129 (by decide) rfl (rfl) (rfl) ?_
                  rw [mSp_s]
                  refine j_goto C 5 dX10_isRight_132 (by decide) ?_
                  first | exact absurd h96 h108 | exact absurd h108 h96 | (refine j_locs [0] rfl ?_; exact ih (lt_s hI (zWr_f h96 h117)))
                · skip
                  refine j_iconst C (nI 0) dX10_isRight_120 (by decide) ?_
                  exact j_ireturn C E dX10_isRight_121 ((by first | exact nb0 | exact nb1)) (by decide) (by decide) (by first | exact absurd h96 h108 | exact absurd h108 h96 | (have e9 := zRight_at hk hl30 (zWr_1 h96) hI; rw [if_pos h96] at e9; exact ⟨by rw [e9.1], rfl, e9.2.symm, rfl⟩) | (have e9 := zRight_at hk hl30 (zWr_2 h117) hI; rw [if_neg h96] at e9; exact ⟨by rw [e9.1], rfl, e9.2.symm, rfl⟩))
      · skip
        refine j_iload_n C dX10_isRight_56 rfl ?_
        refine j_bipush C (nI 60) dX10_isRight_57 (by decide) ?_
        refine j_bipush C (nI 62) dX10_isRight_59 (by decide) ?_
        refine j_cSi C (c_X10_in _ _ _ _ _ _ _ _) yc_X10_in mn_X10_26 st_X10_in dX10_isRight_61 rfl rfl (Nat.le_of_ble_eq_true rfl) (by decide) ?_
        refine j_goto C 93 dX10_isRight_64 (by decide) ?_
        refine j_top (zOk (M (m + 3)) k) (by first | rw [zOk, if_pos h32] | rw [zOk, if_neg h32, if_pos h53] | rw [zOk, if_neg h32, if_neg h53, if_pos h75, if_pos h85] | rw [zOk, if_neg h32, if_neg h53, if_pos h75, if_neg h85] | rw [zOk, if_neg h32, if_neg h53, if_neg h75, if_pos h85] | rw [zOk, if_neg h32, if_neg h53, if_neg h75, if_neg h85]) ?_
        refine j_istore_n C dX10_isRight_93 (by rw [hxn]; decide) ?_
        refine j_aload_n C dX10_isRight_94 rfl ?_
        refine j_iload_n C dX10_isRight_95 rfl ?_
        refine j_if_eq C 103 dX10_isRight_96 (by decide) (fun h96 => ?_) (fun h96 => ?_)
        · skip
          refine j_iconst C (nI 1) dX10_isRight_103 (by decide) ?_
          refine j_putI C fl_X10_67 (by assumption) dX10_isRight_104 (by decide) rfl (rfl) (rfl) ?_
          rw [mSp_r]
          refine j_iload_n C dX10_isRight_107 rfl ?_
          refine j_if_eq C 120 dX10_isRight_108 (by decide) (fun h108 => ?_) (fun h108 => ?_)
          · skip
            refine j_iconst C (nI 0) dX10_isRight_120 (by decide) ?_
            exact j_ireturn C E dX10_isRight_121 ((by first | exact nb0 | exact nb1)) (by decide) (by decide) (by first | exact absurd h96 h108 | exact absurd h108 h96 | (have e9 := zRight_at hk hl30 (zWr_1 h96) hI; rw [if_pos h96] at e9; exact ⟨by rw [e9.1], rfl, e9.2.symm, rfl⟩) | (have e9 := zRight_at hk hl30 (zWr_2 h117) hI; rw [if_neg h96] at e9; exact ⟨by rw [e9.1], rfl, e9.2.symm, rfl⟩))
          · skip
            refine j_aload_n C dX10_isRight_111 rfl ?_
            refine j_getI C fl_X10_61 (by assumption) dX10_isRight_112 (by decide) rfl ?_
            refine j_top (nI k) (mSp_5 _ _ _ _) ?_
            refine j_bipush C (nI 15) dX10_isRight_115 (by decide) ?_
            refine j_icmp_ne C 122 dX10_isRight_117 (by decide) (fun h117 => ?_) (fun h117 => ?_)
            · skip
              refine j_aload_n C dX10_isRight_122 rfl ?_
              refine j_dup C dX10_isRight_123 rfl ?_
              refine j_getI C fl_X10_61 (by assumption) dX10_isRight_124 (by decide) rfl ?_
              refine j_top (nI k) (mSp_5 _ _ _ _) ?_
              refine j_iconst C (nI 1) dX10_isRight_127 (by decide) ?_
              first | with_reducible refine j_iaddN C dX10_isRight_128 ?_ | refine j_iadd C dX10_isRight_128 ?_
              refine j_putI C fl_X10_61 (by assumption) dX10_isRight_129 (by decide) rfl (rfl) (rfl) ?_
              rw [mSp_s]
              refine j_goto C 5 dX10_isRight_132 (by decide) ?_
              first | exact absurd h96 h108 | exact absurd h108 h96 | (refine j_locs [0] rfl ?_; exact ih (lt_s hI (zWr_f h96 h117)))
            · skip
              refine j_iconst C (nI 0) dX10_isRight_120 (by decide) ?_
              exact j_ireturn C E dX10_isRight_121 ((by first | exact nb0 | exact nb1)) (by decide) (by decide) (by first | exact absurd h96 h108 | exact absurd h108 h96 | (have e9 := zRight_at hk hl30 (zWr_1 h96) hI; rw [if_pos h96] at e9; exact ⟨by rw [e9.1], rfl, e9.2.symm, rfl⟩) | (have e9 := zRight_at hk hl30 (zWr_2 h117) hI; rw [if_neg h96] at e9; exact ⟨by rw [e9.1], rfl, e9.2.symm, rfl⟩))
        · skip
          refine j_iconst C (nI 2) dX10_isRight_99 (by decide) ?_
          refine j_goto C 104 dX10_isRight_100 (by decide) ?_
          refine j_putI C fl_X10_67 (by assumption) dX10_isRight_104 (by decide) rfl (rfl) (rfl) ?_
          rw [mSp_r]
          refine j_iload_n C dX10_isRight_107 rfl ?_
          refine j_if_eq C 120 dX10_isRight_108 (by decide) (fun h108 => ?_) (fun h108 => ?_)
          · skip
            refine j_iconst C (nI 0) dX10_isRight_120 (by decide) ?_
            exact j_ireturn C E dX10_isRight_121 ((by first | exact nb0 | exact nb1)) (by decide) (by decide) (by first | exact absurd h96 h108 | exact absurd h108 h96 | (have e9 := zRight_at hk hl30 (zWr_1 h96) hI; rw [if_pos h96] at e9; exact ⟨by rw [e9.1], rfl, e9.2.symm, rfl⟩) | (have e9 := zRight_at hk hl30 (zWr_2 h117) hI; rw [if_neg h96] at e9; exact ⟨by rw [e9.1], rfl, e9.2.symm, rfl⟩))
          · skip
            refine j_aload_n C dX10_isRight_111 rfl ?_
            refine j_getI C fl_X10_61 (by assumption) dX10_isRight_112 (by decide) rfl ?_
            refine j_top (nI k) (mSp_5 _ _ _ _) ?_
            refine j_bipush C (nI 15) dX10_isRight_115 (by decide) ?_
            refine j_icmp_ne C 122 dX10_isRight_117 (by decide) (fun h117 => ?_) (fun h117 => ?_)
            · skip
              refine j_aload_n C dX10_isRight_122 rfl ?_
              refine j_dup C dX10_isRight_123 rfl ?_
              refine j_getI C fl_X10_61 (by assumption) dX10_isRight_124 (by decide) rfl ?_
              refine j_top (nI k) (mSp_5 _ _ _ _) ?_
              refine j_iconst C (nI 1) dX10_isRight_127 (by decide) ?_
              first | with_reducible refine j_iaddN C dX10_isRight_128 ?_ | refine j_iadd C dX10_isRight_128 ?_
              refine j_putI C fl_X10_61 (by assumption) dX10_isRight_129 (by decide) rfl (rfl) (rfl) ?_
              rw [mSp_s]
              refine j_goto C 5 dX10_isRight_132 (by decide) ?_
              first | exact absurd h96 h108 | exact absurd h108 h96 | (refine j_locs [0] rfl ?_; exact ih (lt_s hI (zWr_f h96 h117)))
            · skip
              refine j_iconst C (nI 0) dX10_isRight_120 (by decide) ?_
              exact j_ireturn C E dX10_isRight_121 ((by first | exact nb0 | exact nb1)) (by decide) (by decide) (by first | exact absurd h96 h108 | exact absurd h108 h96 | (have e9 := zRight_at hk hl30 (zWr_1 h96) hI; rw [if_pos h96] at e9; exact ⟨by rw [e9.1], rfl, e9.2.symm, rfl⟩) | (have e9 := zRight_at hk hl30 (zWr_2 h117) hI; rw [if_neg h96] at e9; exact ⟨by rw [e9.1], rfl, e9.2.symm, rfl⟩))
    · skip
      refine j_iload_n C dX10_isRight_35 rfl ?_
      refine j_bipush C (nI 97) dX10_isRight_36 (by decide) ?_
      refine j_bipush C (nI 100) dX10_isRight_38 (by decide) ?_
      refine j_cSi C (c_X10_in _ _ _ _ _ _ _ _) yc_X10_in mn_X10_26 st_X10_in dX10_isRight_40 rfl rfl (Nat.le_of_ble_eq_true rfl) (by decide) ?_
      refine j_goto C 93 dX10_isRight_43 (by decide) ?_
      refine j_top (zOk (M (m + 3)) k) (by first | rw [zOk, if_pos h32] | rw [zOk, if_neg h32, if_pos h53] | rw [zOk, if_neg h32, if_neg h53, if_pos h75, if_pos h85] | rw [zOk, if_neg h32, if_neg h53, if_pos h75, if_neg h85] | rw [zOk, if_neg h32, if_neg h53, if_neg h75, if_pos h85] | rw [zOk, if_neg h32, if_neg h53, if_neg h75, if_neg h85]) ?_
      refine j_istore_n C dX10_isRight_93 (by rw [hxn]; decide) ?_
      refine j_aload_n C dX10_isRight_94 rfl ?_
      refine j_iload_n C dX10_isRight_95 rfl ?_
      refine j_if_eq C 103 dX10_isRight_96 (by decide) (fun h96 => ?_) (fun h96 => ?_)
      · skip
        refine j_iconst C (nI 1) dX10_isRight_103 (by decide) ?_
        refine j_putI C fl_X10_67 (by assumption) dX10_isRight_104 (by decide) rfl (rfl) (rfl) ?_
        rw [mSp_r]
        refine j_iload_n C dX10_isRight_107 rfl ?_
        refine j_if_eq C 120 dX10_isRight_108 (by decide) (fun h108 => ?_) (fun h108 => ?_)
        · skip
          refine j_iconst C (nI 0) dX10_isRight_120 (by decide) ?_
          exact j_ireturn C E dX10_isRight_121 ((by first | exact nb0 | exact nb1)) (by decide) (by decide) (by first | exact absurd h96 h108 | exact absurd h108 h96 | (have e9 := zRight_at hk hl30 (zWr_1 h96) hI; rw [if_pos h96] at e9; exact ⟨by rw [e9.1], rfl, e9.2.symm, rfl⟩) | (have e9 := zRight_at hk hl30 (zWr_2 h117) hI; rw [if_neg h96] at e9; exact ⟨by rw [e9.1], rfl, e9.2.symm, rfl⟩))
        · skip
          refine j_aload_n C dX10_isRight_111 rfl ?_
          refine j_getI C fl_X10_61 (by assumption) dX10_isRight_112 (by decide) rfl ?_
          refine j_top (nI k) (mSp_5 _ _ _ _) ?_
          refine j_bipush C (nI 15) dX10_isRight_115 (by decide) ?_
          refine j_icmp_ne C 122 dX10_isRight_117 (by decide) (fun h117 => ?_) (fun h117 => ?_)
          · skip
            refine j_aload_n C dX10_isRight_122 rfl ?_
            refine j_dup C dX10_isRight_123 rfl ?_
            refine j_getI C fl_X10_61 (by assumption) dX10_isRight_124 (by decide) rfl ?_
            refine j_top (nI k) (mSp_5 _ _ _ _) ?_
            refine j_iconst C (nI 1) dX10_isRight_127 (by decide) ?_
            first | with_reducible refine j_iaddN C dX10_isRight_128 ?_ | refine j_iadd C dX10_isRight_128 ?_
            refine j_putI C fl_X10_61 (by assumption) dX10_isRight_129 (by decide) rfl (rfl) (rfl) ?_
            rw [mSp_s]
            refine j_goto C 5 dX10_isRight_132 (by decide) ?_
            first | exact absurd h96 h108 | exact absurd h108 h96 | (refine j_locs [0] rfl ?_; exact ih (lt_s hI (zWr_f h96 h117)))
          · skip
            refine j_iconst C (nI 0) dX10_isRight_120 (by decide) ?_
            exact j_ireturn C E dX10_isRight_121 ((by first | exact nb0 | exact nb1)) (by decide) (by decide) (by first | exact absurd h96 h108 | exact absurd h108 h96 | (have e9 := zRight_at hk hl30 (zWr_1 h96) hI; rw [if_pos h96] at e9; exact ⟨by rw [e9.1], rfl, e9.2.symm, rfl⟩) | (have e9 := zRight_at hk hl30 (zWr_2 h117) hI; rw [if_neg h96] at e9; exact ⟨by rw [e9.1], rfl, e9.2.symm, rfl⟩))
      · skip
        refine j_iconst C (nI 2) dX10_isRight_99 (by decide) ?_
        refine j_goto C 104 dX10_isRight_100 (by decide) ?_
        refine j_putI C fl_X10_67 (by assumption) dX10_isRight_104 (by decide) rfl (rfl) (rfl) ?_
        rw [mSp_r]
        refine j_iload_n C dX10_isRight_107 rfl ?_
        refine j_if_eq C 120 dX10_isRight_108 (by decide) (fun h108 => ?_) (fun h108 => ?_)
        · skip
          refine j_iconst C (nI 0) dX10_isRight_120 (by decide) ?_
          exact j_ireturn C E dX10_isRight_121 ((by first | exact nb0 | exact nb1)) (by decide) (by decide) (by first | exact absurd h96 h108 | exact absurd h108 h96 | (have e9 := zRight_at hk hl30 (zWr_1 h96) hI; rw [if_pos h96] at e9; exact ⟨by rw [e9.1], rfl, e9.2.symm, rfl⟩) | (have e9 := zRight_at hk hl30 (zWr_2 h117) hI; rw [if_neg h96] at e9; exact ⟨by rw [e9.1], rfl, e9.2.symm, rfl⟩))
        · skip
          refine j_aload_n C dX10_isRight_111 rfl ?_
          refine j_getI C fl_X10_61 (by assumption) dX10_isRight_112 (by decide) rfl ?_
          refine j_top (nI k) (mSp_5 _ _ _ _) ?_
          refine j_bipush C (nI 15) dX10_isRight_115 (by decide) ?_
          refine j_icmp_ne C 122 dX10_isRight_117 (by decide) (fun h117 => ?_) (fun h117 => ?_)
          · skip
            refine j_aload_n C dX10_isRight_122 rfl ?_
            refine j_dup C dX10_isRight_123 rfl ?_
            refine j_getI C fl_X10_61 (by assumption) dX10_isRight_124 (by decide) rfl ?_
            refine j_top (nI k) (mSp_5 _ _ _ _) ?_
            refine j_iconst C (nI 1) dX10_isRight_127 (by decide) ?_
            first | with_reducible refine j_iaddN C dX10_isRight_128 ?_ | refine j_iadd C dX10_isRight_128 ?_
            refine j_putI C fl_X10_61 (by assumption) dX10_isRight_129 (by decide) rfl (rfl) (rfl) ?_
            rw [mSp_s]
            refine j_goto C 5 dX10_isRight_132 (by decide) ?_
            first | exact absurd h96 h108 | exact absurd h108 h96 | (refine j_locs [0] rfl ?_; exact ih (lt_s hI (zWr_f h96 h117)))
          · skip
            refine j_iconst C (nI 0) dX10_isRight_120 (by decide) ?_
            exact j_ireturn C E dX10_isRight_121 ((by first | exact nb0 | exact nb1)) (by decide) (by decide) (by first | exact absurd h96 h108 | exact absurd h108 h96 | (have e9 := zRight_at hk hl30 (zWr_1 h96) hI; rw [if_pos h96] at e9; exact ⟨by rw [e9.1], rfl, e9.2.symm, rfl⟩) | (have e9 := zRight_at hk hl30 (zWr_2 h117) hI; rw [if_neg h96] at e9; exact ⟨by rw [e9.1], rfl, e9.2.symm, rfl⟩))
  · skip
    refine j_aload_n C dX10_isRight_5 rfl ?_
    refine j_getI C fl_X10_61 (by assumption) dX10_isRight_6 (by decide) rfl ?_
    refine j_top (nI len) (mSp_5 _ _ _ _) ?_
    refine j_aload_n C dX10_isRight_9 rfl ?_
    refine j_getI C fl_X10_64 (by assumption) dX10_isRight_10 (by decide) rfl ?_
    refine j_top (nI len) (by rw [mSp_k _ _ _ _ (by decide)]; exact hl) ?_
    refine j_icmp_ge C 135 dX10_isRight_13 (by decide) (fun _ => ?_) (fun h => absurd (Int32.le_refl _) h)
    refine j_aload_n C dX10_isRight_135 rfl ?_
    refine j_iconst C (nI 1) dX10_isRight_136 (by decide) ?_
    refine j_putI C fl_X10_67 (by assumption) dX10_isRight_137 (by decide) rfl (rfl) (rfl) ?_
    rw [mSp_r]
    refine j_aload_n C dX10_isRight_140 rfl ?_
    refine j_getI C fl_X10_64 (by assumption) dX10_isRight_141 (by decide) rfl ?_
    refine j_top (nI len) (by rw [mSp_k _ _ _ _ (by decide)]; exact hl) ?_
    refine j_iconst C (nI 4) dX10_isRight_144 (by decide) ?_
    refine j_irem C dX10_isRight_145 (by decide) ?_
    refine j_iconst C (nI 3) dX10_isRight_146 (by decide) ?_
    refine j_icmp_ne C 154 dX10_isRight_147 (by decide) (fun h147 => ?_) (fun h147 => ?_)
    · skip
      refine j_iconst C (nI 0) dX10_isRight_154 (by decide) ?_
      exact j_ireturn C E dX10_isRight_155 ((by first | exact nb0 | exact nb1)) (by decide) (by decide) (by have e9 := zRight_end (m := m) hI; first | (rw [if_pos h147] at e9; exact ⟨by rw [e9.1], rfl, e9.2.symm, rfl⟩) | (rw [if_neg h147] at e9; exact ⟨by rw [e9.1], rfl, e9.2.symm, rfl⟩))
    · skip
      refine j_iconst C (nI 1) dX10_isRight_150 (by decide) ?_
      refine j_goto C 155 dX10_isRight_151 (by decide) ?_
      exact j_ireturn C E dX10_isRight_155 ((by first | exact nb0 | exact nb1)) (by decide) (by decide) (by have e9 := zRight_end (m := m) hI; first | (rw [if_pos h147] at e9; exact ⟨by rw [e9.1], rfl, e9.2.symm, rfl⟩) | (rw [if_neg h147] at e9; exact ⟨by rw [e9.1], rfl, e9.2.symm, rfl⟩))

set_option maxHeartbeats 4000000 in
set_option maxRecDepth 100000 in
theorem c_X10_fault (l : Launch) (ω : jW) (γ : jG) (M : jM) (R : jR) {m : Nat} (g : gM ω γ m) {len : Nat} (hl : M m 4 = nI len) (hl30 : len ≤ 30) (w : Int32) : Ct l ω yX10_fault cX10_fault 2 (some .int) 3 0 0 [.ref m, .int w] γ M R (jx γ (some (.int (zfFault M m len w))) (zmFault M m len w) R) := by
  refine Ct_of (by decide) (Nat.le_of_ble_eq_true rfl) rfl (jcat_of rfl) ?_
  intro X C E hnm hxl hxn
  subst hxl
  have g9 := g
  obtain ⟨g0, g1, g2, g3, g4, g5, g6, g7, g8⟩ := g
  refine j_iload_n C dX10_fault_0 rfl ?_
  refine j_iconst C (nI 0) dX10_fault_1 (by decide) ?_
  refine j_iconst C (nI 1) dX10_fault_2 (by decide) ?_
  refine j_cSi C (c_X10_in _ _ _ _ _ _ _ _) yc_X10_in mn_X10_26 st_X10_in dX10_fault_3 rfl rfl (Nat.le_of_ble_eq_true rfl) (by decide) ?_
  refine j_if_ne C 11 dX10_fault_6 (by decide) (fun h6 => ?_) (fun h6 => ?_)
  · skip
    refine j_aload_n C dX10_fault_11 rfl ?_
    refine j_cVi C (c_X10_isRight _ _ _ _ _ (by assumption) (by assumption) (by assumption)) yc_X10_isRight mn_X10_81 im_X10_isRight se_X10_isRight rfl rfl dX10_fault_12 rfl rfl (by assumption) (by decide) (Nat.le_of_ble_eq_true rfl) (by decide) ?_
    refine j_if_eq C 23 dX10_fault_15 (by decide) (fun h15 => ?_) (fun h15 => ?_)
    · skip
      refine j_iload_n C dX10_fault_23 rfl ?_
      refine j_if_ne C 34 dX10_fault_24 (by decide) (fun h24 => ?_) (fun h24 => ?_)
      · skip
        refine j_aload_n C dX10_fault_34 rfl ?_
        refine j_getI C fl_X10_67 (by assumption) dX10_fault_35 (by decide) rfl ?_
        exact j_ireturn C E dX10_fault_38 (rfl) (by decide) (by decide) (⟨by simp only [zfFault, if_neg h6, if_pos h15, if_neg h24], rfl, by simp only [zmFault, if_neg h6, if_pos h15, if_neg h24], rfl⟩)
      · skip
        refine j_aload_n C dX10_fault_27 rfl ?_
        refine j_getI C fl_X10_61 (by assumption) dX10_fault_28 (by decide) rfl ?_
        refine j_goto C 38 dX10_fault_31 (by decide) ?_
        exact j_ireturn C E dX10_fault_38 (rfl) (by decide) (by decide) (⟨by simp only [zfFault, if_neg h6, if_pos h15, if_pos h24], rfl, by simp only [zmFault, if_neg h6, if_pos h15, if_pos h24], rfl⟩)
    · skip
      refine j_bipush C (-4) dX10_fault_18 (by decide) ?_
      refine j_goto C 38 dX10_fault_20 (by decide) ?_
      exact j_ireturn C E dX10_fault_38 (rfl) (by decide) (by decide) (⟨by simp only [zfFault, if_neg h6, if_neg h15], rfl, by simp only [zmFault, if_neg h6, if_neg h15], rfl⟩)
  · skip
    refine j_iconst C (-1) dX10_fault_9 (by decide) ?_
    exact j_ireturn C E dX10_fault_10 (rfl) (by decide) (by decide) (⟨by simp only [zfFault, if_pos h6], rfl, by simp only [zmFault, if_pos h6], rfl⟩)

set_option maxHeartbeats 4000000 in
set_option maxRecDepth 100000 in
theorem c_X10_statement (l : Launch) (ω : jW) (γ : jG) (M : jM) (R : jR) {m : Nat} (g : gM ω γ m) {len : Nat} (hl : M m 4 = nI len) (hl30 : len ≤ 30) {np : Nat} (hp : M m 2 = nI np) (hp4 : np ≤ 4) {c : Nat} (hc : M (m + 1) 3 = nI c) (hc6 : c ≤ 6) (hst : ∀ t, t < c → zSt (M (m + 1)) t (zN (M (m + 1)) t))  : Ct l ω yX10_statement cX10_statement 4 (some .int) 3 0 0 [.ref m] γ M R (jx γ (some (.int (zfStat M m len c))) (zmStat M m len c np) R) := by
  refine Ct_of (by decide) (Nat.le_of_ble_eq_true rfl) rfl (jcat_of rfl) ?_
  intro X C E hnm hxl hxn
  subst hxl
  have g9 := g
  obtain ⟨g0, g1, g2, g3, g4, g5, g6, g7, g8⟩ := g
  have z1 : ∀ b, b ≠ m → zmRight M m len b = M b := fun b hb => zmRight_o M hb
  have z2 : zmRight M m len m 2 = nI np := by rw [zmRight_k M (by decide)]; exact hp
  have z4 : zmRight M m len m 4 = nI len := by rw [zmRight_k M (by decide)]; exact hl
  have eS : mChg (zmRight M m len) m np (m + 1) = M (m + 1) := by rw [mChg_o _ (by omega) (by omega), z1 _ (by omega)]
  have eT : mChg (zmRight M m len) m np (m + 3) = M (m + 3) := by rw [mChg_o _ (by omega) (by omega), z1 _ (by omega)]
  have e4 : mChg (zmRight M m len) m np m 4 = nI len := by rw [mChg_k _ (by decide)]; exact z4
  refine j_aload_n C dX10_statement_0 rfl ?_
  refine j_cVi C (c_X10_isRight _ _ _ _ _ (by assumption) (by assumption) (by assumption)) yc_X10_isRight mn_X10_81 im_X10_isRight se_X10_isRight rfl rfl dX10_statement_1 rfl rfl (by assumption) (by decide) (Nat.le_of_ble_eq_true rfl) (by decide) ?_
  refine j_if_ne C 10 dX10_statement_4 (by decide) (fun h4 => ?_) (fun h4 => ?_)
  · skip
    refine j_iconst C (nI 0) dX10_statement_10 (by decide) ?_
    refine j_istore_n C dX10_statement_11 (by rw [hxn]; decide) ?_
    refine j_loop c (fun k => [(0, .ref m), (1, .int (nI k))]) (fun _ => zmRight M m len) (fun _ => R) (fun k => ∀ j, j < k → (zFnd (M (m + 1)) (M (m + 3)) (nI (len + 1) / nI 4)) j = false) (fun j hj => absurd hj (Nat.not_lt_zero j)) (fun k hk hI ih => ?_) (fun hI => ?_)
    · skip
      refine j_iload_n C dX10_statement_12 rfl ?_
      refine j_aload_n C dX10_statement_13 rfl ?_
      refine j_getR C fl_X10_7 (by assumption) dX10_statement_14 (by decide) rfl (by assumption) ?_
      refine j_iconst C (nI 3) dX10_statement_17 (by decide) ?_
      refine j_ialdN C (by assumption) dX10_statement_18 (by omega) (by decide) ?_
      refine j_top (nI c) (by rw [z1 _ (by omega)]; exact hc) ?_
      refine j_icmp_ge C 42 dX10_statement_19 (by decide) (fun h => absurd h (nI_ge hk (by omega))) (fun _ => ?_)
      refine j_aload_n C dX10_statement_22 rfl ?_
      refine j_iload_n C dX10_statement_23 rfl ?_
      refine j_cVi C (c_X10_isText _ ω γ (zmRight M m len) R g9 z4 hl30 (t := k) (n := zN (M (m + 1)) k) (by rw [z1 _ (by omega)]; exact hst k hk)) yc_X10_isText mn_X10_85 im_X10_isText se_X10_isText rfl rfl dX10_statement_24 rfl rfl (by assumption) (by decide) (Nat.le_of_ble_eq_true rfl) (by decide) ?_
      rw [z1 (m + 1) (by omega), z1 (m + 3) (by omega)]
      refine j_if_eq C 36 dX10_statement_27 (by decide) (fun h27 => ?_) (fun h27 => ?_)
      · skip
        first | refine j_iinc1 C dX10_statement_36 rfl (by rw [hxn]; decide) ?_ | refine j_iinc C _ dX10_statement_36 rfl rfl (by rw [hxn]; decide) ?_
        refine j_goto C 12 dX10_statement_39 (by decide) ?_
        exact ih (lt_s hI (by simp [zFnd, h27]))
      · skip
        have e9 : rFirst (zFnd (M (m + 1)) (M (m + 3)) (nI (len + 1) / nI 4)) c = nI k := rFirst_yes hk (by simp [zFnd, h27]) hI
        have e8 := rFirst_ne e9 (by omega)
        refine j_aload_n C dX10_statement_30 rfl ?_
        refine j_cVv C (c_X10_changes _ ω γ (zmRight M m len) R g9 z2 hp4) yc_X10_changes mn_X10_34 im_X10_changes se_X10_changes rfl rfl dX10_statement_31 rfl rfl (by assumption) (by decide) (Nat.le_of_ble_eq_true rfl) (by decide) ?_
        refine j_iload_n C dX10_statement_34 rfl ?_
        exact j_ireturn C E dX10_statement_35 (rfl) (by decide) (by decide) (⟨by rw [zfStat, if_neg h4, if_neg e8, e9], rfl, by rw [zmStat, if_neg h4, if_neg e8], rfl⟩)
    · skip
      have e8 : rFirst (zFnd (M (m + 1)) (M (m + 3)) (nI (len + 1) / nI 4)) c = -1 := rFirst_no hI
      refine j_iload_n C dX10_statement_12 rfl ?_
      refine j_aload_n C dX10_statement_13 rfl ?_
      refine j_getR C fl_X10_7 (by assumption) dX10_statement_14 (by decide) rfl (by assumption) ?_
      refine j_iconst C (nI 3) dX10_statement_17 (by decide) ?_
      refine j_ialdN C (by assumption) dX10_statement_18 (by omega) (by decide) ?_
      refine j_top (nI c) (by rw [z1 _ (by omega)]; exact hc) ?_
      refine j_icmp_ge C 42 dX10_statement_19 (by decide) (fun _ => ?_) (fun h => absurd (Int32.le_refl _) h)
      refine j_aload_n C dX10_statement_42 rfl ?_
      refine j_getR C fl_X10_7 (by assumption) dX10_statement_43 (by decide) rfl (by assumption) ?_
      refine j_iconst C (nI 3) dX10_statement_46 (by decide) ?_
      refine j_ialdN C (by assumption) dX10_statement_47 (by omega) (by decide) ?_
      refine j_top (nI c) (by rw [z1 _ (by omega)]; exact hc) ?_
      refine j_istore_n C dX10_statement_48 (by rw [hxn]; decide) ?_
      refine j_iload_n C dX10_statement_49 rfl ?_
      refine j_bipush C (nI 6) dX10_statement_50 (by decide) ?_
      refine j_icmp_ne C 58 dX10_statement_52 (by decide) (fun h52 => ?_) (fun h52 => ?_)
      · skip
        have hlt : c < 6 := by have h : ¬ c = 6 := fun q => h52 (by rw [q]); omega
        refine j_aload_n C dX10_statement_58 rfl ?_
        refine j_cVv C (c_X10_changes _ ω γ (zmRight M m len) R g9 z2 hp4) yc_X10_changes mn_X10_34 im_X10_changes se_X10_changes rfl rfl dX10_statement_59 rfl rfl (by assumption) (by decide) (Nat.le_of_ble_eq_true rfl) (by decide) ?_
        refine j_sipush C (nI 307) dX10_statement_62 (by decide) ?_
        refine j_bipush C (nI 10) dX10_statement_65 (by decide) ?_
        refine j_iload_n C dX10_statement_67 rfl ?_
        first | with_reducible refine j_imulN C dX10_statement_68 ?_ | refine j_imul C dX10_statement_68 ?_
        first | with_reducible refine j_iaddN C dX10_statement_69 ?_ | refine j_iadd C dX10_statement_69 ?_
        refine j_istore_n C dX10_statement_70 (by rw [hxn]; decide) ?_
        refine j_aload_n C dX10_statement_71 rfl ?_
        refine j_getR C fl_X10_7 (by assumption) dX10_statement_72 (by decide) rfl (by assumption) ?_
        refine j_iload_n C dX10_statement_75 rfl ?_
        refine j_aload_n C dX10_statement_76 rfl ?_
        refine j_getI C fl_X10_64 (by assumption) dX10_statement_77 (by decide) rfl ?_
        refine j_top (nI len) e4 ?_
        refine j_iconst C (nI 1) dX10_statement_80 (by decide) ?_
        first | with_reducible refine j_iaddN C dX10_statement_81 ?_ | refine j_iadd C dX10_statement_81 ?_
        refine j_iconst C (nI 4) dX10_statement_82 (by decide) ?_
        refine j_idiv C dX10_statement_83 (by decide) ?_
        refine j_iastN C (by assumption) dX10_statement_84 (by omega) (by decide) ?_
        refine j_iconst C (nI 0) dX10_statement_85 (by decide) ?_
        refine j_istore_n C dX10_statement_86 (by rw [hxn]; decide) ?_
        refine j_loop 4 (fun k => [(0, .ref m), (1, .int (nI c)), (2, .int (nI (307 + 10 * c))), (3, .int (nI k))]) (fun k => zNw (mChg (zmRight M m len) m np) m (307 + 10 * c) (nI (len + 1) / nI 4) k) (fun _ => R) (fun _ => True) trivial (fun k hk _ ih => ?_) (fun _ => ?_)
        · skip
          refine j_iload_n C dX10_statement_87 rfl ?_
          refine j_iconst C (nI 4) dX10_statement_88 (by decide) ?_
          refine j_icmp_ge C 158 dX10_statement_89 (by decide) (fun h => absurd h (nI_ge hk (by decide))) (fun _ => ?_)
          refine j_aload_n C dX10_statement_92 rfl ?_
          refine j_getR C fl_X10_7 (by assumption) dX10_statement_93 (by decide) rfl (by assumption) ?_
          refine j_iload_n C dX10_statement_96 rfl ?_
          refine j_iconst C (nI 1) dX10_statement_97 (by decide) ?_
          first | with_reducible refine j_iaddN C dX10_statement_98 ?_ | refine j_iadd C dX10_statement_98 ?_
          refine j_iload_n C dX10_statement_99 rfl ?_
          first | with_reducible refine j_iaddN C dX10_statement_100 ?_ | refine j_iadd C dX10_statement_100 ?_
          refine j_iload_n C dX10_statement_101 rfl ?_
          refine j_aload_n C dX10_statement_102 rfl ?_
          refine j_getR C fl_X10_7 (by assumption) dX10_statement_103 (by decide) rfl (by assumption) ?_
          refine j_iload_n C dX10_statement_106 rfl ?_
          refine j_ialdN C (by assumption) dX10_statement_107 (by omega) (by decide) ?_
          refine j_top (nI (len + 1) / nI 4) (zNw_q _ _) ?_
          refine j_icmp_ge C 120 dX10_statement_108 (by decide) (fun h108 => ?_) (fun h108 => ?_)
          · skip
            refine j_iconst C (nI 0) dX10_statement_120 (by decide) ?_
            refine j_top (if (nI (len + 1) / nI 4) ≤ nI k then nI 0 else zMt1 (mChg (zmRight M m len) m np (m + 3)) k) (by first | rw [if_pos h108] | rw [if_neg h108]) ?_
            refine j_iastN C (by assumption) dX10_statement_121 (by omega) (by decide) ?_
            refine j_aload_n C dX10_statement_122 rfl ?_
            refine j_getR C fl_X10_7 (by assumption) dX10_statement_123 (by decide) rfl (by assumption) ?_
            refine j_iload_n C dX10_statement_126 rfl ?_
            refine j_iconst C (nI 5) dX10_statement_127 (by decide) ?_
            first | with_reducible refine j_iaddN C dX10_statement_128 ?_ | refine j_iadd C dX10_statement_128 ?_
            refine j_iload_n C dX10_statement_129 rfl ?_
            first | with_reducible refine j_iaddN C dX10_statement_130 ?_ | refine j_iadd C dX10_statement_130 ?_
            refine j_iload_n C dX10_statement_131 rfl ?_
            refine j_aload_n C dX10_statement_132 rfl ?_
            refine j_getR C fl_X10_7 (by assumption) dX10_statement_133 (by decide) rfl (by assumption) ?_
            refine j_iload_n C dX10_statement_136 rfl ?_
            refine j_ialdN C (by assumption) dX10_statement_137 (by omega) (by decide) ?_
            refine j_top (nI (len + 1) / nI 4) (by rw [jup_nk _ _ (by omega)]; exact zNw_q _ _) ?_
            refine j_icmp_ge C 150 dX10_statement_138 (by decide) (fun h138 => ?_) (fun h138 => ?_)
            · skip
              refine j_iconst C (nI 0) dX10_statement_150 (by decide) ?_
              refine j_top (if (nI (len + 1) / nI 4) ≤ nI k then nI 0 else zMt0 (mChg (zmRight M m len) m np (m + 3)) k) (by first | rw [if_pos h138] | rw [if_neg h138]) ?_
              refine j_iastN C (by assumption) dX10_statement_151 (by omega) (by decide) ?_
              first | refine j_iinc1 C dX10_statement_152 rfl (by rw [hxn]; decide) ?_ | refine j_iinc C _ dX10_statement_152 rfl rfl (by rw [hxn]; decide) ?_
              refine j_goto C 87 dX10_statement_155 (by decide) ?_
              exact ih trivial
            · skip
              refine j_aload_n C dX10_statement_141 rfl ?_
              refine j_iload_n C dX10_statement_142 rfl ?_
              refine j_iconst C (nI 0) dX10_statement_143 (by decide) ?_
              refine j_cVi C (c_X10_meant0 _ ω γ _ R g9 (show k < 4 by omega)) yc_X10_meant mn_X10_74 im_X10_meant se_X10_meant rfl rfl dX10_statement_144 rfl rfl (by assumption) (by decide) (Nat.le_of_ble_eq_true rfl) (by decide) ?_
              rw [jup_row _ _ (by omega), zNw_o _ _ (by omega)]
              refine j_goto C 151 dX10_statement_147 (by decide) ?_
              refine j_top (if (nI (len + 1) / nI 4) ≤ nI k then nI 0 else zMt0 (mChg (zmRight M m len) m np (m + 3)) k) (by first | rw [if_pos h138] | rw [if_neg h138]) ?_
              refine j_iastN C (by assumption) dX10_statement_151 (by omega) (by decide) ?_
              first | refine j_iinc1 C dX10_statement_152 rfl (by rw [hxn]; decide) ?_ | refine j_iinc C _ dX10_statement_152 rfl rfl (by rw [hxn]; decide) ?_
              refine j_goto C 87 dX10_statement_155 (by decide) ?_
              exact ih trivial
          · skip
            refine j_aload_n C dX10_statement_111 rfl ?_
            refine j_iload_n C dX10_statement_112 rfl ?_
            refine j_iconst C (nI 1) dX10_statement_113 (by decide) ?_
            refine j_cVi C (c_X10_meant1 _ ω γ _ R g9 (show k < 4 by omega)) yc_X10_meant mn_X10_74 im_X10_meant se_X10_meant rfl rfl dX10_statement_114 rfl rfl (by assumption) (by decide) (Nat.le_of_ble_eq_true rfl) (by decide) ?_
            rw [zNw_o _ _ (by omega)]
            refine j_goto C 121 dX10_statement_117 (by decide) ?_
            refine j_top (if (nI (len + 1) / nI 4) ≤ nI k then nI 0 else zMt1 (mChg (zmRight M m len) m np (m + 3)) k) (by first | rw [if_pos h108] | rw [if_neg h108]) ?_
            refine j_iastN C (by assumption) dX10_statement_121 (by omega) (by decide) ?_
            refine j_aload_n C dX10_statement_122 rfl ?_
            refine j_getR C fl_X10_7 (by assumption) dX10_statement_123 (by decide) rfl (by assumption) ?_
            refine j_iload_n C dX10_statement_126 rfl ?_
            refine j_iconst C (nI 5) dX10_statement_127 (by decide) ?_
            first | with_reducible refine j_iaddN C dX10_statement_128 ?_ | refine j_iadd C dX10_statement_128 ?_
            refine j_iload_n C dX10_statement_129 rfl ?_
            first | with_reducible refine j_iaddN C dX10_statement_130 ?_ | refine j_iadd C dX10_statement_130 ?_
            refine j_iload_n C dX10_statement_131 rfl ?_
            refine j_aload_n C dX10_statement_132 rfl ?_
            refine j_getR C fl_X10_7 (by assumption) dX10_statement_133 (by decide) rfl (by assumption) ?_
            refine j_iload_n C dX10_statement_136 rfl ?_
            refine j_ialdN C (by assumption) dX10_statement_137 (by omega) (by decide) ?_
            refine j_top (nI (len + 1) / nI 4) (by rw [jup_nk _ _ (by omega)]; exact zNw_q _ _) ?_
            refine j_icmp_ge C 150 dX10_statement_138 (by decide) (fun h138 => ?_) (fun h138 => ?_)
            · skip
              refine j_iconst C (nI 0) dX10_statement_150 (by decide) ?_
              refine j_top (if (nI (len + 1) / nI 4) ≤ nI k then nI 0 else zMt0 (mChg (zmRight M m len) m np (m + 3)) k) (by first | rw [if_pos h138] | rw [if_neg h138]) ?_
              refine j_iastN C (by assumption) dX10_statement_151 (by omega) (by decide) ?_
              first | refine j_iinc1 C dX10_statement_152 rfl (by rw [hxn]; decide) ?_ | refine j_iinc C _ dX10_statement_152 rfl rfl (by rw [hxn]; decide) ?_
              refine j_goto C 87 dX10_statement_155 (by decide) ?_
              exact ih trivial
            · skip
              refine j_aload_n C dX10_statement_141 rfl ?_
              refine j_iload_n C dX10_statement_142 rfl ?_
              refine j_iconst C (nI 0) dX10_statement_143 (by decide) ?_
              refine j_cVi C (c_X10_meant0 _ ω γ _ R g9 (show k < 4 by omega)) yc_X10_meant mn_X10_74 im_X10_meant se_X10_meant rfl rfl dX10_statement_144 rfl rfl (by assumption) (by decide) (Nat.le_of_ble_eq_true rfl) (by decide) ?_
              rw [jup_row _ _ (by omega), zNw_o _ _ (by omega)]
              refine j_goto C 151 dX10_statement_147 (by decide) ?_
              refine j_top (if (nI (len + 1) / nI 4) ≤ nI k then nI 0 else zMt0 (mChg (zmRight M m len) m np (m + 3)) k) (by first | rw [if_pos h138] | rw [if_neg h138]) ?_
              refine j_iastN C (by assumption) dX10_statement_151 (by omega) (by decide) ?_
              first | refine j_iinc1 C dX10_statement_152 rfl (by rw [hxn]; decide) ?_ | refine j_iinc C _ dX10_statement_152 rfl rfl (by rw [hxn]; decide) ?_
              refine j_goto C 87 dX10_statement_155 (by decide) ?_
              exact ih trivial
        · skip
          refine j_iload_n C dX10_statement_87 rfl ?_
          refine j_iconst C (nI 4) dX10_statement_88 (by decide) ?_
          refine j_icmp_ge C 158 dX10_statement_89 (by decide) (fun _ => ?_) (fun h => absurd (Int32.le_refl _) h)
          refine j_aload_n C dX10_statement_158 rfl ?_
          refine j_getR C fl_X10_7 (by assumption) dX10_statement_159 (by decide) rfl (by assumption) ?_
          refine j_iload_n C dX10_statement_162 rfl ?_
          refine j_bipush C (nI 9) dX10_statement_163 (by decide) ?_
          first | with_reducible refine j_iaddN C dX10_statement_165 ?_ | refine j_iadd C dX10_statement_165 ?_
          refine j_iconst C (nI 0) dX10_statement_166 (by decide) ?_
          refine j_iastN C (by assumption) dX10_statement_167 (by omega) (by decide) ?_
          refine j_aload_n C dX10_statement_168 rfl ?_
          refine j_getR C fl_X10_7 (by assumption) dX10_statement_169 (by decide) rfl (by assumption) ?_
          refine j_iconst C (nI 3) dX10_statement_172 (by decide) ?_
          refine j_dup2 C dX10_statement_173 rfl rfl ?_
          refine j_ialdN C (by assumption) dX10_statement_174 (by omega) (by decide) ?_
          refine j_top (nI c) (by rw [jup_nk _ _ (by omega), zNw_a _ _ (by omega), eS]; exact hc) ?_
          refine j_iconst C (nI 1) dX10_statement_175 (by decide) ?_
          first | with_reducible refine j_iaddN C dX10_statement_176 ?_ | refine j_iadd C dX10_statement_176 ?_
          refine j_iastN C (by assumption) dX10_statement_177 (by omega) (by decide) ?_
          refine j_iload_n C dX10_statement_178 rfl ?_
          exact j_ireturn C E dX10_statement_179 (rfl) (by decide) (by decide) (⟨by rw [zfStat, if_neg h4, if_pos e8, if_neg h52], rfl, by rw [zmStat, if_neg h4, if_pos e8, if_neg h52]; rfl, rfl⟩)
      · skip
        refine j_bipush C (-3) dX10_statement_55 (by decide) ?_
        exact j_ireturn C E dX10_statement_57 (rfl) (by decide) (by decide) (⟨by rw [zfStat, if_neg h4, if_pos e8, if_pos h52], rfl, by rw [zmStat, if_neg h4, if_pos e8, if_pos h52], rfl⟩)
  · skip
    refine j_bipush C (-2) dX10_statement_7 (by decide) ?_
    exact j_ireturn C E dX10_statement_9 (rfl) (by decide) (by decide) (⟨by simp only [zfStat, if_pos h4], rfl, by simp only [zmStat, if_pos h4], rfl⟩)
