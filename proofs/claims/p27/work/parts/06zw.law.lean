/-! bits of numbers (pasted rows of the kit's starting text, then own) -/
theorem s_l : ∀ n, n < 32 → ((nI n &&& 31).toBitVec.smod 32).toNat = n := by decide +kernel
theorem nx_and (a b : Nat) : nI a &&& nI b = nI (a &&& b) := by
  apply Int32.toBitVec_inj.1
  show BitVec.ofNat 32 a &&& BitVec.ofNat 32 b = BitVec.ofNat 32 (a &&& b)
  apply BitVec.eq_of_getLsbD_eq
  intro i hi
  simp [hi]
theorem nx_xor (a b : Nat) : nI a ^^^ nI b = nI (a ^^^ b) := by
  apply Int32.toBitVec_inj.1
  show BitVec.ofNat 32 a ^^^ BitVec.ofNat 32 b = BitVec.ofNat 32 (a ^^^ b)
  apply BitVec.eq_of_getLsbD_eq
  intro i hi
  simp [hi]
theorem wb_tb (n : Nat) : (lN n).toBitVec = BitVec.ofNat 64 n := rfl
theorem wb_inj {a b : Int64} (h : a.toBitVec = b.toBitVec) : a = b := Int64.toBitVec_inj.mp h
theorem wb_tn {n : Nat} (h : n < 2 ^ 64) : (lN n).toBitVec.toNat = n := by rw [wb_tb, BitVec.toNat_ofNat, Nat.mod_eq_of_lt h]
theorem wb_of (x : Int64) : ∃ n, n < 2 ^ 64 ∧ x = lN n := ⟨x.toBitVec.toNat, x.toBitVec.isLt, wb_inj (by rw [wb_tb]; simp)⟩
theorem wb_of32 (x : Int32) : ∃ n, n < 2 ^ 32 ∧ x = nI n := ⟨x.toBitVec.toNat, x.toBitVec.isLt, Int32.toBitVec_inj.mp (by show _ = BitVec.ofNat 32 _; simp)⟩
theorem wb_c : ∀ k, k < 64 → ((nI k).toInt64 &&& 63) = lN k := by decide +kernel
theorem wb_cu : ∀ k, k < 64 → ((nI k).toInt64.toUInt64 &&& Int64.toUInt64 63) = UInt64.ofNat k := by decide +kernel
theorem wb_sm : ∀ k, k < 64 → (BitVec.ofNat 64 k).smod 64 = BitVec.ofNat 64 k := by decide +kernel
theorem wb_pw {a b : Nat} (h : a ≤ b) : 2 ^ b = 2 ^ a * 2 ^ (b - a) := by rw [← Nat.pow_add]; congr 1; omega
theorem wb_lt2 {a b : Nat} (h : a < b) : 2 ^ a < 2 ^ b := Nat.pow_lt_pow_right (by decide) h
theorem wb_mod (n : Nat) : lN n = lN (n % 2 ^ 64) := wb_inj (by rw [wb_tb, wb_tb]; apply BitVec.eq_of_toNat_eq; rw [BitVec.toNat_ofNat, BitVec.toNat_ofNat, Nat.mod_mod])
theorem wb_shr {n k : Nat} (hn : n < 2 ^ 64) (hk : k < 64) : ((lN n).toUInt64 >>> ((nI k).toInt64.toUInt64 &&& Int64.toUInt64 63)).toInt64 = lN (n / 2 ^ k) := by
  rw [wb_cu k hk]
  apply wb_inj
  apply BitVec.eq_of_toNat_eq
  show ((lN n).toUInt64 >>> UInt64.ofNat k).toNat = (BitVec.ofNat 64 _).toNat
  have h1 : (UInt64.ofNat k).toNat = k := by
    show (BitVec.ofNat 64 k).toNat = k
    rw [BitVec.toNat_ofNat, Nat.mod_eq_of_lt (by omega)]
  have h2 : (lN n).toUInt64.toNat = n := wb_tn hn
  rw [UInt64.toNat_shiftRight, h1, h2, Nat.mod_eq_of_lt hk, Nat.shiftRight_eq_div_pow, BitVec.toNat_ofNat, Nat.mod_eq_of_lt (Nat.lt_of_le_of_lt (Nat.div_le_self _ _) hn)]
theorem wb_shl (n : Nat) {k : Nat} (hk : k < 64) : lN n <<< ((nI k).toInt64 &&& 63) = lN (n * 2 ^ k) := by
  rw [wb_c k hk]
  apply wb_inj
  rw [Int64.toBitVec_shiftLeft, wb_tb, wb_tb, wb_tb, wb_sm k hk]
  apply BitVec.eq_of_toNat_eq
  rw [BitVec.shiftLeft_eq', BitVec.toNat_shiftLeft, BitVec.toNat_ofNat, BitVec.toNat_ofNat, BitVec.toNat_ofNat, Nat.mod_eq_of_lt (show k < 2 ^ 64 by omega), Nat.shiftLeft_eq, Nat.mul_mod, Nat.mod_mod, ← Nat.mul_mod]
theorem wb_and {a b : Nat} (ha : a < 2 ^ 64) (hb : b < 2 ^ 64) : lN a &&& lN b = lN (a &&& b) := by
  apply wb_inj
  rw [Int64.toBitVec_and, wb_tb, wb_tb, wb_tb]
  apply BitVec.eq_of_toNat_eq
  rw [BitVec.toNat_and, BitVec.toNat_ofNat, BitVec.toNat_ofNat, BitVec.toNat_ofNat, Nat.mod_eq_of_lt ha, Nat.mod_eq_of_lt hb, Nat.mod_eq_of_lt (Nat.and_lt_two_pow _ hb)]
theorem wb_or {a b : Nat} (ha : a < 2 ^ 64) (hb : b < 2 ^ 64) : lN a ||| lN b = lN (a ||| b) := by
  apply wb_inj
  rw [Int64.toBitVec_or, wb_tb, wb_tb, wb_tb]
  apply BitVec.eq_of_toNat_eq
  rw [BitVec.toNat_or, BitVec.toNat_ofNat, BitVec.toNat_ofNat, BitVec.toNat_ofNat, Nat.mod_eq_of_lt ha, Nat.mod_eq_of_lt hb, Nat.mod_eq_of_lt (Nat.or_lt_two_pow ha hb)]
theorem wb_mask {n k : Nat} (hn : n < 2 ^ 64) (hk : k < 64) : lN n &&& lN (2 ^ k - 1) = lN (n % 2 ^ k) := by
  rw [wb_and hn (by have := wb_lt2 hk; omega), Nat.and_two_pow_sub_one_eq_mod]
theorem pf_lI {a : Nat} (h : a < 2 ^ 63) : (lN a).toInt = (a : Int) := lg_ofNat_toInt h
theorem pf_shr {a d : Nat} {D : Int64} (hD : (D.toBitVec.smod 64).toNat = d) (h : a < 2 ^ 62) : lN a >>> D = lN (a / 2 ^ d) := by
  have hd : a / 2 ^ d ≤ a := Nat.div_le_self _ _
  apply Int64.toInt_inj.mp
  have e : (lN a >>> D).toInt = (lN a).toInt >>> d := by
    rw [← hD]
    exact BitVec.toInt_sshiftRight ..
  rw [e, Int.shiftRight_eq_div_pow, pf_lI (by omega), pf_lI (by omega)]
  rfl
theorem lx_shrD {a d : Nat} {D : Int32} (hD : (D.toBitVec.smod 32).toNat = d) (h : a < 2 ^ 31) : nI a >>> D = nI (a / 2 ^ d) := by
  have hd : a / 2 ^ d ≤ a := Nat.div_le_self _ _
  apply Int32.toInt_inj.mp
  have e : (nI a >>> D).toInt = (nI a).toInt >>> d := by
    rw [← hD]
    exact BitVec.toInt_sshiftRight ..
  rw [e, Int.shiftRight_eq_div_pow, nI_toInt h, nI_toInt (by omega)]
  rfl
theorem lx_shr {a k : Nat} (h : a < 2 ^ 31) (hk : k < 32) : nI a >>> (nI k &&& 31) = nI (a / 2 ^ k) := lx_shrD (s_l k hk) h
theorem lx_m5 (a : Nat) : nI a &&& nI 31 = nI (a % 32) := by rw [nx_and, show 31 = 2 ^ 5 - 1 from rfl, Nat.and_two_pow_sub_one_eq_mod]
theorem lx_m1 (a : Nat) : nI a &&& nI 1 = nI (a % 2) := by rw [nx_and, show 1 = 2 ^ 1 - 1 from rfl, Nat.and_two_pow_sub_one_eq_mod]
theorem lx_m31 (x : Int32) : ∃ a, a < 2 ^ 31 ∧ x &&& 2147483647 = nI a := by
  obtain ⟨n, hn, rfl⟩ := wb_of32 x
  refine ⟨n % 2 ^ 31, Nat.mod_lt _ (by decide), ?_⟩
  rw [show (2147483647 : Int32) = nI (2 ^ 31 - 1) by decide, nx_and, Nat.and_two_pow_sub_one_eq_mod]
theorem jlg_N {a b : Nat} (ha : a < 2 ^ 32) : jlg (nI a) (nI b) = lN (a + 2 ^ 32 * (b % 2 ^ 32)) := by
  apply wb_inj
  show (BitVec.ofNat 32 b ++ BitVec.ofNat 32 a : BitVec 64) = BitVec.ofNat 64 _
  apply BitVec.eq_of_toNat_eq
  rw [BitVec.toNat_append, BitVec.toNat_ofNat, BitVec.toNat_ofNat, BitVec.toNat_ofNat, Nat.mod_eq_of_lt ha, ← Nat.shiftLeft_add_eq_or_of_lt ha, Nat.shiftLeft_eq]
  have : b % 2 ^ 32 < 2 ^ 32 := Nat.mod_lt _ (by decide)
  omega
/-- the halves of a long -/
def jLo (x : Int64) : Int32 := nI (x.toBitVec.toNat % 2 ^ 32)
def jHi (x : Int64) : Int32 := nI (x.toBitVec.toNat / 2 ^ 32)
theorem jlg_eta (x : Int64) : jlg (jLo x) (jHi x) = x := by
  have hx := x.toBitVec.isLt
  unfold jLo jHi
  rw [jlg_N (Nat.mod_lt _ (by decide)), Nat.mod_eq_of_lt (show x.toBitVec.toNat / 2 ^ 32 < 2 ^ 32 by omega)]
  apply wb_inj
  rw [wb_tb]
  apply BitVec.eq_of_toNat_eq
  rw [BitVec.toNat_ofNat]
  omega
theorem jLo_N {a b : Nat} (ha : a < 2 ^ 31) (hb : b < 2 ^ 31) : jLo (lN (a + 2 ^ 32 * b)) = nI a := by
  unfold jLo
  rw [wb_tn (by omega)]
  congr 1
  omega
theorem jHi_N {a b : Nat} (ha : a < 2 ^ 31) (hb : b < 2 ^ 31) : jHi (lN (a + 2 ^ 32 * b)) = nI b := by
  unfold jHi
  rw [wb_tn (by omega)]
  congr 1
  omega
theorem lx_lsh {n k : Nat} (hk : k < 64) (h : n < 2 ^ 62) : lN n >>> ((nI k).toInt64 &&& 63) = lN (n / 2 ^ k) := by
  rw [wb_c k hk]
  refine pf_shr ?_ h
  rw [wb_tb, wb_sm k hk, BitVec.toNat_ofNat, Nat.mod_eq_of_lt (by omega)]
section LX
variable {X : jX} {ω : jW} {γ : jG} {M : jM} {R : jR} {cells slots pc : Nat} {l : List (Nat × Value)} {rest : List Value} {cc : ByteArray} {own : String} {dd mc ms : Nat}
/-- what stands beyond the pool is nobody's -/
theorem j_ghost (M' : jM) (h : ∀ x, x < jlo ω + jn γ → M' x = M x) (k : J X ω γ M' R cells slots pc l rest) : J X ω γ M R cells slots pc l rest := by
  have e : jpool ω γ M R = jpool ω γ M' R := by
    unfold jpool jpl va_pl
    refine List.map_congr_left (fun b hb => ?_)
    rw [List.mem_range'_1] at hb
    simp only [jcell, h b hb.2]
  intro H locs ls hz hP hS hl hg
  exact k H locs ls hz (e ▸ hP) hS hl hg
theorem j_ldc (C : jC X ω cc own dd mc ms) {index : Nat} {v : Int32} (hk : Cond.constant own index v ∈ TBL) (hd : decode cc pc = .ok (.ldc index, 2)) (k : J X ω γ M R cells slots (pc + 2) l (.int v :: rest)) : J X ω γ M R cells slots pc l rest := by
  intro H locs ls hz hP hS hl hg
  exact lv_ldc C.ex C.cd C.ow (C.ts _ hk) hd (k H locs ls hz hP hS hl hg)
theorem j_ldc2 (C : jC X ω cc own dd mc ms) {index : Nat} {v : Int64} (hk : Cond.constantLong own index v ∈ TBL) (hd : decode cc pc = .ok (.ldc2_w index, 3)) (k : J X ω γ M R cells slots (pc + 3) l (.long v :: rest)) : J X ω γ M R cells slots pc l rest := by
  intro H locs ls hz hP hS hl hg
  exact lv_ldc2 C.ex C.cd C.ow (C.ts _ hk) hd (k H locs ls hz hP hS hl hg)
theorem j_lconst (C : jC X ω cc own dd mc ms) {n : Fin 2} (v : Int64) (hd : decode cc pc = .ok (.lconst n, 1)) (hv : Int64.ofNat (n : Nat) = v) (k : J X ω γ M R cells slots (pc + 1) l (.long v :: rest)) : J X ω γ M R cells slots pc l rest := by
  intro H locs ls hz hP hS hl hg
  exact lv_lconst C.ex C.cd hd hv (k H locs ls hz hP hS hl hg)
theorem j_ladd (C : jC X ω cc own dd mc ms) {x y : Int64} (hd : decode cc pc = .ok (.ladd, 1)) (k : J X ω γ M R cells slots (pc + 1) l (.long (x + y) :: rest)) : J X ω γ M R cells slots pc l (.long y :: .long x :: rest) := by
  intro H locs ls hz hP hS hl hg
  exact lv_ladd C.ex C.cd hd (k H locs ls hz hP hS hl hg)
theorem j_land (C : jC X ω cc own dd mc ms) {x y : Int64} (hd : decode cc pc = .ok (.land, 1)) (k : J X ω γ M R cells slots (pc + 1) l (.long (x &&& y) :: rest)) : J X ω γ M R cells slots pc l (.long y :: .long x :: rest) := by
  intro H locs ls hz hP hS hl hg
  exact lv_land C.ex C.cd hd (k H locs ls hz hP hS hl hg)
theorem j_i2l (C : jC X ω cc own dd mc ms) {x : Int32} (v : Int64) (hv : x.toInt64 = v) (hd : decode cc pc = .ok (.i2l, 1)) (k : J X ω γ M R cells slots (pc + 1) l (.long v :: rest)) : J X ω γ M R cells slots pc l (.int x :: rest) := by
  intro H locs ls hz hP hS hl hg
  exact lv_i2l C.ex C.cd hd hv (k H locs ls hz hP hS hl hg)
theorem j_l2i (C : jC X ω cc own dd mc ms) {x : Int64} (v : Int32) (hv : x.toInt32 = v) (hd : decode cc pc = .ok (.l2i, 1)) (k : J X ω γ M R cells slots (pc + 1) l (.int v :: rest)) : J X ω γ M R cells slots pc l (.long x :: rest) := by
  intro H locs ls hz hP hS hl hg
  exact lv_l2i C.ex C.cd hd hv (k H locs ls hz hP hS hl hg)
theorem j_lshl (C : jC X ω cc own dd mc ms) {x : Int64} {y : Int32} (v : Int64) (hv : x <<< (y.toInt64 &&& 63) = v) (hd : decode cc pc = .ok (.lshl, 1)) (k : J X ω γ M R cells slots (pc + 1) l (.long v :: rest)) : J X ω γ M R cells slots pc l (.int y :: .long x :: rest) := by
  intro H locs ls hz hP hS hl hg
  exact lv_lshl C.ex C.cd hd hv (k H locs ls hz hP hS hl hg)
theorem j_lshr (C : jC X ω cc own dd mc ms) {x : Int64} {y : Int32} (v : Int64) (hv : x >>> (y.toInt64 &&& 63) = v) (hd : decode cc pc = .ok (.lshr, 1)) (k : J X ω γ M R cells slots (pc + 1) l (.long v :: rest)) : J X ω γ M R cells slots pc l (.int y :: .long x :: rest) := by
  intro H locs ls hz hP hS hl hg
  exact lv_lshr C.ex C.cd hd hv (k H locs ls hz hP hS hl hg)
theorem j_topl {x : Int64} (y : Int64) (h : x = y) (k : J X ω γ M R cells slots pc l (.long y :: rest)) : J X ω γ M R cells slots pc l (.long x :: rest) := h ▸ k
theorem j_lald (C : jC X ω cc own dd mc ms) {a n i : Nat} (hA : jArr ω γ a 16 n) (hin : i < n) (hn : n < 2 ^ 31) (hd : decode cc pc = .ok (.laload, 1))
    (kk : J X ω γ M R cells slots (pc + 1) l (.long (jlg (M a (2 * i)) (M a (2 * i + 1))) :: rest)) : J X ω γ M R cells slots pc l (.int (nI i) :: .ref a :: rest) := by
  obtain ⟨⟨h1, h2, h3⟩, rfl⟩ := hA
  intro H locs ls hz hP hS hl hg
  refine va_lald C.ex C.cd C.kk hP (a - jlo ω) 5 (by rw [jpl_get h1 h2, jcell_L h3]) rfl (vp_in_nI hin hn) hd ?_
  rw [nI_clamp (by omega)]
  exact kk H locs ls hz hP hS hl hg
/-- a long's two halves are written -/
def jupL (M : jM) (a i : Nat) (x : Int64) : jM := jup (jup M a (2 * i) (jLo x)) a (2 * i + 1) (jHi x)
theorem jcell_upL {a i : Nat} {x : Int64} : ∀ b, b ≠ a → jcell ω γ (jupL M a i x) R b = jcell ω γ M R b := by
  intro b hb
  simp only [jcell, jupL, jup_row _ _ hb]
theorem j_last (C : jC X ω cc own dd mc ms) {a n i : Nat} {x : Int64} (hA : jArr ω γ a 16 n) (hin : i < n) (hn : n < 2 ^ 31) (hd : decode cc pc = .ok (.lastore, 1))
    (kk : J X ω γ (jupL M a i x) R cells slots (pc + 1) l rest) : J X ω γ M R cells slots pc l (.long x :: .int (nI i) :: .ref a :: rest) := by
  obtain ⟨⟨h1, h2, h3⟩, rfl⟩ := hA
  intro H locs ls hz hP hS hl hg
  have ha : (jpool ω γ M R)[a - jlo ω]? = some (a, .inl (ω.2.2.1 16, jL γ a, .inr (.inl (fun k => jlg (M a (2 * k)) (M a (2 * k + 1)))))) := by rw [jpl_get h1 h2, jcell_L h3]
  have hin' := vp_in_nI hin hn
  refine W.last C.ex C.cd (hP _ _ ha) ((C.kk.2 5 _ rfl).1 (jL γ a) (fun j => .long (jlg (M a (2 * j)) (M a (2 * j + 1))))) (fun q => by cases q) (by show ¬ (nI i < 0 ∨ (arrV _ _ _).slots.size ≤ _); rw [arrV_size]; exact hin') rfl rfl hd fun H1 e z oq => ?_
  rw [nI_clamp (by omega)] at e
  have hP' := hP.set (e := .inl (ω.2.2.1 16, jL γ a, .inr (.inl (fun k => jlg (jupL M a i x a (2 * k)) (jupL M a i x a (2 * k + 1)))))) jpl_D ha (by
    show H1[a]? = some (vp_cell _ _)
    rw [e, vp_cell_l, vp_cell_l, arrV_store]
    congr 2
    funext q
    by_cases hq : q = i
    · subst hq
      simp only [updV, if_true, jupL]
      rw [jup_nk _ _ (show 2 * q ≠ 2 * q + 1 by omega), jup_eq, jup_eq, jlg_eta]
    · simp only [updV, if_neg hq, jupL]
      rw [jup_nk _ _ (show 2 * q ≠ 2 * i + 1 by omega), jup_nk _ _ (show 2 * q ≠ 2 * i by omega), jup_nk _ _ (show 2 * q + 1 ≠ 2 * i + 1 by omega), jup_nk _ _ (show 2 * q + 1 ≠ 2 * i by omega)]) oq
  rw [jpl_set (g := jcell ω γ (jupL M a i x) R) h1 h2 jcell_upL (jcell_L h3)] at hP'
  rw [nI_clamp (by omega)]
  exact kk H1 _ ls (by rw [z, hz]) hP' (hS.put z oq h1) hl hg
theorem jcell_newL {kd len : Nat} (h1 : kd = 16) : jcell ω (jnew ω γ kd len) (jz M (jlo ω + jn γ) 0) (jz R (jlo ω + jn γ) none) (jlo ω + jn γ) = .inl (ω.2.2.1 kd, len, .inr (.inl (fun _ => 0))) := by
  subst h1
  have e1 : jK (jnew ω γ 16 len) (jlo ω + jn γ) = 16 := jva_up_self _ _ _
  have e2 : jL (jnew ω γ 16 len) (jlo ω + jn γ) = len := jva_up_self _ _ _
  rw [jcell_L e1, e2]
  simp only [jz_at]
  rfl
theorem j_newL (C : jC X ω cc own dd mc ms) {N : Nat} (harr : Cond.arrayClass .long ∈ TBL) (hN : N ≤ 10000) (hd : decode cc pc = .ok (.newarray .long, 2)) (hcs : cells + 1 ≤ mc ∧ slots + N ≤ ms)
    (kk : J X ω (jnew ω γ 16 N) (jz M (jlo ω + jn γ) 0) (jz R (jlo ω + jn γ) none) (cells + 1) (slots + N) (pc + 2) l (.ref (jlo ω + jn γ) :: rest)) : J X ω γ M R cells slots pc l (.int (nI N) :: rest) := by
  obtain ⟨-, -, r3, r4⟩ := C.rm
  intro H locs ls hz hP hS hlv hg
  refine va_newaK (atype := .long) (N := N) C.ex C.cd (C.ts _ harr) rfl hd rfl (nI_pos (by omega)) (nI_clamp (by omega)) (by show N * 8 ≤ _; omega) (by omega) (by omega) hz fun H1 cA e1 z1 o1 hAr hNm => ?_
  rw [← hz] at o1
  have hcA : cA = ω.2.2.1 16 := Option.some.inj (hNm.symm.trans (C.kk.2 5 _ rfl).2)
  subst hcA
  refine kk H1 locs ls (by rw [z1]; show _ = jlo ω + (jn γ + 1); omega) (jpool_new (e := .inl (ω.2.2.1 16, N, .inr (.inl (fun _ => 0)))) hz hP o1 e1 (jcell_newL rfl)) (vaS_new hS (by omega) o1) hlv hg
theorem j_idivN (C : jC X ω cc own dd mc ms) {x y : Nat} (hd : decode cc pc = .ok (.idiv, 1)) (hx : x < 2 ^ 31) (h0 : 0 < y) (hy : y < 2 ^ 31) (k : J X ω γ M R cells slots (pc + 1) l (.int (nI (x / y)) :: rest)) : J X ω γ M R cells slots pc l (.int (nI y) :: .int (nI x) :: rest) :=
  j_idiv C hd (nI_ne0 h0 hy) (by rw [pk_div hx h0 hy]; exact k)
theorem j_iremN (C : jC X ω cc own dd mc ms) {x y : Nat} (hd : decode cc pc = .ok (.irem, 1)) (hx : x < 2 ^ 31) (h0 : 0 < y) (hy : y < 2 ^ 31) (k : J X ω γ M R cells slots (pc + 1) l (.int (nI (x % y)) :: rest)) : J X ω γ M R cells slots pc l (.int (nI y) :: .int (nI x) :: rest) :=
  j_irem C hd (nI_ne0 h0 hy) (by rw [pk_rem hx h0 hy]; exact k)
theorem j_ishrN (C : jC X ω cc own dd mc ms) {x y : Nat} (hd : decode cc pc = .ok (.ishr, 1)) (hx : x < 2 ^ 31) (hy : y < 32) (k : J X ω γ M R cells slots (pc + 1) l (.int (nI (x / 2 ^ y)) :: rest)) : J X ω γ M R cells slots pc l (.int (nI y) :: .int (nI x) :: rest) :=
  j_ishr C hd (by rw [lx_shr hx hy]; exact k)
end LX
theorem ar_L : Cond.arrayClass .long ∈ TBL := tb_in 895 (by decide +kernel) rfl
