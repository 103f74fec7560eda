section JX
variable {X : jX} {ω : jW} {γ : jG} {M : jM} {R : jR} {cells slots pc : Nat} {l : List (Nat × Value)} {rest : List Value} {cc : ByteArray} {own : String} {dd mc ms : Nat}
theorem xi_cs {s : State} {H : Heap} (h : jXi ω s H) : va_Z "java/lang/String" "COMPACT_STRINGS" "Z" (.int 1) (jA ω) s H := h.2.2.2.2.1
theorem xi_coder {s : State} {H : Heap} (h : jXi ω s H) : va_OF "java/lang/String" "coder" "B" (.int 0) (jsK ω) (jA ω) s H := (h.2.2.2.2.2.1.1 0 (by decide)).2.1
theorem xi_value {s : State} {H : Heap} (h : jXi ω s H) : va_OF "java/lang/String" "value" "[B" (.ref (jsV ω)) (jsK ω) (jA ω) s H := (h.2.2.2.2.2.1.1 0 (by decide)).2.2.1
def rB (j : Nat) : Int32 := ([61, 60, 62] : List Int32).getD j 0
theorem xi_bytes {s : State} {H : Heap} (h : jXi ω s H) : va_T .byte (jsV ω) 3 (fun j => .int (rB j)) (jA ω) s H := (h.2.2.2.2.2.1.1 0 (by decide)).2.2.2
theorem j_getX (C : jC X ω cc own dd mc ms) {o n d : String} {v : Value} {q index : Nat} (hE : va_OF o n d v q (jA ω) (xs X) (xs X).heap) (hl : Cond.fieldLink own index o n d ∈ TBL) (hd : decode cc pc = .ok (.getfield index, 3)) (k : J X ω γ M R cells slots (pc + 3) l (v :: rest)) : J X ω γ M R cells slots pc l (.ref q :: rest) := by
  intro H locs ls hz hP hS hlv hg
  exact vk_getf C.ex C.cd hE hS C.ow (C.ts _ hl) (fun _ h => h) hd (k H locs ls hz hP hS hlv hg)
theorem j_ldcS (C : jC X ω cc own dd mc ms) {tx : String} {q index : Nat} (hZ : vk_R own index tx q (xs X)) (hd : decode cc pc = .ok (.ldc index, 2)) (k : J X ω γ M R cells slots (pc + 2) l (.ref q :: rest)) : J X ω γ M R cells slots pc l rest := by
  intro H locs ls hz hP hS hlv hg
  exact va_ldcS C.ex C.cd C.ow hZ hd (k H locs ls hz hP hS hlv hg)
theorem j_max (C : jC X ω cc own dd mc ms) {index : Nat} {x y : Int32} (hl : Cond.methodLink own index Lib.Math.max.name ∈ TBL) (hdd : 1 ≤ dd) (hcat : (rest.map fun v => v.category).sum ≤ 8) (hcs : cells ≤ mc ∧ slots ≤ ms) (hd : decode cc pc = .ok (.invokestatic index, 3)) (k : J X ω γ M R cells slots (pc + 3) l (.int (if x < y then y else x) :: rest)) : J X ω γ M R cells slots pc l (.int y :: .int x :: rest) := by
  obtain ⟨r1, r2, r3, r4⟩ := C.rm
  intro H locs ls hz hP hS hlv hg
  exact va_mmax C.ex C.cd (C.ml.trans hlv.1.symm) C.ow (C.ts _ hl) (C.ts _ ms_max) (C.ts _ mi_math) (C.ts _ mc_max) (by omega) (by omega) (by omega) (by omega) hd (k H locs ls hz hP hS hlv hg)
theorem j_min (C : jC X ω cc own dd mc ms) {index : Nat} {x y : Int32} (hl : Cond.methodLink own index Lib.Math.min.name ∈ TBL) (hdd : 1 ≤ dd) (hcat : (rest.map fun v => v.category).sum ≤ 8) (hcs : cells ≤ mc ∧ slots ≤ ms) (hd : decode cc pc = .ok (.invokestatic index, 3)) (k : J X ω γ M R cells slots (pc + 3) l (.int (if y < x then y else x) :: rest)) : J X ω γ M R cells slots pc l (.int y :: .int x :: rest) := by
  obtain ⟨r1, r2, r3, r4⟩ := C.rm
  intro H locs ls hz hP hS hlv hg
  exact va_mmin C.ex C.cd (C.ml.trans hlv.1.symm) C.ow (C.ts _ hl) (C.ts _ ms_min) (C.ts _ mi_math) (C.ts _ mc_min) (by omega) (by omega) (by omega) (by omega) hd (k H locs ls hz hP hS hlv hg)
/-- a call on the String constant -/
theorem j_cXi (C : jC X ω cc own dd mc ms) {y : MethodName} {bytes : ByteArray} {maxL : Nat} {ret : Option FieldType} {d n index : Nat} {As st : List Value} {r : Int32} {M' : jM} {R' : jR} {Cn : String}
    (hct : Ct (xl X) ω y bytes maxL ret d 0 0 (.ref (jsK ω) :: As) γ M R (jx γ (some (.int r)) M' R')) (hy : jYC y bytes maxL ret n) (hl : jMN own index y) (hi : Cond.instanceMethod y ∈ TBL) (hsel : Cond.selects Cn y y ∈ TBL) (hyc : y.cls = Cn) (hCn : Cn = "java/lang/String")
    (hd : decode cc pc = .ok (.invokevirtual index, 3)) (hst : st = As.reverse ++ .ref (jsK ω) :: rest) (hn : As.length = n) (hcat : (rest.map fun v => v.category).sum ≤ 8) (hdd : d + 1 ≤ dd ∧ maxL ≤ 19)
    (kk : J X ω γ M' R' cells slots (pc + 3) l (.int r :: rest)) (hcs : cells ≤ mc ∧ slots ≤ ms := by decide) : J X ω γ M R cells slots pc l st := by
  subst hst
  obtain ⟨hyw, hyi, hyd⟩ := hy
  obtain ⟨r1, r2, r3, r4⟩ := C.rm
  intro H locs ls hz hP hS hlv hg
  have hpre : PreV (xs X) H Cn (jsK ω) (va_Pc (.ref (jsK ω) :: As) (jPre ω γ M R)) As :=
    ⟨jPre_blind _ _ _ _ _, by rw [hCn]; exact vk_recv C.xi.2.2.2.2.2.1 (i := 0) (by decide) hS, j_pre C hz hP hS _⟩
  have hR : (jrm d 0 0).frames + 1 ≤ (xR X).frames ∧ 8 + (maxL + 11) + (jrm d 0 0).locals ≤ (xR X).locals := ⟨Nat.le_trans hdd.1 r1, by show 8 + (maxL + 11) + 38 * d ≤ _; omega⟩
  have hf : cells + 0 ≤ (xR X).cells ∧ slots + 0 ≤ (xR X).slots := ⟨Nat.le_trans hcs.1 r3, Nat.le_trans hcs.2 r4⟩
  rcases hl with hl | ⟨host, hl⟩
  · refine j_run (va_runV C.fix hct (cwV n C.ts (tb_all (fun _ h => h) ?_) rfl rfl rfl ⟨hyc, hyd⟩ hR) hpre rfl hn hlv.1 rfl (lv_room hcat) hd hf) hS hlv hg (by rintro _ _ _ _ ⟨rfl, rfl, rfl, rfl⟩; exact kk)
    intro w hw
    unfold wsV at hw
    rcases List.mem_append.mp hw with h | h
    · simp only [List.mem_cons, List.not_mem_nil, or_false] at h
      rcases h with rfl | rfl | rfl | rfl
      · exact hl
      · exact hi
      · exact hsel
      · rw [← hyc]; exact hyi
    · exact tb_cons hyw w h
  · exact j_run (va_runVN C.fix hct ⟨va_cnB n C.ts (tb_all (fun _ h => h) (tb_cons hyw)) rfl rfl rfl (C.nw _ hl) (C.ts _ hyi) hyd hR, C.ts _ hi, C.ts _ hsel⟩ hpre rfl hn hlv.1 rfl (lv_room hcat) hd hf) hS hlv hg (by rintro _ _ _ _ ⟨rfl, rfl, rfl, rfl⟩; exact kk)
end JX
theorem b_small : ∀ n, n < 128 → (nI n).toInt8.toInt32 = nI n := by decide +kernel
theorem c_small : ∀ n, n < 128 → vp_nar .char (nI n) = nI n := by decide +kernel
theorem c_i2c : ∀ n, n < 128 → ((nI n).toUInt32 % 65536).toInt32 = nI n := by decide +kernel
/-- which of "=<>" a sign is, or -1 -/
def rIx (c : Int32) : Int32 := rFirst (fun k => decide (rB k = c)) 3
def TC (M : jM) (b : Nat) : Prop := ∀ j, j < 30 → ∃ c, c < 128 ∧ M (b + 1) j = nI c
theorem TC.nar {M : jM} {b j : Nat} (h : TC M b) (hj : j < 30) : narrow .char (.int (M (b + 1) j)) = .int (M (b + 1) j) := by
  obtain ⟨c, hc, e⟩ := h j hj
  rw [e]
  exact (pk_charN (by omega)).1
def rChr (M : jM) (b : Nat) (p : Int32) : Int32 := if p < 0 then nI 32 else if M b 1 ≤ p then nI 32 else if nI 30 ≤ p then nI 32 else M (b + 1) p.toNatClampNeg
theorem rChr_N {M : jM} {b : Nat} (h : TC M b) (p : Int32) : ∃ c, c < 128 ∧ rChr M b p = nI c := by
  unfold rChr
  split
  · exact ⟨32, by decide, rfl⟩
  · split
    · exact ⟨32, by decide, rfl⟩
    · split
      · exact ⟨32, by decide, rfl⟩
      · rename_i h0 _ h2
        exact h _ (lt_of_in (in_of h0 h2 (by decide)))
def rBeh (p : Int32) : Int32 := if p = nI 15 then nI 1 else nI 0
def rCan (M : jM) (b j : Nat) : Int32 :=
  if nI (j % 4) = nI 0 then (if rChr M b (nI j) < nI 97 then nI 0 else if nI 101 ≤ rChr M b (nI j) then nI 0 else nI 1)
  else if nI (j % 4) = nI 1 then (if rIx (rChr M b (nI j)) < 0 then nI 0 else nI 1)
  else if nI (j % 4) = nI 2 then (if rChr M b (nI j) = nI 63 then nI 1 else nI 0)
  else (if rChr M b (nI j) = nI 38 then (if rBeh (nI j) = 0 then nI 1 else nI 0) else nI 0)
def qBad (M : jM) (b j : Nat) : Bool := decide (rCan M b j = 0)
def rFlt (M : jM) (b n : Nat) : Int32 := if rFirst (qBad M b) n = -1 then (if nI (n % 4) = nI 3 then -1 else nI n) else rFirst (qBad M b) n
def rRsn (M : jM) (b : Nat) (p : Int32) : Int32 := if rBeh p = 0 then nI 1 else if rChr M b p = nI 38 then nI 2 else nI 1
def rTCol (M : jM) (b k : Nat) : Int32 := rChr M b (nI (k * 4)) - nI 97
def rTOp (M : jM) (b k : Nat) : Int32 := rIx (rChr M b (nI (k * 4 + 1)))
def qSame (M : jM) (t b k : Nat) : Bool := decide (rCol M t (nI k) = rTCol M b k) && decide (rOp M t (nI k) = rTOp M b k)
def rIsOf (M : jM) (t b n nc : Nat) : Int32 := if nI ((n + 1) / 4) = nI nc then (if (List.range nc).all (qSame M t b) then nI 1 else nI 0) else nI 0
theorem rIsOf_no {M : jM} {t b n nc k : Nat} (h : nI ((n + 1) / 4) = nI nc) (hk : k < nc) (hq : qSame M t b k = false) : rIsOf M t b n nc = nI 0 := by
  have e : (List.range nc).all (qSame M t b) = false := by
    rw [List.all_eq_false]
    exact ⟨k, List.mem_range.mpr hk, by simp [hq]⟩
  simp only [rIsOf, if_pos h, e]
  rfl
theorem rIsOf_yes {M : jM} {t b n nc : Nat} (h : nI ((n + 1) / 4) = nI nc) (hq : ∀ k, k < nc → qSame M t b k = true) : rIsOf M t b n nc = nI 1 := by
  have e : (List.range nc).all (qSame M t b) = true := by
    rw [List.all_eq_true]
    exact fun k hk => hq k (List.mem_range.mp hk)
  simp only [rIsOf, if_pos h, e]
  rfl
theorem rIsOf_B (M : jM) (t b n nc : Nat) : isB (rIsOf M t b n nc) := by
  unfold rIsOf isB
  split
  · split
    · exact Or.inr rfl
    · exact Or.inl rfl
  · exact Or.inl rfl
def rRdK (M : jM) (t b nc : Nat) : Nat → jM
  | 0 => jup M t 2 (nI nc)
  | k + 1 => jup (jup (rRdK M t b nc k) (t + 1) k (rTCol (rRdK M t b nc k) b k)) (t + 2) k (rTOp (jup (rRdK M t b nc k) (t + 1) k (rTCol (rRdK M t b nc k) b k)) b k)
def rRead (M : jM) (t b nc : Nat) : jM := jup (rRdK M t b nc nc) t 3 (nI 0)
theorem rRdK_o (M : jM) {t b nc x : Nat} (h0 : x ≠ t) (h1 : x ≠ t + 1) (h2 : x ≠ t + 2) : ∀ k, rRdK M t b nc k x = M x
  | 0 => jup_row _ _ h0
  | k + 1 => by rw [rRdK, jup_row _ _ h2, jup_row _ _ h1, rRdK_o M h0 h1 h2 k]
theorem rRdK_2 (M : jM) {t b nc : Nat} : ∀ k, rRdK M t b nc k t 2 = nI nc
  | 0 => jup_eq _ _ _ _
  | k + 1 => by rw [rRdK, jup_na _ _ (by omega), jup_na _ _ (by omega), rRdK_2 M k]
theorem TC_o {M M' : jM} {b : Nat} (h : TC M b) (e : M' (b + 1) = M (b + 1)) : TC M' b := fun j hj => by rw [e]; exact h j hj
theorem rFlt_len {M : jM} {b n : Nat} (h : rFlt M b n = -1) (hn : n ≤ 30) : n ≤ 15 := by
  refine Nat.le_of_not_lt fun hl => ?_
  rcases rFirst_cases (qBad M b) n with ⟨k, hk, -, q, -⟩ | ⟨-, q, hj⟩
  · rw [rFlt, q, if_neg (nI_nem1 (by omega))] at h
    exact nI_nem1 (by omega) h
  · have h15 := hj 15 (by omega)
    have e : rCan M b 15 = 0 := by
      unfold rCan
      rw [if_neg (by decide), if_neg (by decide), if_neg (by decide)]
      split
      · rw [rBeh, if_pos rfl, if_neg (by decide)]
        rfl
      · rfl
    simp [qBad, e] at h15
