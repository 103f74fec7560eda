theorem jcat_of {l : List (Nat × Value)} (h : l.all (fun q => Nat.beq q.2.category 1) = true) : ∀ q ∈ l, q.2.category = 1 := fun q hq => Nat.eq_of_beq_eq_true (List.all_eq_true.mp h q hq)
theorem sw_out (n : Nat) (x : Int32) (h : ∀ j : Nat, j ≤ n → ¬ x = nI j) : x.toInt < 0 ∨ (n : Int) < x.toInt := by
  by_cases h0 : x < 0
  · exact Or.inl (by simpa using Int32.lt_iff_toInt_lt.mp h0)
  · obtain ⟨j, hj, rfl⟩ := nI_of h0
    right
    rw [nI_toInt hj]
    rcases Nat.lt_or_ge n j with q | q
    · omega
    · exact absurd rfl (h j q)
theorem lk_ne (v : Nat) {x : Int32} (h : ¬ x = nI v) (hv : v < 2 ^ 31) : ¬ x.toInt = (v : Int) := fun q => h (Int32.toInt_inj.mp (by rw [q, nI_toInt hv]))
def jx (γ : jG) (v : Option Value) (M : jM) (R : jR) : jPost := fun v' γ' M' R' => v' = v ∧ γ' = γ ∧ M' = M ∧ R' = R
section JB
variable {X : jX} {ω : jW} {γ : jG} {M : jM} {R : jR} {cells slots pc : Nat} {l : List (Nat × Value)} {rest : List Value} {cc : ByteArray} {own : String} {dd mc ms : Nat}
theorem j_iinc1 (C : jC X ω cc own dd mc ms) {i x : Nat} (hd : decode cc pc = .ok (.iinc i 1, 3)) (hx : jget l i = some (.int (nI x))) (hn : i < xn X) (k : J X ω γ M R cells slots (pc + 3) (jset l i (.int (nI (x + 1)))) rest) : J X ω γ M R cells slots pc l rest :=
  j_iinc C (nI (x + 1)) hd hx (by rw [nI_succ]; rfl) hn k
theorem j_iincD (C : jC X ω cc own dd mc ms) {i x : Nat} (hd : decode cc pc = .ok (.iinc i (-1), 3)) (hx : jget l i = some (.int (nI (x + 1)))) (hn : i < xn X) (k : J X ω γ M R cells slots (pc + 3) (jset l i (.int (nI x))) rest) : J X ω γ M R cells slots pc l rest :=
  j_iinc C (nI x) hd hx (pk_m1 x) hn k
/-- an int in a local under other words -/
theorem j_cVi (C : jC X ω cc own dd mc ms) {y : MethodName} {bytes : ByteArray} {maxL : Nat} {ret : Option FieldType} {d n index b ci : Nat} {As st : List Value} {r : Int32} {M' : jM} {R' : jR} {Cn : String} {T : u_T} {N : Nat}
    (hct : Ct (xl X) ω y bytes maxL ret d 0 0 (.ref b :: As) γ M R (jx γ (some (.int r)) M' R')) (hy : jYC y bytes maxL ret n) (hl : jMN own index y) (hi : Cond.instanceMethod y ∈ TBL) (hsel : Cond.selects Cn y y ∈ TBL) (hyc : y.cls = Cn) (hcl : vwCl[ci]? = some (Cn, T, N))
    (hd : decode cc pc = .ok (.invokevirtual index, 3)) (hst : st = As.reverse ++ .ref b :: rest) (hn : As.length = n) (hb : jAt ω γ b ci) (hci : ci < 11) (hcat : (rest.map fun v => v.category).sum ≤ 8) (hdd : d + 1 ≤ dd ∧ maxL ≤ 19)
    (kk : J X ω γ M' R' cells slots (pc + 3) l (.int r :: rest)) (hcs : cells ≤ mc ∧ slots ≤ ms := by decide) : J X ω γ M R cells slots pc l st :=
  j_callV C hct hy hl hi hsel hyc hcl hd hst hn hb hci hcat hdd hcs (by rintro _ _ _ _ ⟨rfl, rfl, rfl, rfl⟩; exact kk)
theorem j_cVr (C : jC X ω cc own dd mc ms) {y : MethodName} {bytes : ByteArray} {maxL : Nat} {ret : Option FieldType} {d n index b ci : Nat} {As st : List Value} {r : Nat} {M' : jM} {R' : jR} {Cn : String} {T : u_T} {N : Nat}
    (hct : Ct (xl X) ω y bytes maxL ret d 0 0 (.ref b :: As) γ M R (jx γ (some (.ref r)) M' R')) (hy : jYC y bytes maxL ret n) (hl : jMN own index y) (hi : Cond.instanceMethod y ∈ TBL) (hsel : Cond.selects Cn y y ∈ TBL) (hyc : y.cls = Cn) (hcl : vwCl[ci]? = some (Cn, T, N))
    (hd : decode cc pc = .ok (.invokevirtual index, 3)) (hst : st = As.reverse ++ .ref b :: rest) (hn : As.length = n) (hb : jAt ω γ b ci) (hci : ci < 11) (hcat : (rest.map fun v => v.category).sum ≤ 8) (hdd : d + 1 ≤ dd ∧ maxL ≤ 19)
    (kk : J X ω γ M' R' cells slots (pc + 3) l (.ref r :: rest)) (hcs : cells ≤ mc ∧ slots ≤ ms := by decide) : J X ω γ M R cells slots pc l st :=
  j_callV C hct hy hl hi hsel hyc hcl hd hst hn hb hci hcat hdd hcs (by rintro _ _ _ _ ⟨rfl, rfl, rfl, rfl⟩; exact kk)
theorem j_cVv (C : jC X ω cc own dd mc ms) {y : MethodName} {bytes : ByteArray} {maxL : Nat} {ret : Option FieldType} {d n index b ci : Nat} {As st : List Value} {M' : jM} {R' : jR} {Cn : String} {T : u_T} {N : Nat}
    (hct : Ct (xl X) ω y bytes maxL ret d 0 0 (.ref b :: As) γ M R (jx γ none M' R')) (hy : jYC y bytes maxL ret n) (hl : jMN own index y) (hi : Cond.instanceMethod y ∈ TBL) (hsel : Cond.selects Cn y y ∈ TBL) (hyc : y.cls = Cn) (hcl : vwCl[ci]? = some (Cn, T, N))
    (hd : decode cc pc = .ok (.invokevirtual index, 3)) (hst : st = As.reverse ++ .ref b :: rest) (hn : As.length = n) (hb : jAt ω γ b ci) (hci : ci < 11) (hcat : (rest.map fun v => v.category).sum ≤ 8) (hdd : d + 1 ≤ dd ∧ maxL ≤ 19)
    (kk : J X ω γ M' R' cells slots (pc + 3) l rest) (hcs : cells ≤ mc ∧ slots ≤ ms := by decide) : J X ω γ M R cells slots pc l st :=
  j_callV C hct hy hl hi hsel hyc hcl hd hst hn hb hci hcat hdd hcs (by rintro _ _ _ _ ⟨rfl, rfl, rfl, rfl⟩; exact kk)
theorem j_cSi (C : jC X ω cc own dd mc ms) {y : MethodName} {bytes : ByteArray} {maxL : Nat} {ret : Option FieldType} {d n index : Nat} {As st : List Value} {r : Int32} {M' : jM} {R' : jR}
    (hct : Ct (xl X) ω y bytes maxL ret d 0 0 As γ M R (jx γ (some (.int r)) M' R')) (hy : jYC y bytes maxL ret n) (hl : jMN own index y) (hi : Cond.static y ∈ TBL)
    (hd : decode cc pc = .ok (.invokestatic index, 3)) (hst : st = As.reverse ++ rest) (hn : As.length = n) (hcat : (rest.map fun v => v.category).sum ≤ 8) (hdd : d + 1 ≤ dd ∧ maxL ≤ 19)
    (kk : J X ω γ M' R' cells slots (pc + 3) l (.int r :: rest)) (hcs : cells ≤ mc ∧ slots ≤ ms := by decide) : J X ω γ M R cells slots pc l st :=
  j_callS C hct hy hl hi hd hst hn hcat hdd hcs (by rintro _ _ _ _ ⟨rfl, rfl, rfl, rfl⟩; exact kk)
theorem j_cSv (C : jC X ω cc own dd mc ms) {y : MethodName} {bytes : ByteArray} {maxL : Nat} {ret : Option FieldType} {d n index : Nat} {As st : List Value} {M' : jM} {R' : jR}
    (hct : Ct (xl X) ω y bytes maxL ret d 0 0 As γ M R (jx γ none M' R')) (hy : jYC y bytes maxL ret n) (hl : jMN own index y) (hi : Cond.static y ∈ TBL)
    (hd : decode cc pc = .ok (.invokestatic index, 3)) (hst : st = As.reverse ++ rest) (hn : As.length = n) (hcat : (rest.map fun v => v.category).sum ≤ 8) (hdd : d + 1 ≤ dd ∧ maxL ≤ 19)
    (kk : J X ω γ M' R' cells slots (pc + 3) l rest) (hcs : cells ≤ mc ∧ slots ≤ ms := by decide) : J X ω γ M R cells slots pc l st :=
  j_callS C hct hy hl hi hd hst hn hcat hdd hcs (by rintro _ _ _ _ ⟨rfl, rfl, rfl, rfl⟩; exact kk)
end JB
theorem ar_I : Cond.arrayClass .int ∈ TBL := tb_in 53 (by decide +kernel) rfl
theorem ar_C : Cond.arrayClass .char ∈ TBL := tb_in 297 (by decide +kernel) rfl
theorem in_of {p : Int32} {n : Nat} (h0 : ¬ p < 0) (h1 : ¬ nI n ≤ p) (hn : n < 2 ^ 31) : vp_in p n := by
  obtain ⟨j, hj, rfl⟩ := nI_of h0
  exact vp_in_nI ((nI_ltI hj hn).mp (Int32.not_le.mp h1)) hn
theorem in_of' {p : Int32} {n : Nat} (h0 : ¬ p < 0) (h1 : p < nI n) (hn : n < 2 ^ 31) : vp_in p n := in_of h0 (Int32.not_le.mpr h1) hn
theorem nb0 : narrow .boolean (.int (nI 0)) = .int (nI 0) := rfl
theorem nb1 : narrow .boolean (.int (nI 1)) = .int (nI 1) := rfl
def isB (x : Int32) : Prop := x = nI 0 ∨ x = nI 1
theorem isB.nar {x : Int32} (h : isB x) : narrow .boolean (.int x) = .int x := by
  rcases h with rfl | rfl
  · exact nb0
  · exact nb1
/-- geometry -/
def gPlan (ω : jW) (γ : jG) (b : Nat) : Prop := jAt ω γ b 2
def gSums (ω : jW) (γ : jG) (b : Nat) : Prop := jAt ω γ b 6 ∧ jP γ b 0 = some (b + 1) ∧ jArr ω γ (b + 1) 12 128
def gStm (ω : jW) (γ : jG) (b : Nat) : Prop := jAt ω γ b 5 ∧ jP γ b 0 = some (b + 1) ∧ jArr ω γ (b + 1) 12 4 ∧ jP γ b 1 = some (b + 2) ∧ jArr ω γ (b + 2) 12 4
def gLast (ω : jW) (γ : jG) (b : Nat) : Prop := jAt ω γ b 1 ∧ jP γ b 0 = some (b + 1) ∧ jArr ω γ (b + 1) 12 4
def gTable (ω : jW) (γ : jG) (b : Nat) : Prop := jAt ω γ b 7 ∧ jP γ b 0 = some (b + 1) ∧ jArr ω γ (b + 1) 12 150 ∧ jP γ b 1 = some (b + 2) ∧ gSums ω γ (b + 2)
def gShelf (ω : jW) (γ : jG) (b : Nat) : Prop := jAt ω γ b 3 ∧ jP γ b 0 = some (b + 1) ∧ jArr ω γ (b + 1) 13 8 ∧ jP γ b 1 = some (b + 2) ∧ gPlan ω γ (b + 2) ∧ ∀ j, j < 8 → gPlan ω γ (b + 3 + j)
def gText (ω : jW) (γ : jG) (b : Nat) : Prop := jAt ω γ b 8 ∧ jP γ b 0 = some (b + 1) ∧ jArr ω γ (b + 1) 11 30
def gState (ω : jW) (γ : jG) (a : Nat) : Prop := jAt ω γ a 4 ∧ jP γ a 0 = some (a + 1) ∧ gTable ω γ (a + 1) ∧ jP γ a 1 = some (a + 5) ∧ gSums ω γ (a + 5) ∧ jP γ a 2 = some (a + 7) ∧ jArr ω γ (a + 7) 15 6 ∧ jP γ a 3 = some (a + 8) ∧ gStm ω γ (a + 8) ∧
  jP γ a 4 = some (a + 11) ∧ gShelf ω γ (a + 11) ∧ jP γ a 5 = some (a + 22) ∧ gLast ω γ (a + 22) ∧ jP γ a 6 = some (a + 24) ∧ jArr ω γ (a + 24) 12 5 ∧ ∀ t, t < 6 → gStm ω γ (a + 25 + 3 * t)
/-- the place of a plan: its address -/
def pa (R : jR) (b k : Nat) : Nat := (R (b + 1) k).getD 0
/-- the rows of plans are plans, all different -/
def SR (R : jR) (b : Nat) : Prop := (∀ k, k < 8 → ∃ j, j < 8 ∧ R (b + 1) k = some (b + 3 + j)) ∧ ∀ i j, i < 8 → j < 8 → R (b + 1) i = R (b + 1) j → i = j
theorem SR.at {R : jR} {b k : Nat} (h : SR R b) (hk : k < 8) : R (b + 1) k = some (pa R b k) := by
  obtain ⟨j, -, e⟩ := h.1 k hk
  simp [pa, e]
theorem SR.rg {R : jR} {b k : Nat} (h : SR R b) (hk : k < 8) : ∃ j, j < 8 ∧ pa R b k = b + 3 + j := by
  obtain ⟨j, hj, e⟩ := h.1 k hk
  exact ⟨j, hj, by simp [pa, e]⟩
theorem SR.inj {R : jR} {b i j : Nat} (h : SR R b) (hi : i < 8) (hj : j < 8) (e : pa R b i = pa R b j) : i = j := h.2 i j hi hj (by rw [h.at hi, h.at hj, e])
theorem SR.pl {ω : jW} {γ : jG} {R : jR} {b k : Nat} (h : SR R b) (g : gShelf ω γ b) (hk : k < 8) : jAt ω γ (pa R b k) 2 := by
  obtain ⟨j, hj, e⟩ := h.rg hk
  rw [e]
  exact g.2.2.2.2.2 j hj
def rAt (row : Nat → Int32) (n : Nat) (p : Int32) : Int32 := if p < 0 then nI 0 else if nI n ≤ p then nI 0 else row p.toNatClampNeg
theorem rAt_N (row : Nat → Int32) {n k : Nat} (h : k < n) (hn : n < 2 ^ 31) : rAt row n (nI k) = row k := by
  simp only [rAt, if_neg (nI_pos (show k < 2 ^ 31 by omega)), if_neg (nI_ge h hn), nI_clamp (show k < 2 ^ 31 by omega)]
def rIn (x a b : Int32) : Int32 := if x < a then nI 0 else if b < x then nI 0 else nI 1
theorem rIn_B (x a b : Int32) : isB (rIn x a b) := by
  unfold rIn isB
  split
  · exact Or.inl rfl
  · split
    · exact Or.inl rfl
    · exact Or.inr rfl
def rHolds (x op v : Int32) : Int32 := if op = nI 1 then (if v ≤ x then nI 0 else nI 1) else if op = nI 2 then (if x ≤ v then nI 0 else nI 1) else (if x = v then nI 1 else nI 0)
/-- the first place of n at which p holds, or -1 -/
def rFirst (p : Nat → Bool) (n : Nat) : Int32 := match (List.range n).find? p with
  | some k => nI k
  | none => -1
theorem rFirst_yes {p : Nat → Bool} {n k : Nat} (hk : k < n) (hp : p k = true) (h : ∀ j, j < k → p j = false) : rFirst p n = nI k := by
  have e : (List.range n).find? p = some k := by
    rw [List.find?_range_eq_some]
    exact ⟨hp, List.mem_range.mpr hk, fun j hj => by simp [h j hj]⟩
  simp only [rFirst, e]
theorem rFirst_no {p : Nat → Bool} {n : Nat} (h : ∀ j, j < n → p j = false) : rFirst p n = -1 := by
  have e : (List.range n).find? p = none := by
    rw [List.find?_eq_none]
    intro x hx
    simp [h x (List.mem_range.mp hx)]
  simp only [rFirst, e]
/-- how many places of n have p -/
def rCnt (p : Nat → Bool) : Nat → Nat
  | 0 => 0
  | k + 1 => if p k then rCnt p k + 1 else rCnt p k
/-- the sum of f at the first places -/
def sI (f : Nat → Int32) : Nat → Int32
  | 0 => nI 0
  | k + 1 => sI f k + f k
def jcopy (M : jM) (from_ to_ n : Nat) : jM := fun b j => if b = to_ ∧ j < n then M from_ j else M b j
