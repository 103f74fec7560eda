theorem jcell_upI {ω : jW} {γ : jG} {M : jM} {R : jR} {a k : Nat} {v : Int32} : ∀ b, b ≠ a → jcell ω γ (jup M a k v) R b = jcell ω γ M R b := by
  intro b hb
  simp only [jcell, jup_row M v hb]
theorem jcell_upR {ω : jW} {γ : jG} {M : jM} {R : jR} {a k : Nat} {v : Option Nat} : ∀ b, b ≠ a → jcell ω γ M (jup R a k v) b = jcell ω γ M R b := by
  intro b hb
  simp only [jcell, jup_row R v hb]
/-- a reference field gets its value -/
def jset_P (γ : jG) (a k : Nat) (v : Option Nat) : jG := (jn γ, jK γ, jL γ, jup (jP γ) a k v)
theorem jcell_upP {ω : jW} {γ : jG} {M : jM} {R : jR} {a k : Nat} {v : Option Nat} : ∀ b, b ≠ a → jcell ω (jset_P γ a k v) M R b = jcell ω γ M R b := by
  intro b hb
  simp only [jcell, jset_P, jK, jL, jP, jup_row _ _ hb]
  rfl
section JM
variable {X : jX} {ω : jW} {γ : jG} {M : jM} {R : jR} {cells slots pc : Nat} {l : List (Nat × Value)} {rest : List Value} {cc : ByteArray} {own : String} {dd mc ms : Nat}
theorem j_getV (C : jC X ω cc own dd mc ms) {index ci k a : Nat} {ty : FieldType} {fin : Bool} {v : Value} (F : jFL own index ci k ty fin) (hA : jAt ω γ a ci) (hci : ci < 11) (hv : (jfs (jP γ a) (M a) 0 (jlay ci))[k]? = some v) (hd : decode cc pc = .ok (.getfield index, 3))
    (kk : J X ω γ M R cells slots (pc + 3) l (v :: rest)) : J X ω γ M R cells slots pc l (.ref a :: rest) := by
  obtain ⟨Cn, T, N, tyf, ⟨hcl, hin, -, -, -, -⟩, hk, -, -, hL⟩ := F
  obtain ⟨h1, h2, h3⟩ := hA
  intro H locs ls hz hP hS hl hg
  have he : (jpool ω γ M R)[a - jlo ω]? = some (a, .inr (ci, jfs (jP γ a) (M a) 0 (jlay ci))) := by rw [jpl_get h1 h2, jcell_O h3 hci]
  rcases hL with hL | ⟨host, hL⟩
  · exact va_get C.ex C.cd C.ts hin C.ow C.kk hP (a - jlo ω) he hcl k hk (C.ts _ hL) (fun _ h => h) hv hd (kk H locs ls hz hP hS hl hg)
  · exact va_getN C.ex C.cd C.ts hin C.ow C.kk hP (a - jlo ω) he hcl k hk (va_Nw.use rfl (C.nw _ hL)) (fun _ h => h) hv hd (kk H locs ls hz hP hS hl hg)
theorem j_getI (C : jC X ω cc own dd mc ms) {index ci k a : Nat} {ty : FieldType} {fin : Bool} (F : jFL own index ci k ty fin) (hA : jAt ω γ a ci) (hd : decode cc pc = .ok (.getfield index, 3)) (hci : ci < 11) (hlay : (jlay ci)[k]? = some false)
    (kk : J X ω γ M R cells slots (pc + 3) l (.int (M a k) :: rest)) : J X ω γ M R cells slots pc l (.ref a :: rest) := by
  refine j_getV C F hA hci (v := .int (M a k)) ?_ hd kk
  have h := jfs_getI (jP γ a) (M a) (jlay ci) 0 k hlay
  rwa [Nat.zero_add] at h
theorem j_getR (C : jC X ω cc own dd mc ms) {index ci k a b : Nat} {ty : FieldType} {fin : Bool} (F : jFL own index ci k ty fin) (hA : jAt ω γ a ci) (hd : decode cc pc = .ok (.getfield index, 3)) (hci : ci < 11) (hlay : (jlay ci)[k]? = some true) (hp : jP γ a k = some b)
    (kk : J X ω γ M R cells slots (pc + 3) l (.ref b :: rest)) : J X ω γ M R cells slots pc l (.ref a :: rest) := by
  refine j_getV C F hA hci (v := .ref b) ?_ hd kk
  have h := jfs_getR (jP γ a) (M a) (jlay ci) 0 k hlay
  rw [Nat.zero_add, hp] at h
  exact h
/-- a field is written: any value, any of the two kinds of fields -/
theorem j_putV (C : jC X ω cc own dd mc ms) {index ci k a : Nat} {ty : FieldType} {fin : Bool} {v : Value} {γ' : jG} {M' : jM} (F : jFL own index ci k ty fin) (hfin : fin = false ∨ (xmeth X).name = "<init>")
    (hA : jAt ω γ a ci) (hci : ci < 11) (hn : narrow ty v = v) (hf : fits ty v = true) (hγ : jn γ' = jn γ) (hne : ∀ b, b ≠ a → jcell ω γ' M' R b = jcell ω γ M R b) (hat : jcell ω γ' M' R a = .inr (ci, (jfs (jP γ a) (M a) 0 (jlay ci)).set k v)) (hlen : k < (jlay ci).length)
    (hd : decode cc pc = .ok (.putfield index, 3)) (hnest : fin = true → ∀ C' T' N' t', jCl ci C' T' N' t' → C' = own ∧ Cond.fieldLink own index (T' k).1 (T' k).2.1 (T' k).2.2.1 ∈ TBL)
    (kk : J X ω γ' M' R cells slots (pc + 3) l rest) : J X ω γ M R cells slots pc l (v :: .ref a :: rest) := by
  obtain ⟨Cn, T, N, tyf, hCl, hk, rfl, hfi, hL⟩ := F
  have hCl' := hCl
  obtain ⟨hcl, hin, hty, hnm, -, hown⟩ := hCl
  obtain ⟨h1, h2, h3⟩ := hA
  intro H locs ls hz hP hS hl hg
  have he : (jpool ω γ M R)[a - jlo ω]? = some (a, .inr (ci, jfs (jP γ a) (M a) 0 (jlay ci))) := by rw [jpl_get h1 h2, jcell_O h3 hci]
  have hap := va_apart (own := own) C.ts hin tyf hty hnm C.kk hcl
  obtain ⟨r, g1, cell, q1, q2, q3, q4⟩ := hP _ _ he
  have hr : r = (Cn, T, N) := Option.some.inj (g1.symm.trans hcl)
  subst hr
  obtain ⟨hSl, hfc, kC, hkC, hkind⟩ := C.kk.1 ci _ hcl
  obtain ⟨cf, kf, fi, f, hi, hsl⟩ := hSl k hk
  have hst := (u_facts hfc hkC (u_lays C.ts hin hk) hi).1
  have hlen' : k < (jfs (jP γ a) (M a) 0 (jlay ci)).length := by rw [jfs_len]; exact hlen
  have fin' : ∀ (H' : Heap), H'[a]? = some (cell.setSlot f.slot v) → H'.size = H.size → (∀ q, q ≠ a → H'[q]? = H[q]?) →
      W (xp X) (xl X) (xe X) (xR X) (xs X) (xm X) (xargs X) (xbelow X) (xmeth X) (xc X) H' (locs ++ [⟨a, f.slot⟩]) cells slots (xQ X) (F0 (xm X) (pc + 3) ls rest) := by
    intro H' e1 e2 e3
    rw [hsl] at e1
    have hP' := hP.set (e := .inr (ci, (jfs (jP γ a) (M a) 0 (jlay ci)).set k v)) jpl_D he ⟨_, hcl, t_OB.to (V := updV (vp_V (jfs (jP γ a) (M a) 0 (jlay ci))) k v) ⟨_, e1, q2, q3, t_set q4 hap hk v⟩ (fun j _ => vp_updV_set hlen' v j)⟩ e3
    rw [jpl_set (g := jcell ω γ' M' R) h1 h2 hne hat] at hP'
    refine kk H' _ ls (by rw [e2, hz, hγ]) (by show va_P ω.2.1 vwCl (jpl (jlo ω) (jn γ') (jcell ω γ' M' R)) H'; rw [hγ]; exact hP') (hS.put e2 e3 h1) hl hg
  have hlay := C.ts _ (hin _ (u_in_lay hk))
  unfold u_lay at hlay
  cases fin with
  | false =>
    rw [if_neg (by rw [hfi]; decide)] at hlay
    have h6 := u_store hfc hkC hkind hlay hi (hty k hk) hn hf
    rcases hL with hL | ⟨host, hL⟩
    · exact W.putK C.ex C.cd (f := f) ⟨C.ow, C.ts _ hL, ⟨_, _, _, hi⟩, hst⟩ (by rw [q2]; exact h6) q1 q3 (by rw [hsl]; exact k2_hasslot (q4 k hk)) rfl rfl hd fin'
    · exact va_WputK C.ex C.cd (f := f) C.ow (va_Nw.use rfl (C.nw _ hL)) hi hst (by rw [q2]; exact h6) q1 q3 (by rw [hsl]; exact k2_hasslot (q4 k hk)) rfl rfl hd fin'
  | true =>
    obtain ⟨hC', hL'⟩ := hnest rfl _ _ _ _ hCl'
    rw [if_pos hfi] at hlay
    have hcf : (xm X).cls = cf := by
      obtain ⟨_, _, c', _, _, _, -, -, hf', -, -, -, hown2, -⟩ := Cond.laysFinal_spec hlay
      have e1 : c' = cf := by have := hi.symm.trans hf'; simp at this; exact this.1.symm
      rw [hown k hk, hC'] at hown2
      rw [← e1]
      exact Option.some.inj (C.ow.symm.trans hown2)
    have hin2 : (xmeth X).name = "<init>" := by
      rcases hfin with h | h
      · cases h
      · exact h
    have h6 := u_fits hfc hkC hkind (Or.inr hlay) hi (hty k hk) hn hf
    exact W.putFinK C.ex C.cd C.ow (C.ts _ hL') hi hst hcf hin2 (by rw [q2]; exact h6) q1 q3 (by rw [hsl]; exact k2_hasslot (q4 k hk)) rfl rfl hd fin'
theorem j_putI (C : jC X ω cc own dd mc ms) {index ci k a : Nat} {ty : FieldType} {v : Int32} (F : jFL own index ci k ty false) (hA : jAt ω γ a ci) (hd : decode cc pc = .ok (.putfield index, 3)) (hci : ci < 11) (hlay : (jlay ci)[k]? = some false) (hn : narrow ty (.int v) = .int v) (hf : fits ty (.int v) = true)
    (kk : J X ω γ (jup M a k v) R cells slots (pc + 3) l rest) : J X ω γ M R cells slots pc l (.int v :: .ref a :: rest) := by
  refine j_putV C F (Or.inl rfl) hA hci hn hf rfl jcell_upI ?_ ((List.getElem?_eq_some_iff.mp hlay).1) hd (fun h => by cases h) kk
  rw [jcell_O hA.2.2 hci, jfs_setI _ _ _ _ _ _ hlay]
  congr 2
  refine jfs_cong _ _ (fun _ _ => rfl) (fun j _ => ?_)
  simp [jup]
/-- a final reference field, in its constructor -/
theorem j_putP (C : jC X ω cc own dd mc ms) {index ci k a b : Nat} {ty : FieldType} {T : u_T} {N : Nat} {tyf : Nat → FieldType} (hCl : jCl ci own T N tyf) (hk : k < N) (hfi : (T k).2.2.2 = true) (hL : Cond.fieldLink own index (T k).1 (T k).2.1 (T k).2.2.1 ∈ TBL) (hnm : (xmeth X).name = "<init>")
    (hA : jAt ω γ a ci) (hd : decode cc pc = .ok (.putfield index, 3)) (hci : ci < 11) (hlay : (jlay ci)[k]? = some true) (hn : narrow (tyf k) (.ref b) = .ref b) (hf : fits (tyf k) (.ref b) = true)
    (kk : J X ω (jset_P γ a k (some b)) M R cells slots (pc + 3) l rest) : J X ω γ M R cells slots pc l (.ref b :: .ref a :: rest) := by
  have F : jFL own index ci k (tyf k) true := ⟨own, T, N, tyf, hCl, hk, rfl, hfi, Or.inl hL⟩
  refine j_putV (γ' := jset_P γ a k (some b)) (M' := M) C F (Or.inr hnm) hA hci hn hf rfl jcell_upP ?_ ((List.getElem?_eq_some_iff.mp hlay).1) hd ?_ kk
  · rw [jcell_O (γ := jset_P γ a k (some b)) hA.2.2 hci, show (Value.ref b) = va_rf (some b) from rfl, jfs_setR _ _ _ _ _ _ hlay]
    congr 2
    refine jfs_cong _ _ (fun j _ => ?_) (fun _ _ => rfl)
    show jup (jP γ) a k (some b) a j = _
    simp [jup]
  · intro _ C' T' N' t' h'
    have e := h'.1.symm.trans hCl.1
    simp only [Option.some.injEq, Prod.mk.injEq] at e
    obtain ⟨e1, e2, e3⟩ := e
    subst e1; subst e2; subst e3
    exact ⟨rfl, hL⟩
theorem j_iald (C : jC X ω cc own dd mc ms) {a n : Nat} {i : Int32} (hA : jArr ω γ a 12 n) (hin : vp_in i n) (hd : decode cc pc = .ok (.iaload, 1))
    (kk : J X ω γ M R cells slots (pc + 1) l (.int (M a i.toNatClampNeg) :: rest)) : J X ω γ M R cells slots pc l (.int i :: .ref a :: rest) := by
  obtain ⟨⟨h1, h2, h3⟩, rfl⟩ := hA
  intro H locs ls hz hP hS hl hg
  exact va_iald C.ex C.cd C.kk hP (a - jlo ω) 1 (by rw [jpl_get h1 h2, jcell_I h3 (by decide) (by decide)]) rfl hin hd (kk H locs ls hz hP hS hl hg)
theorem j_ialdN (C : jC X ω cc own dd mc ms) {a n : Nat} {i : Nat} (hA : jArr ω γ a 12 n) (hd : decode cc pc = .ok (.iaload, 1)) (hin : i < n) (hn : n < 2 ^ 31)
    (kk : J X ω γ M R cells slots (pc + 1) l (.int (M a i) :: rest)) : J X ω γ M R cells slots pc l (.int (nI i) :: .ref a :: rest) :=
  j_iald C hA (vp_in_nI hin hn) hd (by rw [nI_clamp (by omega)]; exact kk)
theorem j_cald (C : jC X ω cc own dd mc ms) {a n : Nat} {i : Int32} (hA : jArr ω γ a 11 n) (hin : vp_in i n) (hd : decode cc pc = .ok (.caload, 1))
    (kk : J X ω γ M R cells slots (pc + 1) l (.int (M a i.toNatClampNeg) :: rest)) : J X ω γ M R cells slots pc l (.int i :: .ref a :: rest) := by
  obtain ⟨⟨h1, h2, h3⟩, rfl⟩ := hA
  intro H locs ls hz hP hS hl hg
  exact va_cald C.ex C.cd C.kk hP (a - jlo ω) 0 (by rw [jpl_get h1 h2, jcell_I h3 (by decide) (by decide)]) rfl hin hd (kk H locs ls hz hP hS hl hg)
theorem j_aald (C : jC X ω cc own dd mc ms) {a n kd : Nat} {i : Int32} {b : Nat} {Cn : String} (hA : jArr ω γ a kd n) (hkd : 13 ≤ kd ∧ kd < 16) (ht : (jtys ω)[kd - 11]? = some (ω.2.2.1 kd, .object Cn)) (hin : vp_in i n) (hb : R a i.toNatClampNeg = some b) (hd : decode cc pc = .ok (.aaload, 1))
    (kk : J X ω γ M R cells slots (pc + 1) l (.ref b :: rest)) : J X ω γ M R cells slots pc l (.int i :: .ref a :: rest) := by
  obtain ⟨⟨h1, h2, h3⟩, rfl⟩ := hA
  intro H locs ls hz hP hS hl hg
  refine va_aldq C.ex C.cd C.kk hP (a - jlo ω) (kd - 11) (by rw [jpl_get h1 h2, jcell_R h3 hkd]) ht hin hd ?_
  rw [hb]
  exact kk H locs ls hz hP hS hl hg
theorem j_alen (C : jC X ω cc own dd mc ms) {a n kd : Nat} {ty : FieldType} (hA : jArr ω γ a kd n) (ht : (jtys ω)[kd - 11]? = some (ω.2.2.1 kd, ty)) (hkd : 11 ≤ kd ∧ kd < 16) (hd : decode cc pc = .ok (.arraylength, 1))
    (kk : J X ω γ M R cells slots (pc + 1) l (.int (nI n) :: rest)) : J X ω γ M R cells slots pc l (.ref a :: rest) := by
  obtain ⟨⟨h1, h2, h3⟩, rfl⟩ := hA
  intro H locs ls hz hP hS hl hg
  by_cases h : kd < 13
  · exact va_alen (x := (jL γ a, .inl (M a))) C.ex C.cd C.kk hP (a - jlo ω) (kd - 11) (by rw [jpl_get h1 h2, jcell_I h3 hkd.1 h]) ht rfl hd (kk H locs ls hz hP hS hl hg)
  · exact va_alen (x := (jL γ a, .inr (.inr (.inr (.inr (R a)))))) C.ex C.cd C.kk hP (a - jlo ω) (kd - 11) (by rw [jpl_get h1 h2, jcell_R h3 ⟨by omega, hkd.2⟩]) ht rfl hd (kk H locs ls hz hP hS hl hg)
theorem j_iast (C : jC X ω cc own dd mc ms) {a n : Nat} {i x : Int32} (hA : jArr ω γ a 12 n) (hin : vp_in i n) (hd : decode cc pc = .ok (.iastore, 1))
    (kk : J X ω γ (jup M a i.toNatClampNeg x) R cells slots (pc + 1) l rest) : J X ω γ M R cells slots pc l (.int x :: .int i :: .ref a :: rest) := by
  obtain ⟨⟨h1, h2, h3⟩, rfl⟩ := hA
  intro H locs ls hz hP hS hl hg
  have ha : (jpool ω γ M R)[a - jlo ω]? = some (a, .inl (ω.2.2.1 12, jL γ a, .inl (M a))) := by rw [jpl_get h1 h2, jcell_I h3 (by decide) (by decide)]
  refine W.iast C.ex C.cd (hP _ _ ha) ((C.kk.2 1 _ rfl).1 (jL γ a) (fun j => .int (M a j))) (fun q => by cases q) (by show ¬ (i < 0 ∨ (arrV _ _ _).slots.size ≤ _); rw [arrV_size]; exact hin) rfl rfl hd fun H1 e z oq => ?_
  have hP' := hP.set (e := .inl (ω.2.2.1 12, jL γ a, .inl (jup M a i.toNatClampNeg x a))) jpl_D ha (by
    show H1[a]? = some (vp_cell _ _)
    rw [e, vp_cell_i, vp_cell_i, arrV_store]
    congr 2
    funext q
    by_cases hq : q = i.toNatClampNeg
    · subst hq
      simp [updV, jup]
    · simp [updV, jup, hq]) oq
  rw [jpl_set (g := jcell ω γ (jup M a i.toNatClampNeg x) R) h1 h2 jcell_upI (jcell_I h3 (by decide) (by decide))] at hP'
  exact kk H1 _ ls (by rw [z, hz]) hP' (hS.put z oq h1) hl hg
theorem j_iastN (C : jC X ω cc own dd mc ms) {a n : Nat} {i : Nat} {x : Int32} (hA : jArr ω γ a 12 n) (hd : decode cc pc = .ok (.iastore, 1)) (hin : i < n) (hn : n < 2 ^ 31)
    (kk : J X ω γ (jup M a i x) R cells slots (pc + 1) l rest) : J X ω γ M R cells slots pc l (.int x :: .int (nI i) :: .ref a :: rest) :=
  j_iast C hA (vp_in_nI hin hn) hd (by rw [nI_clamp (by omega)]; exact kk)
theorem j_cast (C : jC X ω cc own dd mc ms) {a n : Nat} {i x : Int32} (hA : jArr ω γ a 11 n) (hin : vp_in i n) (hx : vp_nar .char x = x) (hd : decode cc pc = .ok (.castore, 1))
    (kk : J X ω γ (jup M a i.toNatClampNeg x) R cells slots (pc + 1) l rest) : J X ω γ M R cells slots pc l (.int x :: .int i :: .ref a :: rest) := by
  obtain ⟨⟨h1, h2, h3⟩, rfl⟩ := hA
  intro H locs ls hz hP hS hl hg
  have ha : (jpool ω γ M R)[a - jlo ω]? = some (a, .inl (ω.2.2.1 11, jL γ a, .inl (M a))) := by rw [jpl_get h1 h2, jcell_I h3 (by decide) (by decide)]
  refine W.cast C.ex C.cd (hP _ _ ha) ((C.kk.2 0 _ rfl).1 (jL γ a) (fun j => .int (M a j))) (fun q => by cases q) (by show ¬ (i < 0 ∨ (arrV _ _ _).slots.size ≤ _); rw [arrV_size]; exact hin) rfl rfl hd fun H1 e z oq => ?_
  have hx2 : narrow .char (.int x) = .int x := by
    have h : narrow .char (.int x) = .int (vp_nar .char x) := rfl
    rw [h, hx]
  have hP' := hP.set (e := .inl (ω.2.2.1 11, jL γ a, .inl (jup M a i.toNatClampNeg x a))) jpl_D ha (by
    show H1[a]? = some (vp_cell _ _)
    rw [e, vp_cell_i, vp_cell_i, arrV_store]
    congr 2
    funext q
    by_cases hq : q = i.toNatClampNeg
    · subst hq
      simp only [updV, jup, if_true, and_self]
      exact hx2
    · simp [updV, jup, hq]) oq
  rw [jpl_set (g := jcell ω γ (jup M a i.toNatClampNeg x) R) h1 h2 jcell_upI (jcell_I h3 (by decide) (by decide))] at hP'
  exact kk H1 _ ls (by rw [z, hz]) hP' (hS.put z oq h1) hl hg
theorem j_aast (C : jC X ω cc own dd mc ms) {a n kd ci v : Nat} {i : Int32} {r : vw_C} (hA : jArr ω γ a kd n) (hkd : 13 ≤ kd ∧ kd < 16) (hV : jAt ω γ v ci) (hci : ci < 11) (hc : vwCl[ci]? = some r) (ht : (jtys ω)[kd - 11]? = some (ω.2.2.1 kd, .object r.1)) (hin : vp_in i n) (hd : decode cc pc = .ok (.aastore, 1))
    (kk : J X ω γ M (jup R a i.toNatClampNeg (some v)) cells slots (pc + 1) l rest) : J X ω γ M R cells slots pc l (.ref v :: .int i :: .ref a :: rest) := by
  obtain ⟨⟨h1, h2, h3⟩, rfl⟩ := hA
  obtain ⟨v1, v2, v3⟩ := hV
  intro H locs ls hz hP hS hl hg
  have hlt : i.toNatClampNeg < jL γ a := Nat.not_le.mp fun q => hin (Or.inr q)
  have h0 : ¬ i < 0 := fun q => hin (Or.inl q)
  have ha : (jpool ω γ M R)[a - jlo ω]? = some (a, .inl (ω.2.2.1 kd, jL γ a, .inr (.inr (.inr (.inr (R a)))))) := by rw [jpl_get h1 h2, jcell_R h3 hkd]
  have hv : (jpool ω γ M R)[v - jlo ω]? = some (v, .inr (ci, jfs (jP γ v) (M v) 0 (jlay ci))) := by rw [jpl_get v1 v2, jcell_O v3 hci]
  obtain ⟨r', hr', cellV, g1, g2, g3, -⟩ := hP _ _ hv
  have hcls := (C.kk.1 ci r hc).2
  obtain ⟨kA, comp, k1, k2, k3, -⟩ := (C.kk.2 _ _ ht).2
  have hcomp : comp = ω.2.1.1 ci := Option.some.inj (k3.symm.trans hcls.1)
  subst hcomp
  obtain ⟨kC, hkC, -⟩ := hcls.2
  refine W.aast C.ex C.cd (hP _ _ ha) (fun q h => by cases h) (fun h => by cases h) k1 k2 rfl hkC ⟨h0, by show _ < (arrV _ _ _).slots.size; rw [arrV_size]; exact hlt⟩ g1 (fun q h => by rw [g3] at h; cases h) (by rw [g2]; exact hkC) (by rw [g2]; exact va_assign hcls) rfl rfl hd fun H1 e z oq => ?_
  have hP' := hP.set (e := .inl (ω.2.2.1 kd, jL γ a, .inr (.inr (.inr (.inr (jup R a i.toNatClampNeg (some v) a)))))) jpl_D ha (by
    show H1[a]? = some (vp_cell _ _)
    rw [e, vp_cell_q, vp_cell_q, arrV_store]
    congr 2
    funext q
    by_cases hq : q = i.toNatClampNeg
    · subst hq
      simp [updV, jup, va_rf]
    · simp [updV, jup, hq]) oq
  rw [jpl_set (g := jcell ω γ M (jup R a i.toNatClampNeg (some v))) h1 h2 jcell_upR (jcell_R h3 hkd)] at hP'
  exact kk H1 _ ls (by rw [z, hz]) hP' (hS.put z oq h1) hl hg
end JM
