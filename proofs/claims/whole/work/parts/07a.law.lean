/-! THE CLAIM OUT OF ONE WALK OF THE LAW'S BODY. Your part is whole_start (and what it stands on); all else here is the same for every law, but numbers. -/
def R_law : String := "PlanShelvesLaw"
def lw_P (b : Addr) (xs : List Int32) (args : Array Value) (s : State) : Prop := args = #[.ref b] ∧ s.IntsAt b xs ∧ xs.length ≤ 3072 ∧ (Jvm.Cond.and given_1 narrow_1).before args s = true
def lw_Q (_ : Array Value) (s : State) (o : Outcome) (t : State) : Prop := o = .returned (some (.int 1)) ∧ Framed s o t [] 600000 7302250
def lw_Z (below : List Frame) (a : Array Value) (s : State) : State → Prop := fun t => ∃ o, t.status = .running ∧ Ended t below o ∧ lw_Q a s o t
/-- the law's own end, with 1 on the stack, nothing written that was there before, its room as the claim has it -/
theorem lw_ret {p : Program} {l : Launch} {e : Env} {s : State} {m : MethodId} {below : List Frame} {meth : Method} {c : Code} {b : Nat} (hx : p.tables.exec = Jvm.exec) (hb : c.code = code) (hr : meth.sig.returnType = ret) (hlocks : meth.locks = false) {pc : Nat} {H : Heap} {ls : Array Slot} (hdg : decode code pc = .ok (.ireturn, 1)) : W p l e room_1 s m #[Value.ref b] below meth c H [] 600000 7302250 (lw_Z below #[Value.ref b] s) (F0 m pc ls [.int 1]) := by
  intro T hT X
  obtain ⟨fs, hret, hrun, hended, hW, hframe⟩ := X.leave (v := some (.int 1)) (hlocks := hlocks) (fun h => by rw [hr] at h; cases h)
  have hmeth' : T.vm.method? m = some meth := X.method'
  refine ⟨T.setFrames fs, ?_, .returned (some (.int 1)), hrun, hended, rfl, ⟨_, rfl⟩, hW, hframe⟩
  jvm_step X.here [X.here.top, hx, hb, hdg, hmeth', hr, ret, narrow_b1]
  (try refine ⟨rfl, ?_⟩); (try refine ⟨rfl, ?_⟩)
  first | (intro acts; rw [hret _ acts rfl rfl rfl]) | rw [hret _ _ rfl rfl rfl]
  exact Steps.refl _
/-- what holds at the law's entry: the machine, the code, the tables' words (any of lw_tbl by 'hts w (by decide +kernel)'), the script of L ints xs at the cell b, what the Statement gives of the start (any of its parts by flat_of_before) -/
def lw_At (p : Program) (s : State) (m : MethodId) (meth : Method) (c : Code) (b L : Nat) (xs : Nat → Int32) : Prop :=
  p.tables.exec = Jvm.exec ∧ c.code = code ∧ meth.sig.returnType = ret ∧ c.maxLocals = 4 ∧ s.vm.findClass R_law = some m.cls ∧ (∀ w ∈ lw_tbl, w.before #[Value.ref b] s = true) ∧ va_X b L xs s s.heap ∧ b < s.heap.size ∧ meth.locks = false ∧ (Jvm.Cond.and given_1 narrow_1).before #[Value.ref b] s = true
section SCR
variable {X : jX} {ω : jW} {γ : jG} {M : jM} {R : jR} {cells slots pc : Nat} {l : List (Nat × Value)} {rest : List Value} {cc : ByteArray} {own : String} {dd mc ms : Nat} {bb L : Nat} {ns : Nat → Int32}
theorem j_sld (C : jC X ω cc own dd mc ms) (hX : va_X bb L ns (xs X) (xs X).heap) (hbl : bb < (xs X).heap.size) (hlo : jlo ω = (xs X).heap.size) {i : Nat} (hi : i < L) (hL : L < 2 ^ 31) (hd : decode cc pc = .ok (.iaload, 1)) (k : J X ω γ M R cells slots (pc + 1) l (.int (ns i) :: rest)) : J X ω γ M R cells slots pc l (.int (nI i) :: .ref bb :: rest) := by
  intro H locs ls hz hP hS hlv hg
  refine va_sld (xs := ns) (A := jA ω) C.ex C.cd hX hbl (show ¬ jlo ω ≤ bb by omega) hS (vp_in_nI hi hL) hd ?_
  rw [nI_clamp (show i < 2 ^ 31 by omega)]
  exact k H locs ls hz hP hS hlv hg
theorem j_slen (C : jC X ω cc own dd mc ms) (hX : va_X bb L ns (xs X) (xs X).heap) (hbl : bb < (xs X).heap.size) (hlo : jlo ω = (xs X).heap.size) (hd : decode cc pc = .ok (.arraylength, 1)) (k : J X ω γ M R cells slots (pc + 1) l (.int (nI L) :: rest)) : J X ω γ M R cells slots pc l (.ref bb :: rest) := by
  intro H locs ls hz hP hS hlv hg
  exact va_slen (xs := ns) (A := jA ω) C.ex C.cd hX hbl (show ¬ jlo ω ≤ bb by omega) hS hd (k H locs ls hz hP hS hlv hg)
end SCR
section PRE
variable {M M1 : jM} {R : jR} {a h T v m b nh r n c len : Nat} {f : Nat → Nat}
/-- what a call of the model asks, whatever the class did before -/
theorem mod_pre (I : eInv M R a h T v m b nh) (e : eR M R a (M (m + 1)) b r n c f) (hx : eTxt M T m len) (md : ∀ y, m ≤ y → M1 y = M y) :
    M1 (m + 1) 0 = nI r ∧ r ≤ 30 ∧ M1 (m + 1) 4 = nI n ∧ n ≤ 8 ∧ M1 m 2 = nI nh ∧ nh ≤ 4 ∧ M1 (m + 1) 3 = nI c ∧ c ≤ 6 ∧ (∀ t, t < c → zSt (M1 (m + 1)) t (zN (M1 (m + 1)) t)) ∧ zRows (M1 (m + 1)) r ∧ M1 m 4 = nI len ∧ len ≤ 30 ∧ zPl M1 m n ∧ (∃ cap, M1 (m + 1) 15 = nI cap ∧ cap ≤ 8) ∧
      ∀ q, q < n → ∃ t, t < c ∧ M1 (m + 1) (367 + 9 * q + 1) = nI t ∧ ∃ w, (w = 9 ∨ w < zN (M1 (m + 1)) t) ∧ M1 (m + 1) (367 + 9 * q + 3) = nI w := by
  obtain ⟨I1, I2, I3, I4, I5, -, I7, I8, I9, I10⟩ := I
  obtain ⟨h1, h2, h3, h4, h5, h6, h7, ⟨k1, k2, k3, k4, k5, k6⟩, h9⟩ := e
  obtain ⟨x1, x2, x3, x4⟩ := hx
  have e1 : M1 (m + 1) = M (m + 1) := md _ (by omega)
  have e0 : M1 m = M m := md _ (Nat.le_refl m)
  obtain ⟨cap, c1, -, c3⟩ := h5.2
  unfold zPl
  rw [e1, e0]
  refine ⟨h1.2.1, h1.2.2.1, k2, k3, I2, I1.2.2.1, h4.2.1, h4.2.2.1, fun t ht => (h4.2.2.2 t ht).1, h1.2.2.2.2.1, x3, x1, fun q hq => ?_, ⟨cap, c3, c1⟩, fun q hq => (k6 q hq).2⟩
  obtain ⟨-, t, t1, t2, w, t3, t4⟩ := k6 q hq
  have hc6 := h4.2.2.1
  have := (h4.2.2.2 t t1).1.2.2.2.1
  exact ⟨t, w, by omega, by omega, t2, t4⟩
end PRE
