/-! THE CLAIM OUT OF ONE WALK OF THE LAW'S BODY. Your part is whole_start (and what it stands on); all else here is the same for every law, but numbers. -/
def R_law : String := "PlanShelvesLaw"
def lw_P (b : Addr) (xs : List Int32) (args : Array Value) (s : State) : Prop := args = #[.ref b] ∧ s.IntsAt b xs ∧ xs.length ≤ 260 ∧ (Jvm.Cond.and given_1 narrow_1).before args s = true
def lw_Q (_ : Array Value) (s : State) (o : Outcome) (t : State) : Prop := o = .returned (some (.int 1)) ∧ Framed s o t [] 663643 7111319
def lw_Z (below : List Frame) (a : Array Value) (s : State) : State → Prop := fun t => ∃ o, t.status = .running ∧ Ended t below o ∧ lw_Q a s o t
/-- the law's own end, with 1 on the stack, nothing written that was there before, its room as the claim has it -/
theorem lw_ret {p : Program} {l : Launch} {e : Env} {s : State} {m : MethodId} {below : List Frame} {meth : Method} {c : Code} {b : Nat} (hx : p.tables.exec = Jvm.exec) (hb : c.code = code) (hr : meth.sig.returnType = ret) (hlocks : meth.locks = false) {pc : Nat} {H : Heap} {ls : Array Slot} (hdg : decode code pc = .ok (.ireturn, 1)) : W p l e room_1 s m #[Value.ref b] below meth c H [] 663643 7111319 (lw_Z below #[Value.ref b] s) (F0 m pc ls [.int 1]) := by
  intro T hT X
  obtain ⟨fs, hret, hrun, hended, hW, hframe⟩ := X.leave (v := some (.int 1)) (hlocks := hlocks) (fun h => by rw [hr] at h; cases h)
  have hmeth' : T.vm.method? m = some meth := X.method'
  refine ⟨T.setFrames fs, ?_, .returned (some (.int 1)), hrun, hended, rfl, ⟨_, rfl⟩, hW, hframe⟩
  jvm_step X.here [X.here.top, hx, hb, hdg, hmeth', hr, ret, narrow_b1]
  (try refine ⟨rfl, ?_⟩); (try refine ⟨rfl, ?_⟩)
  first | (intro acts; rw [hret _ acts rfl rfl rfl]) | rw [hret _ _ rfl rfl rfl]
  exact Steps.refl _
/-- what holds at the law's entry: the machine, the code, the tables' words (any of lw_tbl by 'hts w (by decide +kernel)'), the script of L ints xs at the cell b, what the Statement gives of the start (any of its parts by flat_of_before) -/
def lw_At (p : Program) (s : State) (m : MethodId) (meth : Method) (c : Code) (b L : Nat) (xs : Nat → Int32) : Prop :=
  p.tables.exec = Jvm.exec ∧ c.code = code ∧ meth.sig.returnType = ret ∧ c.maxLocals = 11 ∧ s.vm.findClass R_law = some m.cls ∧ (∀ w ∈ lw_tbl, w.before #[Value.ref b] s = true) ∧ va_X b L xs s s.heap ∧ b < s.heap.size ∧ meth.locks = false ∧ (Jvm.Cond.and given_1 narrow_1).before #[Value.ref b] s = true
/-- the law's own end -/
theorem j_lend {p : Program} {l : Launch} {e : Env} {s : State} {m : MethodId} {below : List Frame} {meth : Method} {c : Code} {b : Nat} {ω : jW} {γ : jG} {M : jM} {R : jR} {cells slots : Nat} {ls0 : List (Nat × Value)} (C : jC (p, l, e, room_1, s, m, #[Value.ref b], below, meth, c, lw_Z below #[Value.ref b] s, 11) ω cL_law RL 13 663643 7111319)
    (hr : meth.sig.returnType = ret) (hlocks : meth.locks = false) (hlo : jlo ω = s.heap.size) (hcs : cells ≤ 663643 ∧ slots ≤ 7111319) : J (p, l, e, room_1, s, m, #[Value.ref b], below, meth, c, lw_Z below #[Value.ref b] s, 11) ω γ M R cells slots 264 ls0 [.int (nI 1)] := by
  refine j_top 1 (by decide) ?_
  intro H locs ls hz hP hS hl hg
  refine va_forget (fun q hq => ?_) ?_
  · have := hS.2.2 q hq
    show s.heap.size ≤ q.base
    rw [← hlo]
    exact this
  · refine W.widen hcs.1 hcs.2 ?_
    exact lw_ret C.ex C.cd hr hlocks dL_law_264
theorem lw_w {w : Cond} (i : Nat) (h : tables_1[i]? = some w) : w ∈ lw_tbl := List.mem_append_right _ (List.mem_of_getElem? h)
theorem arr_K {s : State} {args : Array Value} {ty : FieldType} (h : (Cond.arrayClass ty).before args s = true) (hty : ∀ C, ty ≠ .object C) : ∃ cA, ArrOfT s cA ty ∧ va_RA s cA ty := by
  obtain ⟨cA, kA, comp, h1, h2, h3⟩ := Cond.arrayClass_spec h
  refine ⟨cA, fun n z => ⟨(fun k h => by cases h), kA, h2, comp, h3⟩, ?_⟩
  cases ty <;> first | exact h1 | exact absurd rfl (hty _)
theorem arr_O {s : State} {args : Array Value} {C : String} (h : (Cond.arrayOver (.object C)).before args s = true) : ∃ cA, ArrOfT s cA (.object C) ∧ va_RA s cA (.object C) := by
  obtain ⟨comp, cA, kA, h1, h2, h3, h4, h5⟩ := Cond.arrayOver_spec h
  exact ⟨cA, fun n z => ⟨(fun k h => by cases h), kA, h3, comp, h4⟩, kA, comp, h3, h4, h1, h5⟩
theorem cls_K {s : State} {args : Array Value} (hts : ∀ w ∈ TBL, w.before args s = true) : ∃ (dC : Nat → ClassId) (dI : Nat → Nat → Nat), ∀ (k : Nat) (q : vw_C), vwCl[k]? = some q → u_Kn s q.1 q.2.1 q.2.2 (dC k) (dI k) := by
  have key : ∀ k : Nat, ∃ z : ClassId × (Nat → Nat), ∀ q : vw_C, vwCl[k]? = some q → u_Kn s q.1 q.2.1 q.2.2 z.1 z.2 := by
    have mk : ∀ {C : String} {T : u_T} {N n : Nat} (k : Nat), vwCl[k]? = some (C, T, N) → (∀ w ∈ u_ws C T N, w ∈ TBL) → Cond.instantiable C n ∈ TBL → ∃ z : ClassId × (Nat → Nat), ∀ q : vw_C, vwCl[k]? = some q → u_Kn s q.1 q.2.1 q.2.2 z.1 z.2 := by
      intro C T N n k h1 h2 h3
      obtain ⟨c0, i0, h⟩ := u_known hts h2 (hts _ h3)
      exact ⟨(c0, i0), fun q hq => by
        rw [h1] at hq
        cases hq
        exact h⟩
    intro k
    match k with
    | 0 => exact mk 0 rfl cl0_ws inst0
    | 1 => exact mk 1 rfl cl1_ws inst1
    | 2 => exact mk 2 rfl cl2_ws inst2
    | 3 => exact mk 3 rfl cl3_ws inst3
    | 4 => exact mk 4 rfl cl4_ws inst4
    | 5 => exact mk 5 rfl cl5_ws inst5
    | 6 => exact mk 6 rfl cl6_ws inst6
    | 7 => exact mk 7 rfl cl7_ws inst7
    | 8 => exact mk 8 rfl cl8_ws inst8
    | 9 => exact mk 9 rfl cl9_ws inst9
    | k + 10 => exact ⟨(0, fun _ => 0), fun q hq => by simp at hq⟩
  obtain ⟨z, hz⟩ := Classical.axiomOfChoice key
  exact ⟨fun k => (z k).1, fun k => (z k).2, fun k q hq => hz k q hq⟩
/-- a static row of five ints -/
theorem tab_K {s : State} {args : Array Value} {nm : String} {f : Nat → Int32} {A : Nat → Prop} (hl : (Cond.laysStatic "PlanShelves" nm "[I").before args s = true) (hini : (Cond.initialized "PlanShelves").before args s = true) (ha : (Cond.arrayOf (.static "PlanShelves" nm "[I") .int).before args s = true) (hlen : (Cond.eq (.length (.static "PlanShelves" nm "[I")) (.int 5)).before args s = true)
    (he : ∀ j : Nat, j < 5 → (Cond.eq (.elem (.static "PlanShelves" nm "[I") (.int (Int32.ofNat j))) (.int (f j))).before args s = true) (hA : ∀ a : Nat, a < s.heap.size → ¬ A a) : ∃ t : Nat, va_Z "PlanShelves" nm "[I" (.ref t) A s s.heap ∧ va_T .int t 5 (fun j => .int (f j)) A s s.heap := by
  obtain ⟨t, h1, h2⟩ := va_Tof (tm := .static "PlanShelves" nm "[I") (ty := .int) (N := 5) (f := fun j => .int (f j)) (A := A) (by decide) ha (va_eqt hlen) (fun j hj => va_eqt (he j hj)) hA
  exact ⟨t, va_Zref hl hini h1 hA, h2⟩
set_option maxHeartbeats 4000000 in
set_option maxRecDepth 100000 in
/-- YOUR PART: from the entry, for every script of at most 260 ints, the law comes to its end with true ('hflags': the launch's flags, for a law that throws: no stack traces) -/
theorem whole_start {p : Program} {e : Env} {s : State} {m : MethodId} {below : List Frame} {meth : Method} {c : Code} (l : Launch) (hflags : l.flags = flags0) {b L : Nat} {xs : Nat → Int32} (hL : L ≤ 260) (C0 : lw_At p s m meth c b L xs) : W p l e room_1 s m #[Value.ref b] below meth c s.heap [] 0 0 (lw_Z below #[Value.ref b] s) (entryFrame m ([Value.ref b] : List Value).toArray 11) := by
  obtain ⟨hx, hb, hr, hml, hown, hts, hX, hbl, hlocks, hgv⟩ := C0
  have hs := flat_of_before _ hgv
  have hA : ∀ q : Nat, q < s.heap.size → ¬ s.heap.size ≤ q := fun q h => Nat.not_le.mpr h
  have htb : ∀ w ∈ TBL, w.before #[Value.ref b] s = true := fun w hw => hts w (List.mem_filter.mp hw).1
  obtain ⟨dC, dI, hK⟩ := cls_K htb
  obtain ⟨a11, k11⟩ := arr_K (ty := .char) (htb _ ar_C) (fun C h => by cases h)
  obtain ⟨a12, k12⟩ := arr_K (ty := .int) (htb _ ar_I) (fun C h => by cases h)
  obtain ⟨a16, k16⟩ := arr_K (ty := .long) (htb _ ar_L) (fun C h => by cases h)
  obtain ⟨a13, k13⟩ := arr_O (C := RX2) (hts _ (lw_w 101 (by decide +kernel)))
  obtain ⟨a14, k14⟩ := arr_O (C := RX4) (hts _ (lw_w 273 (by decide +kernel)))
  obtain ⟨a15, k15⟩ := arr_O (C := RX5) (hts _ (lw_w 70 (by decide +kernel)))
  obtain ⟨tL, zL, vL⟩ := tab_K (f := jLeast) (nm := "LEAST_SETTING") (A := fun q => s.heap.size ≤ q) (hts _ (lw_w 496 (by decide +kernel))) (hts _ (lw_w 1 (by decide +kernel))) (hs _ (by decide +kernel)) (hs _ (by decide +kernel)) (fun j hj => by
    match j, hj with
    | 0, _ => exact hs _ (by decide +kernel)
    | 1, _ => exact hs _ (by decide +kernel)
    | 2, _ => exact hs _ (by decide +kernel)
    | 3, _ => exact hs _ (by decide +kernel)
    | 4, _ => exact hs _ (by decide +kernel)) hA
  obtain ⟨tM, zM, vM⟩ := tab_K (f := jMost) (nm := "MOST_SETTING") (A := fun q => s.heap.size ≤ q) (hts _ (lw_w 499 (by decide +kernel))) (hts _ (lw_w 1 (by decide +kernel))) (hs _ (by decide +kernel)) (hs _ (by decide +kernel)) (fun j hj => by
    match j, hj with
    | 0, _ => exact hs _ (by decide +kernel)
    | 1, _ => exact hs _ (by decide +kernel)
    | 2, _ => exact hs _ (by decide +kernel)
    | 3, _ => exact hs _ (by decide +kernel)
    | 4, _ => exact hs _ (by decide +kernel)) hA
  have zC : va_Z "java/lang/String" "COMPACT_STRINGS" "Z" (.int 1) (fun q => s.heap.size ≤ q) s s.heap := va_Zof (hts _ (lw_w 555 (by decide +kernel))) (hts _ (lw_w 11 (by decide +kernel))) (va_eqt (hs _ (by decide +kernel))) hA
  obtain ⟨adK, adV, vS, vE⟩ := vk_Sof (args := #[Value.ref b]) (s := s) (N := 1) (tm := fun _ => .string "PlanShelves$Text" 30) (len := [3]) (byt := [[61, 60, 62]]) (A := fun q => s.heap.size ≤ q) (fun i hi => by
      rw [show i = 0 by omega]
      decide) (fun i hi => hs _ (by decide +kernel)) (fun i hi => hs _ (by decide +kernel)) (fun i hi => hs _ (by decide +kernel)) (fun i hi => by
      rw [show i = 0 by omega]
      exact hs _ (by decide +kernel)) (fun i hi j hj => by
      rw [show i = 0 by omega] at hj ⊢
      have hj : j < 3 := hj
      match j, hj with
      | 0, _ => exact hs _ (by decide +kernel)
      | 1, _ => exact hs _ (by decide +kernel)
      | 2, _ => exact hs _ (by decide +kernel)) (fun i j hi hj hne => absurd (show i = j by omega) hne) hA
  have vS1 : vk_S 1 [3] [[61, 60, 62]] (fun _ => adK 0) (fun _ => adV 0) (fun q => s.heap.size ≤ q) s s.heap := ⟨fun i hi => by
    have := vS.1 0 (by decide)
    rw [show i = 0 by omega]
    exact this, fun i j hi hj _ => by omega⟩
  have tX : va_T .int b L (fun j => .int (xs j)) (fun q => s.heap.size ≤ q) s s.heap := by
    obtain ⟨scr, x1, x2, x3, x4, x5⟩ := hX
    exact ⟨scr, x1, x2, x3, Nat.le_of_eq x4.symm, by rw [x4], x5, Nat.not_le.mpr hbl⟩
  have C : jC (p, l, e, room_1, s, m, #[Value.ref b], below, meth, c, lw_Z below #[Value.ref b] s, 11) (s.heap.size, (dC, dI), (fun k => if k = 11 then a11 else if k = 12 then a12 else if k = 13 then a13 else if k = 14 then a14 else if k = 15 then a15 else a16), tL, tM, adK 0, adV 0, b, L, xs) cL_law RL 13 663643 7111319 := by
    refine ⟨hx, hb, hml, hown, htb, ⟨hK, fun k q hq => ?_⟩, fun w hw => ?_, ⟨zL, vL, zM, vM, zC, vS1, vk_R.of (hts _ (lw_w 541 (by decide +kernel))) (vE 0 (by decide)), va_AO.of (hts _ (lw_w 101 (by decide +kernel))), va_AO.of (hts _ (lw_w 273 (by decide +kernel))), va_AO.of (hts _ (lw_w 70 (by decide +kernel))), tX⟩, Nat.le_refl _, Nat.le_of_ble_eq_true rfl, Nat.le_of_ble_eq_true rfl, Nat.le_refl _, Nat.le_refl _⟩
    · match k, hq with
      | 0, hq => cases hq; exact k11
      | 1, hq => cases hq; exact k12
      | 2, hq => cases hq; exact k13
      | 3, hq => cases hq; exact k14
      | 4, hq => cases hq; exact k15
      | 5, hq => cases hq; exact k16
      | k + 6, hq => simp [jtys] at hq
    · obtain ⟨h1, h2⟩ := List.mem_filter.mp hw
      have h3 := hts w h1
      cases w <;> first | exact va_Nw.of rfl h3 | (simp [jNest] at h2)
  have jj := law_first (γ := (0, fun _ => 0, fun _ => 0, fun _ _ => none)) (M := fun _ _ => 0) (R := fun _ _ => none) C rfl hL rfl (fun γ2 M2 R2 l2 cells slots hcs => j_lend C hr hlocks rfl hcs)
  have hl := lv_entry ([.ref b]) (n := 11) (Nat.le_of_ble_eq_true rfl)
  rw [lg_entry_eq]
  exact jj s.heap [] _ rfl (fun k q hq => absurd (jpl_at hq).1 (Nat.not_lt_zero k)) va_S.rf hl (fun q hq => by
    rcases List.mem_singleton.mp hq with rfl
    rfl)
