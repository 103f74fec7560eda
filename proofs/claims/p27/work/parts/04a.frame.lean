abbrev jX : Type := Program × Launch × Env × Room × State × MethodId × Array Value × List Frame × Method × Code × (State → Prop) × Nat
abbrev xp (X : jX) : Program := X.1
abbrev xl (X : jX) : Launch := X.2.1
abbrev xe (X : jX) : Env := X.2.2.1
abbrev xR (X : jX) : Room := X.2.2.2.1
abbrev xs (X : jX) : State := X.2.2.2.2.1
abbrev xm (X : jX) : MethodId := X.2.2.2.2.2.1
abbrev xargs (X : jX) : Array Value := X.2.2.2.2.2.2.1
abbrev xbelow (X : jX) : List Frame := X.2.2.2.2.2.2.2.1
abbrev xmeth (X : jX) : Method := X.2.2.2.2.2.2.2.2.1
abbrev xc (X : jX) : Code := X.2.2.2.2.2.2.2.2.2.1
abbrev xQ (X : jX) : State → Prop := X.2.2.2.2.2.2.2.2.2.2.1
abbrev xn (X : jX) : Nat := X.2.2.2.2.2.2.2.2.2.2.2
/-- the cells that anyone may write -/
abbrev jA (ω : jW) : Nat → Prop := fun q => jlo ω ≤ q
def jW0 (X : jX) (H : Heap) (locs : List Loc) (cells slots : Nat) (g : JFrame) : Prop := W (xp X) (xl X) (xe X) (xR X) (xs X) (xm X) (xargs X) (xbelow X) (xmeth X) (xc X) H locs cells slots (xQ X) g
/-- the judgement: the machine at pc, with these locals and this stack, the pool's ints M and references R, goes to its end -/
def J (X : jX) (ω : jW) (γ : jG) (M : jM) (R : jR) (cells slots pc : Nat) (l : List (Nat × Value)) (st : List Value) : Prop :=
  ∀ (H : Heap) (locs : List Loc) (ls : Array Slot), H.size = jlo ω + jn γ → va_P ω.2.1 vwCl (jpool ω γ M R) H → va_S (jA ω) (xs X).heap H locs → lv_has ls (xn X) l → (∀ q ∈ l, q.2.category = 1) →
    W (xp X) (xl X) (xe X) (xR X) (xs X) (xm X) (xargs X) (xbelow X) (xmeth X) (xc X) H locs cells slots (xQ X) (F0 (xm X) pc ls st)
def jLeast : Nat → Int32
  | 0 => 0
  | 1 => 0
  | _ => 1
def jMost : Nat → Int32
  | 0 => 1000
  | 1 => 1000
  | 2 => 99
  | 3 => 9
  | _ => 8
abbrev jtL (ω : jW) : Nat := ω.2.2.2.1
abbrev jtM (ω : jW) : Nat := ω.2.2.2.2.1
abbrev jsK (ω : jW) : Nat := ω.2.2.2.2.2.1
abbrev jsV (ω : jW) : Nat := ω.2.2.2.2.2.2.1
abbrev jsb (ω : jW) : Nat := ω.2.2.2.2.2.2.2.1
abbrev jsL (ω : jW) : Nat := ω.2.2.2.2.2.2.2.2.1
abbrev jsN (ω : jW) : Nat → Int32 := ω.2.2.2.2.2.2.2.2.2
/-- what stands below the pool and never changes: two tables, the String "=<>", one static of String's -/
def jXi (ω : jW) (U : State) (H : Heap) : Prop :=
  va_Z "PlanShelves" "LEAST_SETTING" "[I" (.ref (jtL ω)) (jA ω) U H ∧ va_T .int (jtL ω) 5 (fun j => .int (jLeast j)) (jA ω) U H ∧
  va_Z "PlanShelves" "MOST_SETTING" "[I" (.ref (jtM ω)) (jA ω) U H ∧ va_T .int (jtM ω) 5 (fun j => .int (jMost j)) (jA ω) U H ∧
  va_Z "java/lang/String" "COMPACT_STRINGS" "Z" (.int 1) (jA ω) U H ∧
  vk_S 1 [3] [[61, 60, 62]] (fun _ => jsK ω) (fun _ => jsV ω) (jA ω) U H ∧ vk_R "PlanShelves$Text" 30 "=<>" (jsK ω) U ∧ va_AO RX2 U ∧ va_AO RX4 U ∧ va_AO RX5 U ∧ va_T .int (jsb ω) (jsL ω) (fun j => .int (jsN ω j)) (jA ω) U H
theorem jXi_warm {ω : jW} {s U : State} {H : Heap} (hW : s.WarmedH U.vm) (h : jXi ω s H) : jXi ω U H :=
  ⟨va_Z.moved hW.alike h.1, va_T.moved hW.alike h.2.1, va_Z.moved hW.alike h.2.2.1, va_T.moved hW.alike h.2.2.2.1, va_Z.moved hW.alike h.2.2.2.2.1, vk_S.moved hW.alike h.2.2.2.2.2.1, vk_R.warm hW h.2.2.2.2.2.2.1, va_AO.moved hW.alike h.2.2.2.2.2.2.2.1, va_AO.moved hW.alike h.2.2.2.2.2.2.2.2.1, va_AO.moved hW.alike h.2.2.2.2.2.2.2.2.2.1, va_T.moved hW.alike h.2.2.2.2.2.2.2.2.2.2⟩
theorem jXi_same {ω : jW} {u U : State} {H : Heap} (hv : U.vm = u.vm) (ha : u.vm.Alike U.vm) (h : jXi ω u H) : jXi ω U H :=
  ⟨va_Z.moved ha h.1, va_T.moved ha h.2.1, va_Z.moved ha h.2.2.1, va_T.moved ha h.2.2.2.1, va_Z.moved ha h.2.2.2.2.1, vk_S.moved ha h.2.2.2.2.2.1, vk_R.same hv h.2.2.2.2.2.2.1, va_AO.moved ha h.2.2.2.2.2.2.2.1, va_AO.moved ha h.2.2.2.2.2.2.2.2.1, va_AO.moved ha h.2.2.2.2.2.2.2.2.2.1, va_T.moved ha h.2.2.2.2.2.2.2.2.2.2⟩
theorem jXi_kept {ω : jW} {U : State} {H H1 : Heap} (hq : ∀ a : Nat, a < H.size → ¬ jA ω a → H1[a]? = H[a]?) (h : jXi ω U H) : jXi ω U H1 :=
  ⟨va_Z.kept h.1 hq, va_T.kept h.2.1 hq, va_Z.kept h.2.2.1 hq, va_T.kept h.2.2.2.1 hq, va_Z.kept h.2.2.2.2.1 hq, vk_S.kept h.2.2.2.2.2.1 hq, h.2.2.2.2.2.2.1, h.2.2.2.2.2.2.2.1, h.2.2.2.2.2.2.2.2.1, h.2.2.2.2.2.2.2.2.2.1, va_T.kept h.2.2.2.2.2.2.2.2.2.2 hq⟩
def jC (X : jX) (ω : jW) (cc : ByteArray) (own : String) (dd mc ms : Nat) : Prop :=
  (xp X).tables.exec = Jvm.exec ∧ (xc X).code = cc ∧ (xc X).maxLocals = xn X ∧ (xs X).vm.findClass own = some (xm X).cls ∧ (∀ w ∈ TBL, w.before (xargs X) (xs X) = true) ∧
  va_K ω.2.1 vwCl (jtys ω) (xs X) ∧ (∀ w ∈ NWL, va_Nw w (xs X)) ∧ jXi ω (xs X) (xs X).heap ∧ jlo ω ≤ (xs X).heap.size ∧ (dd ≤ (xR X).frames ∧ 38 * dd ≤ (xR X).locals ∧ mc ≤ (xR X).cells ∧ ms ≤ (xR X).slots)
section JC
variable {X : jX} {ω : jW} {cc : ByteArray} {own : String} {dd mc ms : Nat}
theorem jC.ex (C : jC X ω cc own dd mc ms) : (xp X).tables.exec = Jvm.exec := C.1
theorem jC.cd (C : jC X ω cc own dd mc ms) : (xc X).code = cc := C.2.1
theorem jC.ml (C : jC X ω cc own dd mc ms) : (xc X).maxLocals = xn X := C.2.2.1
theorem jC.ow (C : jC X ω cc own dd mc ms) : (xs X).vm.findClass own = some (xm X).cls := C.2.2.2.1
theorem jC.ts (C : jC X ω cc own dd mc ms) : ∀ w ∈ TBL, w.before (xargs X) (xs X) = true := C.2.2.2.2.1
theorem jC.kk (C : jC X ω cc own dd mc ms) : va_K ω.2.1 vwCl (jtys ω) (xs X) := C.2.2.2.2.2.1
theorem jC.nw (C : jC X ω cc own dd mc ms) : ∀ w ∈ NWL, va_Nw w (xs X) := C.2.2.2.2.2.2.1
theorem jC.xi (C : jC X ω cc own dd mc ms) : jXi ω (xs X) (xs X).heap := C.2.2.2.2.2.2.2.1
theorem jC.lo (C : jC X ω cc own dd mc ms) : jlo ω ≤ (xs X).heap.size := C.2.2.2.2.2.2.2.2.1
theorem jC.rm (C : jC X ω cc own dd mc ms) : dd ≤ (xR X).frames ∧ 38 * dd ≤ (xR X).locals ∧ mc ≤ (xR X).cells ∧ ms ≤ (xR X).slots := C.2.2.2.2.2.2.2.2.2
theorem jC.fix (C : jC X ω cc own dd mc ms) : CallFix (xp X) (xm X) (xc X) cc (xn X) (xs X) (xargs X) TBL own := ⟨C.ex, C.cd, C.ml, C.ow, C.ts⟩
end JC
def jPre (ω : jW) (γ : jG) (M : jM) (R : jR) (U : State) : Prop :=
  U.heap.size = jlo ω + jn γ ∧ va_P ω.2.1 vwCl (jpool ω γ M R) U.heap ∧ va_K ω.2.1 vwCl (jtys ω) U ∧ (∀ w ∈ NWL, va_Nw w U) ∧ jXi ω U U.heap
abbrev jPost : Type := Option Value → jG → jM → jR → Prop
def jQ (ω : jW) (Post : jPost) : Array Value → State → Outcome → State → Prop := fun _ st oc t =>
  ∃ (v : Option Value) (γ : jG) (M : jM) (R : jR), oc = .returned v ∧ Post v γ M R ∧ t.heap.size = jlo ω + jn γ ∧ va_P ω.2.1 vwCl (jpool ω γ M R) t.heap ∧ va_F (jA ω) st t
abbrev jrm (d mc ms : Nat) : Room := { frames := d, cells := mc, slots := ms, locals := 38 * d }
/-- a contract -/
def Ct (l : Launch) (ω : jW) (y : MethodName) (cc : ByteArray) (maxL : Nat) (ret : Option FieldType) (d mc ms : Nat) (args : List Value) (γ : jG) (M : jM) (R : jR) (Post : jPost) : Prop :=
  Met l y (Cond.code y cc maxL ret :: TBL) (jrm d mc ms) (va_Pc args (jPre ω γ M R)) (jQ ω Post) mc ms (jA ω)
/-- how a method ends -/
def jE (X : jX) (ω : jW) (ret : Option FieldType) (mc ms : Nat) (Post : jPost) : Prop :=
  (xmeth X).sig.returnType = ret ∧ (xmeth X).locks = false ∧ xQ X = MQ (xbelow X) (jQ ω Post) (xargs X) (xs X) mc ms (jA ω)
theorem jPre_blind (args : List Value) (ω : jW) (γ : jG) (M : jM) (R : jR) : FrameBlind (va_Pc args (jPre ω γ M R)) := by
  intro a U g mk q
  obtain ⟨q0, q1, q2, q3, q4, q5⟩ := q
  exact ⟨q0, q1, q2, va_K.moved (u := U) (U := U.calling g mk a) (Vm.Alike.refl U.vm) q3, nw_same (u := U) (U := U.calling g mk a) rfl q4, jXi_same (u := U) (U := U.calling g mk a) rfl (Vm.Alike.refl U.vm) q5⟩
theorem Ct_of {l : Launch} {ω : jW} {y : MethodName} {cc : ByteArray} {maxL : Nat} {ret : Option FieldType} {d mc ms : Nat} {args : List Value} {γ : jG} {M : jM} {R : jR} {Post : jPost} (hy : plainName y.cls = true) (hargs : (lg_sl args).length ≤ maxL) {l0 : List (Nat × Value)} (hl0 : lv_args 0 args = l0) (hcat : ∀ q ∈ l0, q.2.category = 1)
    (body : ∀ X : jX, jC X ω cc y.cls d mc ms → jE X ω ret mc ms Post → (xmeth X).name = y.name → xl X = l → xn X = maxL → J X ω γ M R 0 0 0 l0 []) : Ct l ω y cc maxL ret d mc ms args γ M R Post := by
  refine Met.ofW (cc := cc) (maxL := maxL) (ret := ret) hy rfl ?_
  intro p e s m args' below meth c s₁ B hml hv
  obtain ⟨rfl, hz, hP, hK, hN, hX⟩ := hv
  have hts := atoms_spec (ws := Cond.code y cc maxL ret :: TBL) B.pre
  have hl := lv_entry args (n := maxL) hargs
  rw [hl0] at hl
  have h := body (p, l, e, (headSpec (Cond.code y cc maxL ret :: TBL) (jrm d mc ms)).room, s, m, args.toArray, below, meth, c, MQ below (jQ ω Post) args.toArray s mc ms (jA ω), maxL)
    ⟨B.exec, B.bytes, hml, findClass_of_methodNamed B.named, fun w hw => hts w (List.mem_cons_of_mem _ hw), hK, hN, hX, by rw [hz]; exact Nat.le_add_right _ _, Nat.le_refl _, Nat.le_refl _, Nat.le_refl _, Nat.le_refl _⟩
    ⟨B.returns, B.notSynchronized, rfl⟩ (name_of_methodNamed B.named B.method).1 rfl rfl
  rw [lg_entry_eq]
  exact h s.heap [] _ hz hP va_S.rf hl hcat
section JR
variable {X : jX} {ω : jW} {γ : jG} {M : jM} {R : jR} {cells slots pc : Nat} {l : List (Nat × Value)} {rest : List Value} {cc : ByteArray} {own : String} {dd mc ms : Nat} {Post : jPost}
theorem j_ireturn (C : jC X ω cc own dd mc ms) {ty : FieldType} (E : jE X ω (some ty) mc ms Post) {v : Int32} (hd : decode cc pc = .ok (.ireturn, 1)) (hn : narrow ty (.int v) = .int v) (hc : cells ≤ mc) (hs : slots ≤ ms) (hp : Post (some (.int v)) γ M R) : J X ω γ M R cells slots pc l [.int v] := by
  intro H locs ls hz hP hS hl hg
  refine W.widen hc hs ?_
  rw [E.2.2]
  exact W.zret C.ex C.cd E.1 hn (fun t ht hW => ⟨some (.int v), γ, M, R, rfl, hp, by rw [ht]; exact hz, by rw [ht]; exact hP, hS.F ht⟩) hS.2.2 hd E.2.1
theorem j_areturn (C : jC X ω cc own dd mc ms) {rt : FieldType} (E : jE X ω (some rt) mc ms Post) {a : Nat} (hd : decode cc pc = .ok (.areturn, 1)) (hrt : (∃ n, rt = .object n) ∨ ∃ t, rt = .array t) (hc : cells ≤ mc) (hs : slots ≤ ms) (hp : Post (some (.ref a)) γ M R) : J X ω γ M R cells slots pc l [.ref a] := by
  intro H locs ls hz hP hS hl hg
  refine W.widen hc hs ?_
  rw [E.2.2]
  exact W.aret C.ex C.cd E.1 hrt (Or.inr ⟨a, rfl⟩) (fun t ht hW => ⟨some (.ref a), γ, M, R, rfl, hp, by rw [ht]; exact hz, by rw [ht]; exact hP, hS.F ht⟩) hS.2.2 hd E.2.1
theorem j_return (C : jC X ω cc own dd mc ms) (E : jE X ω none mc ms Post) (hd : decode cc pc = .ok (.return_, 1)) (hc : cells ≤ mc) (hs : slots ≤ ms) (hp : Post none γ M R) : J X ω γ M R cells slots pc l [] := by
  intro H locs ls hz hP hS hl hg
  refine W.widen hc hs ?_
  rw [E.2.2]
  exact W.vret C.ex C.cd E.1 (fun t ht hW => ⟨none, γ, M, R, rfl, hp, by rw [ht]; exact hz, by rw [ht]; exact hP, hS.F ht⟩) hS.2.2 hd E.2.1
end JR
