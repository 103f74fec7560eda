def jz {α : Type} (M : Nat → Nat → α) (a : Nat) (v : α) : Nat → Nat → α := fun b j => if b = a then v else M b j
theorem jz_row {α : Type} (M : Nat → Nat → α) {a b : Nat} (v : α) (h : b ≠ a) : jz M a v b = M b := funext fun _ => if_neg h
theorem jz_at {α : Type} (M : Nat → Nat → α) (a : Nat) (v : α) : jz M a v a = fun _ => v := funext fun _ => if_pos rfl
/-- one cell more -/
def jnew (ω : jW) (γ : jG) (kd len : Nat) : jG := (jn γ + 1, va_up (jK γ) (jlo ω + jn γ) kd, va_up (jL γ) (jlo ω + jn γ) len, jz (jP γ) (jlo ω + jn γ) none)
theorem jva_up_self {α : Type} (f : Nat → α) (k : Nat) (v : α) : va_up f k v k = v := if_pos rfl
theorem jva_up_other {α : Type} (f : Nat → α) {k j : Nat} (v : α) (h : j ≠ k) : va_up f k v j = f j := if_neg h
theorem jcell_new {ω : jW} {γ : jG} {M : jM} {R : jR} {kd len : Nat} : ∀ b, b < jlo ω + jn γ → jcell ω (jnew ω γ kd len) (jz M (jlo ω + jn γ) 0) (jz R (jlo ω + jn γ) none) b = jcell ω γ M R b := by
  intro b hb
  have hne : b ≠ jlo ω + jn γ := by omega
  have e1 : jK (jnew ω γ kd len) b = jK γ b := jva_up_other _ _ hne
  have e2 : jL (jnew ω γ kd len) b = jL γ b := jva_up_other _ _ hne
  have e3 : jP (jnew ω γ kd len) b = jP γ b := jz_row _ _ hne
  simp only [jcell, e1, e2, e3, jz_row _ _ hne]
theorem jcell_newO {ω : jW} {γ : jG} {M : jM} {R : jR} {kd len : Nat} (h : kd < 11) : jcell ω (jnew ω γ kd len) (jz M (jlo ω + jn γ) 0) (jz R (jlo ω + jn γ) none) (jlo ω + jn γ) = .inr (kd, jfs (fun _ => none) (fun _ => 0) 0 (jlay kd)) := by
  have e1 : jK (jnew ω γ kd len) (jlo ω + jn γ) = kd := jva_up_self _ _ _
  have e3 : jP (jnew ω γ kd len) (jlo ω + jn γ) = fun _ => none := jz_at _ _ _
  rw [jcell_O e1 h, e3, jz_at]
theorem jcell_newI {ω : jW} {γ : jG} {M : jM} {R : jR} {kd len : Nat} (h1 : 11 ≤ kd) (h2 : kd < 13) : jcell ω (jnew ω γ kd len) (jz M (jlo ω + jn γ) 0) (jz R (jlo ω + jn γ) none) (jlo ω + jn γ) = .inl (ω.2.2.1 kd, len, .inl (fun _ => 0)) := by
  have e1 : jK (jnew ω γ kd len) (jlo ω + jn γ) = kd := jva_up_self _ _ _
  have e2 : jL (jnew ω γ kd len) (jlo ω + jn γ) = len := jva_up_self _ _ _
  rw [jcell_I e1 h1 h2, e2, jz_at]
theorem jcell_newR {ω : jW} {γ : jG} {M : jM} {R : jR} {kd len : Nat} (h1 : 13 ≤ kd ∧ kd < 16) : jcell ω (jnew ω γ kd len) (jz M (jlo ω + jn γ) 0) (jz R (jlo ω + jn γ) none) (jlo ω + jn γ) = .inl (ω.2.2.1 kd, len, .inr (.inr (.inr (.inr (fun _ => none))))) := by
  have e1 : jK (jnew ω γ kd len) (jlo ω + jn γ) = kd := jva_up_self _ _ _
  have e2 : jL (jnew ω γ kd len) (jlo ω + jn γ) = len := jva_up_self _ _ _
  rw [jcell_R e1 h1, e2, jz_at]
theorem jpool_new {ω : jW} {γ : jG} {M : jM} {R : jR} {kd len : Nat} {e : va_E} {H H1 : Heap} (hz : H.size = jlo ω + jn γ) (hP : va_P ω.2.1 vwCl (jpool ω γ M R) H) (o1 : ∀ q, q < H.size → H1[q]? = H[q]?)
    (he : va_at ω.2.1 vwCl (jlo ω + jn γ, e) H1) (hc : jcell ω (jnew ω γ kd len) (jz M (jlo ω + jn γ) 0) (jz R (jlo ω + jn γ) none) (jlo ω + jn γ) = e) : va_P ω.2.1 vwCl (jpool ω (jnew ω γ kd len) (jz M (jlo ω + jn γ) 0) (jz R (jlo ω + jn γ) none)) H1 := by
  have h1 : va_P ω.2.1 vwCl (jpool ω γ M R ++ [(jlo ω + jn γ, e)]) H1 := by
    refine va_P.app (hP.kept (fun k x hx => o1 x.1 ((hP k x hx).lt))) (fun k x hx => ?_)
    have hk : k < 1 := (List.getElem?_eq_some_iff.mp hx).1
    rw [show k = 0 by omega] at hx
    cases hx
    exact he
  rw [jpl_push jcell_new hc] at h1
  exact h1
theorem vaS_new {A : Nat → Prop} {H0 H H1 : Heap} {locs : List Loc} (hS : va_S A H0 H locs) (z : H.size ≤ H1.size) (o1 : ∀ q, q < H.size → H1[q]? = H[q]?) : va_S A H0 H1 locs :=
  ⟨Nat.le_trans hS.1 z, fun x h1 h2 => (o1 x (Nat.lt_of_lt_of_le h1 hS.1)).trans (hS.2.1 x h1 h2), hS.2.2⟩
section JN
variable {X : jX} {ω : jW} {γ : jG} {M : jM} {R : jR} {cells slots pc : Nat} {l : List (Nat × Value)} {rest : List Value} {cc : ByteArray} {own : String} {dd mc ms : Nat}
theorem j_new (C : jC X ω cc own dd mc ms) {index ci : Nat} {Cn : String} {T : u_T} {N : Nat} {tyf : Nat → FieldType} (hCl : jCl ci Cn T N tyf) (hci : ci < 11) (hl : Cond.classLink own index Cn ∈ TBL) (hin : Cond.instantiable Cn N ∈ TBL) (hini : Cond.initialized Cn ∈ TBL) (hd : decode cc pc = .ok (.new index, 3)) (hcs : cells + 1 ≤ mc ∧ slots + N ≤ ms)
    (kk : J X ω (jnew ω γ ci 0) (jz M (jlo ω + jn γ) 0) (jz R (jlo ω + jn γ) none) (cells + 1) (slots + N) (pc + 3) l (.ref (jlo ω + jn γ) :: rest)) : J X ω γ M R cells slots pc l rest := by
  obtain ⟨hcl, hws, hty, -, hdef, -⟩ := hCl
  obtain ⟨-, -, r3, r4⟩ := C.rm
  intro H locs ls hz hP hS hlv hg
  have hKn := C.kk.1 ci _ hcl
  refine W.newcK C.ex C.cd C.ow (C.ts _ hl) (C.ts _ hin) (C.ts _ hini) rfl hd (by omega) (by omega) hKn.2.1 hz fun H1 kC hkC e1 z1 o1 => ?_
  rw [← hz] at o1
  refine kk H1 locs ls (by rw [z1]; show _ = jlo ω + (jn γ + 1); omega) (jpool_new (e := .inr (ci, jfs (fun _ => none) (fun _ => 0) 0 (jlay ci))) hz hP o1 ⟨_, hcl, (u_born tyf C.ts hws hKn hkC e1 hty).to hdef⟩ (jcell_newO hci)) (vaS_new hS (by omega) o1) hlv hg
theorem j_newI (C : jC X ω cc own dd mc ms) {N : Nat} (harr : Cond.arrayClass .int ∈ TBL) (hN : N ≤ 100000) (hd : decode cc pc = .ok (.newarray .int, 2)) (hcs : cells + 1 ≤ mc ∧ slots + N ≤ ms)
    (kk : J X ω (jnew ω γ 12 N) (jz M (jlo ω + jn γ) 0) (jz R (jlo ω + jn γ) none) (cells + 1) (slots + N) (pc + 2) l (.ref (jlo ω + jn γ) :: rest)) : J X ω γ M R cells slots pc l (.int (nI N) :: rest) := by
  obtain ⟨-, -, r3, r4⟩ := C.rm
  intro H locs ls hz hP hS hlv hg
  refine va_newaK (atype := .int) (N := N) C.ex C.cd (C.ts _ harr) rfl hd rfl (nI_pos (by omega)) (nI_clamp (by omega)) (by show N * 4 ≤ _; omega) (by omega) (by omega) hz fun H1 cA e1 z1 o1 hAr hNm => ?_
  rw [← hz] at o1
  have hcA : cA = ω.2.2.1 12 := Option.some.inj (hNm.symm.trans (C.kk.2 1 _ rfl).2)
  subst hcA
  refine kk H1 locs ls (by rw [z1]; show _ = jlo ω + (jn γ + 1); omega) (jpool_new (e := .inl (ω.2.2.1 12, N, .inl (fun _ => 0))) hz hP o1 e1 (jcell_newI (by decide) (by decide))) (vaS_new hS (by omega) o1) hlv hg
theorem j_newC (C : jC X ω cc own dd mc ms) {N : Nat} (harr : Cond.arrayClass .char ∈ TBL) (hN : N ≤ 100000) (hd : decode cc pc = .ok (.newarray .char, 2)) (hcs : cells + 1 ≤ mc ∧ slots + N ≤ ms)
    (kk : J X ω (jnew ω γ 11 N) (jz M (jlo ω + jn γ) 0) (jz R (jlo ω + jn γ) none) (cells + 1) (slots + N) (pc + 2) l (.ref (jlo ω + jn γ) :: rest)) : J X ω γ M R cells slots pc l (.int (nI N) :: rest) := by
  obtain ⟨-, -, r3, r4⟩ := C.rm
  intro H locs ls hz hP hS hlv hg
  refine va_newaK (atype := .char) (N := N) C.ex C.cd (C.ts _ harr) rfl hd rfl (nI_pos (by omega)) (nI_clamp (by omega)) (by show N * 2 ≤ _; omega) (by omega) (by omega) hz fun H1 cA e1 z1 o1 hAr hNm => ?_
  rw [← hz] at o1
  have hcA : cA = ω.2.2.1 11 := Option.some.inj (hNm.symm.trans (C.kk.2 0 _ rfl).2)
  subst hcA
  refine kk H1 locs ls (by rw [z1]; show _ = jlo ω + (jn γ + 1); omega) (jpool_new (e := .inl (ω.2.2.1 11, N, .inl (fun _ => 0))) hz hP o1 e1 (jcell_newI (by decide) (by decide))) (vaS_new hS (by omega) o1) hlv hg
theorem j_anew (C : jC X ω cc own dd mc ms) {N kd index : Nat} {Cn : String} (hl : Cond.classLink own index Cn ∈ TBL) (hov : va_AO Cn (xs X)) (hkd : 13 ≤ kd ∧ kd < 16) (ht : (jtys ω)[kd - 11]? = some (ω.2.2.1 kd, .object Cn)) (hN : N ≤ 100000) (hd : decode cc pc = .ok (.anewarray index, 3)) (hcs : cells + 1 ≤ mc ∧ slots + N ≤ ms)
    (kk : J X ω (jnew ω γ kd N) (jz M (jlo ω + jn γ) 0) (jz R (jlo ω + jn γ) none) (cells + 1) (slots + N) (pc + 3) l (.ref (jlo ω + jn γ) :: rest)) : J X ω γ M R cells slots pc l (.int (nI N) :: rest) := by
  obtain ⟨-, -, r3, r4⟩ := C.rm
  have hcl : (nI N).toNatClampNeg = N := nI_clamp (by omega)
  intro H locs ls hz hP hS hlv hg
  refine W.anew C.ex C.cd C.ow (C.ts _ hl) (va_AO.use hov) rfl hd rfl (nI_pos (by omega)) (by rw [hcl]; omega) (by omega) (by rw [hcl]; omega) fun cA kA comp f1 f2 f3 f4 => ?_
  rw [hcl]
  generalize hH1 : H.push ({ cls := cA, slots := Array.replicate N .null, vm := .none } : Cell) = H1
  have z1 : H1.size = H.size + 1 := by rw [← hH1, Array.size_push]
  have e1 : H1[H.size]? = some (arrV cA N (fun _ => .null)) := by rw [← hH1, Array.getElem?_push_size, ← arrV_new]
  have o1 : ∀ q : Nat, q < H.size → H1[q]? = H[q]? := fun q hq => by rw [← hH1, Array.getElem?_push, if_neg (Nat.ne_of_lt hq)]
  obtain ⟨kA', comp', -, -, -, g4⟩ := (C.kk.2 _ _ ht).2
  have hcA : cA = ω.2.2.1 kd := Option.some.inj (f1.symm.trans g4)
  subst hcA
  rw [hz] at e1
  have e9 := kk H1 locs ls (by rw [z1, hz]; show _ = jlo ω + (jn γ + 1); omega) (jpool_new (e := .inl (ω.2.2.1 kd, N, .inr (.inr (.inr (.inr (fun _ => none)))))) hz hP o1 e1 (jcell_newR hkd)) (vaS_new hS (by omega) o1) hlv hg
  rw [hz]
  exact e9
/-- switches -/
theorem j_tableOut (C : jC X ω cc own dd mc ms) {dflt lo hi : Int} {offs : Array Int} {len : Nat} {x : Int32} (tgt : Nat) (hd : decode cc pc = .ok (.tableswitch dflt lo hi offs, len)) (h : x.toInt < lo ∨ hi < x.toInt) (ht : (pc : Int) + dflt = (tgt : Int)) (k : J X ω γ M R cells slots tgt l rest) : J X ω γ M R cells slots pc l (.int x :: rest) := by
  intro H locs ls hz hP hS hl hg
  exact lv_tableOut C.ex C.cd hd h ht (k H locs ls hz hP hS hl hg)
theorem j_tableIn (C : jC X ω cc own dd mc ms) {dflt lo hi : Int} {offs : Array Int} {len : Nat} {x : Int32} {off : Int} (j tgt : Nat) (hd : decode cc pc = .ok (.tableswitch dflt lo hi offs, len)) (hx : x.toInt = lo + j) (hj : lo + j ≤ hi) (ho : offs[j]? = some off) (ht : (pc : Int) + off = (tgt : Int)) (k : J X ω γ M R cells slots tgt l rest) : J X ω γ M R cells slots pc l (.int x :: rest) := by
  intro H locs ls hz hP hS hl hg
  exact lv_tableIn C.ex C.cd hd (by omega) (by omega) (by rw [show (x.toInt - lo).toNat = j by omega]; exact ho) ht (k H locs ls hz hP hS hl hg)
theorem j_lookup (C : jC X ω cc own dd mc ms) {dflt : Int} {ps : Array (Int × Int)} {len : Nat} {x : Int32} {off : Int} (tgt : Nat) (hd : decode cc pc = .ok (.lookupswitch dflt ps, len)) (hp : (ps.toList.zip (ps.toList.drop 1)).all (fun (a, next) => a.1 < next.1) = true) (ho : Op.lookupswitch.offset ps.toList dflt x.toInt = off) (ht : (pc : Int) + off = (tgt : Int)) (k : J X ω γ M R cells slots tgt l rest) : J X ω γ M R cells slots pc l (.int x :: rest) := by
  intro H locs ls hz hP hS hl hg
  exact lv_lookup C.ex C.cd hd hp ho ht (k H locs ls hz hP hS hl hg)
theorem j_ifnonnull (C : jC X ω cc own dd mc ms) {a : Nat} {off : Int} (tgt : Nat) (hd : decode cc pc = .ok (.ifnonnull off, 3)) (ht : (pc : Int) + off = (tgt : Int)) (k : J X ω γ M R cells slots tgt l rest) : J X ω γ M R cells slots pc l (.ref a :: rest) := by
  intro H locs ls hz hP hS hl hg
  exact lv_ifnonnull C.ex C.cd hd ht (k H locs ls hz hP hS hl hg)
theorem j_ifnull (C : jC X ω cc own dd mc ms) {a : Nat} {off : Int} (hd : decode cc pc = .ok (.ifnull off, 3)) (k : J X ω γ M R cells slots (pc + 3) l rest) : J X ω γ M R cells slots pc l (.ref a :: rest) := by
  intro H locs ls hz hP hS hl hg
  exact lv_ifnull C.ex C.cd hd (k H locs ls hz hP hS hl hg)
/-- the two static tables -/
theorem j_gets (C : jC X ω cc own dd mc ms) {Cn n d : String} {v : Value} {index : Nat} (hZ : va_Z Cn n d v (jA ω) (xs X) (xs X).heap) (hl : Cond.fieldLink own index Cn n d ∈ TBL) (hd : decode cc pc = .ok (.getstatic index, 3)) (k : J X ω γ M R cells slots (pc + 3) l (v :: rest)) : J X ω γ M R cells slots pc l rest := by
  intro H locs ls hz hP hS hlv hg
  exact va_gets C.ex C.cd hZ hS C.ow (C.ts _ hl) (fun _ h => h) hd (k H locs ls hz hP hS hlv hg)
theorem j_tald (C : jC X ω cc own dd mc ms) {t N : Nat} {f : Nat → Int32} {i : Int32} (hT : va_T .int t N (fun j => .int (f j)) (jA ω) (xs X) (xs X).heap) (hin : vp_in i N) (hd : decode cc pc = .ok (.iaload, 1)) (k : J X ω γ M R cells slots (pc + 1) l (.int (f i.toNatClampNeg) :: rest)) : J X ω γ M R cells slots pc l (.int i :: .ref t :: rest) := by
  intro H locs ls hz hP hS hlv hg
  exact va_ti C.ex C.cd hT hS hin rfl hd (k H locs ls hz hP hS hlv hg)
theorem j_tbald (C : jC X ω cc own dd mc ms) {t N : Nat} {f : Nat → Int32} {i : Int32} (hT : va_T .byte t N (fun j => .int (f j)) (jA ω) (xs X) (xs X).heap) (hin : vp_in i N) (hd : decode cc pc = .ok (.baload, 1)) (k : J X ω γ M R cells slots (pc + 1) l (.int (f i.toNatClampNeg) :: rest)) : J X ω γ M R cells slots pc l (.int i :: .ref t :: rest) := by
  intro H locs ls hz hP hS hlv hg
  exact va_tb C.ex C.cd hT hS hin rfl hd (k H locs ls hz hP hS hlv hg)
theorem j_tlen (C : jC X ω cc own dd mc ms) {t N : Nat} {f : Nat → Value} {ty : FieldType} (hT : va_T ty t N f (jA ω) (xs X) (xs X).heap) (hd : decode cc pc = .ok (.arraylength, 1)) (k : J X ω γ M R cells slots (pc + 1) l (.int (nI N) :: rest)) : J X ω γ M R cells slots pc l (.ref t :: rest) := by
  intro H locs ls hz hP hS hlv hg
  exact va_tlen C.ex C.cd hT hS rfl hd (k H locs ls hz hP hS hlv hg)
end JN
