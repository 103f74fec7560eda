/-! own framework: one pool of cells at the addresses lo .. lo + n, its ints M and its references R as functions of address and place -/
abbrev jM : Type := Nat → Nat → Int32
abbrev jR : Type := Nat → Nat → Option Nat
def jup {α : Type} (M : Nat → Nat → α) (a k : Nat) (v : α) : Nat → Nat → α := fun b j => if b = a ∧ j = k then v else M b j
theorem jup_eq {α : Type} (M : Nat → Nat → α) (a k : Nat) (v : α) : jup M a k v a k = v := by simp [jup]
theorem jup_ne {α : Type} (M : Nat → Nat → α) {a k b j : Nat} (v : α) (h : ¬ (b = a ∧ j = k)) : jup M a k v b j = M b j := by simp only [jup, if_neg h]
theorem jup_nk {α : Type} (M : Nat → Nat → α) {a k b j : Nat} (v : α) (h : j ≠ k) : jup M a k v b j = M b j := jup_ne M v (fun q => h q.2)
theorem jup_na {α : Type} (M : Nat → Nat → α) {a k b j : Nat} (v : α) (h : b ≠ a) : jup M a k v b j = M b j := jup_ne M v (fun q => h q.1)
theorem jup_row {α : Type} (M : Nat → Nat → α) {a k b : Nat} (v : α) (h : b ≠ a) : jup M a k v b = M b := funext fun _ => jup_na M v h
/-- geometry: how many cells, the kind of each, the length of each array, what the reference fields hold -/
abbrev jG : Type := Nat × (Nat → Nat) × (Nat → Nat) × jR
abbrev jn (γ : jG) : Nat := γ.1
abbrev jK (γ : jG) : Nat → Nat := γ.2.1
abbrev jL (γ : jG) : Nat → Nat := γ.2.2.1
abbrev jP (γ : jG) : jR := γ.2.2.2
/-- the fixed things of a run: base address, class numbers and slots, array classes by kind, addresses of the two static tables, of the String constant and its bytes, the script -/
abbrev jW : Type := Nat × va_G × (Nat → ClassId) × Nat × Nat × Nat × Nat × (Nat × Nat × (Nat → Int32))
abbrev jlo (ω : jW) : Nat := ω.1
def jlay : Nat → List Bool
  | 0 => [true, false]
  | 1 => [true, false, false, false, false, false, false, false, false, false, false]
  | 2 => [false, false, false, false, false, false, false, false, false]
  | 3 => [true, true, false, false, false, false]
  | 4 => [true, true, true, true, true, true, true, false, false, false, false, false]
  | 5 => [true, true, false, false]
  | 6 => [true, false]
  | 7 => [true, true, false]
  | 8 => [true, false]
  | 9 => [true, true, true, true]
  | 10 => [true, true, false, true, false, false, false, true]
  | _ => []
def jfs (G : Nat → Option Nat) (M : Nat → Int32) : Nat → List Bool → List Value
  | _, [] => []
  | k, true :: r => va_rf (G k) :: jfs G M (k + 1) r
  | k, false :: r => .int (M k) :: jfs G M (k + 1) r
theorem jfs_len (G : Nat → Option Nat) (M : Nat → Int32) : ∀ (l : List Bool) (k : Nat), (jfs G M k l).length = l.length
  | [], _ => rfl
  | true :: r, k => by simp [jfs, jfs_len G M r (k + 1)]
  | false :: r, k => by simp [jfs, jfs_len G M r (k + 1)]
theorem jfs_cong {G G' : Nat → Option Nat} {M M' : Nat → Int32} : ∀ (l : List Bool) (k : Nat), (∀ j, k ≤ j → G j = G' j) → (∀ j, k ≤ j → M j = M' j) → jfs G M k l = jfs G' M' k l
  | [], _, _, _ => rfl
  | true :: r, k, h, h' => by simp only [jfs, h k (Nat.le_refl k), jfs_cong r (k + 1) (fun j hj => h j (by omega)) (fun j hj => h' j (by omega))]
  | false :: r, k, h, h' => by simp only [jfs, h' k (Nat.le_refl k), jfs_cong r (k + 1) (fun j hj => h j (by omega)) (fun j hj => h' j (by omega))]
theorem jfs_getI (G : Nat → Option Nat) (M : Nat → Int32) : ∀ (l : List Bool) (k0 k : Nat), l[k]? = some false → (jfs G M k0 l)[k]? = some (.int (M (k0 + k)))
  | [], _, _, h => by simp at h
  | b :: r, k0, 0, h => by
    simp only [List.getElem?_cons_zero, Option.some.injEq] at h
    subst h
    rfl
  | b :: r, k0, k + 1, h => by
    rw [List.getElem?_cons_succ] at h
    have ih := jfs_getI G M r (k0 + 1) k h
    rw [show k0 + (k + 1) = k0 + 1 + k by omega]
    cases b <;> exact ih
theorem jfs_getR (G : Nat → Option Nat) (M : Nat → Int32) : ∀ (l : List Bool) (k0 k : Nat), l[k]? = some true → (jfs G M k0 l)[k]? = some (va_rf (G (k0 + k)))
  | [], _, _, h => by simp at h
  | b :: r, k0, 0, h => by
    simp only [List.getElem?_cons_zero, Option.some.injEq] at h
    subst h
    rfl
  | b :: r, k0, k + 1, h => by
    rw [List.getElem?_cons_succ] at h
    have ih := jfs_getR G M r (k0 + 1) k h
    rw [show k0 + (k + 1) = k0 + 1 + k by omega]
    cases b <;> exact ih
theorem jfs_setI (G : Nat → Option Nat) (M : Nat → Int32) (v : Int32) : ∀ (l : List Bool) (k0 k : Nat), l[k]? = some false → (jfs G M k0 l).set k (.int v) = jfs G (fun j => if j = k0 + k then v else M j) k0 l
  | [], _, _, h => by simp at h
  | b :: r, k0, 0, h => by
    simp only [List.getElem?_cons_zero, Option.some.injEq] at h
    subst h
    simp only [jfs, List.set_cons_zero, Nat.add_zero, if_true]
    rw [jfs_cong r (k0 + 1) (fun _ _ => rfl) (fun j hj => (if_neg (show ¬ j = k0 by omega)).symm)]
  | b :: r, k0, k + 1, h => by
    rw [List.getElem?_cons_succ] at h
    have ih := jfs_setI G M v r (k0 + 1) k h
    rw [show k0 + (k + 1) = k0 + 1 + k by omega]
    cases b
    · simp only [jfs, List.set_cons_succ, ih, if_neg (show ¬ k0 = k0 + 1 + k by omega)]
    · simp only [jfs, List.set_cons_succ, ih]
theorem jfs_setR (G : Nat → Option Nat) (M : Nat → Int32) (v : Option Nat) : ∀ (l : List Bool) (k0 k : Nat), l[k]? = some true → (jfs G M k0 l).set k (va_rf v) = jfs (fun j => if j = k0 + k then v else G j) M k0 l
  | [], _, _, h => by simp at h
  | b :: r, k0, 0, h => by
    simp only [List.getElem?_cons_zero, Option.some.injEq] at h
    subst h
    simp only [jfs, List.set_cons_zero, Nat.add_zero, if_true]
    rw [jfs_cong r (k0 + 1) (fun j hj => (if_neg (show ¬ j = k0 by omega)).symm) (fun _ _ => rfl)]
  | b :: r, k0, k + 1, h => by
    rw [List.getElem?_cons_succ] at h
    have ih := jfs_setR G M v r (k0 + 1) k h
    rw [show k0 + (k + 1) = k0 + 1 + k by omega]
    cases b
    · simp only [jfs, List.set_cons_succ, ih]
    · simp only [jfs, List.set_cons_succ, ih, if_neg (show ¬ k0 = k0 + 1 + k by omega)]
/-- a long out of its two halves, low and high -/
def jlg (lo hi : Int32) : Int64 := Int64.ofBitVec (hi.toBitVec ++ lo.toBitVec : BitVec 64)
/-- what stands at an address -/
def jcell (ω : jW) (γ : jG) (M : jM) (R : jR) (a : Nat) : va_E :=
  if jK γ a < 11 then .inr (jK γ a, jfs (jP γ a) (M a) 0 (jlay (jK γ a)))
  else if jK γ a < 13 then .inl (ω.2.2.1 (jK γ a), jL γ a, .inl (M a))
  else if jK γ a < 16 then .inl (ω.2.2.1 (jK γ a), jL γ a, .inr (.inr (.inr (.inr (R a)))))
  else .inl (ω.2.2.1 (jK γ a), jL γ a, .inr (.inl (fun k => jlg (M a (2 * k)) (M a (2 * k + 1)))))
def jpl (lo n : Nat) (f : Nat → va_E) : va_W := va_pl (List.range' lo n) f
theorem jpl_at {lo n : Nat} {f : Nat → va_E} {i : Nat} {q : Nat × va_E} (h : (jpl lo n f)[i]? = some q) : i < n ∧ q = (lo + i, f (lo + i)) := by
  unfold jpl va_pl at h
  rw [List.getElem?_map] at h
  by_cases hi : i < n
  · rw [List.getElem?_range' hi] at h
    refine ⟨hi, ?_⟩
    simp only [Option.map_some, Nat.one_mul, Option.some.injEq] at h
    exact h.symm
  · rw [List.getElem?_eq_none (by simp; omega)] at h
    simp at h
theorem jpl_get {lo n : Nat} {f : Nat → va_E} {a : Nat} (h1 : lo ≤ a) (h2 : a < lo + n) : (jpl lo n f)[a - lo]? = some (a, f a) := by
  unfold jpl va_pl
  rw [List.getElem?_map, List.getElem?_range' (by omega)]
  simp only [Option.map_some, Nat.one_mul]
  rw [show lo + (a - lo) = a by omega]
theorem jpl_D {lo n : Nat} {f : Nat → va_E} : va_D (fun q => lo ≤ q) (jpl lo n f) := by
  refine ⟨fun i j p q hp hq e => ?_, fun k q hq => ?_⟩
  · obtain ⟨-, rfl⟩ := jpl_at hp
    obtain ⟨-, rfl⟩ := jpl_at hq
    simp only at e
    omega
  · obtain ⟨-, rfl⟩ := jpl_at hq
    show lo ≤ lo + k
    omega
theorem jpl_set {lo n : Nat} {f g : Nat → va_E} {a : Nat} {e : va_E} (h1 : lo ≤ a) (h2 : a < lo + n) (hg : ∀ b, b ≠ a → g b = f b) (hga : g a = e) : (jpl lo n f).set (a - lo) (a, e) = jpl lo n g := by
  apply List.ext_getElem?
  intro i
  rw [List.getElem?_set]
  unfold jpl va_pl
  simp only [List.getElem?_map, List.length_map, List.length_range']
  by_cases hi : i < n
  · rw [List.getElem?_range' hi]
    by_cases ha : a - lo = i
    · have e1 : lo + 1 * i = a := by omega
      rw [if_pos ha, if_pos (by omega), e1]
      simp only [Option.map_some, hga]
    · rw [if_neg ha]
      simp only [Option.map_some]
      rw [hg (lo + 1 * i) (by omega)]
  · rw [if_neg (by omega), List.getElem?_eq_none (by simp; omega)]
    rfl
theorem jpl_push {lo n : Nat} {f g : Nat → va_E} {e : va_E} (hg : ∀ b, b < lo + n → g b = f b) (hga : g (lo + n) = e) : jpl lo n f ++ [(lo + n, e)] = jpl lo (n + 1) g := by
  unfold jpl va_pl
  rw [List.range'_concat, List.map_append]
  congr 1
  · apply List.map_congr_left
    intro b hb
    rw [List.mem_range'_1] at hb
    rw [hg b (by omega)]
  · simp only [List.map_cons, List.map_nil, Nat.one_mul, hga]
abbrev jpool (ω : jW) (γ : jG) (M : jM) (R : jR) : va_W := jpl (jlo ω) (jn γ) (jcell ω γ M R)
def jtys (ω : jW) : List (ClassId × FieldType) := [(ω.2.2.1 11, .char), (ω.2.2.1 12, .int), (ω.2.2.1 13, .object RX2), (ω.2.2.1 14, .object RX4), (ω.2.2.1 15, .object RX5), (ω.2.2.1 16, .long)]
/-- an address of the pool, and its kind -/
def jAt (ω : jW) (γ : jG) (a ci : Nat) : Prop := jlo ω ≤ a ∧ a < jlo ω + jn γ ∧ jK γ a = ci
def jArr (ω : jW) (γ : jG) (a kd len : Nat) : Prop := jAt ω γ a kd ∧ jL γ a = len
theorem jcell_O {ω : jW} {γ : jG} {M : jM} {R : jR} {a ci : Nat} (h : jK γ a = ci) (hc : ci < 11) : jcell ω γ M R a = .inr (ci, jfs (jP γ a) (M a) 0 (jlay ci)) := by
  subst h
  simp only [jcell, if_pos hc]
theorem jcell_I {ω : jW} {γ : jG} {M : jM} {R : jR} {a kd : Nat} (h : jK γ a = kd) (h1 : 11 ≤ kd) (h2 : kd < 13) : jcell ω γ M R a = .inl (ω.2.2.1 kd, jL γ a, .inl (M a)) := by
  subst h
  simp only [jcell, if_neg (show ¬ jK γ a < 11 by omega), if_pos h2]
theorem jcell_R {ω : jW} {γ : jG} {M : jM} {R : jR} {a kd : Nat} (h : jK γ a = kd) (h1 : 13 ≤ kd ∧ kd < 16) : jcell ω γ M R a = .inl (ω.2.2.1 kd, jL γ a, .inr (.inr (.inr (.inr (R a))))) := by
  subst h
  simp only [jcell, if_neg (show ¬ jK γ a < 11 by omega), if_neg (show ¬ jK γ a < 13 by omega), if_pos h1.2]
theorem jcell_L {ω : jW} {γ : jG} {M : jM} {R : jR} {a : Nat} (h : jK γ a = 16) : jcell ω γ M R a = .inl (ω.2.2.1 16, jL γ a, .inr (.inl (fun k => jlg (M a (2 * k)) (M a (2 * k + 1))))) := by
  simp only [jcell, h, if_neg (show ¬ 16 < 11 by decide), if_neg (show ¬ 16 < 13 by decide), if_neg (show ¬ 16 < 16 by decide)]
/-- the words of the tables that every method may use -/
def TBL : List Cond := lw_tbl.filter goodWord
def jNest : Cond → Bool
  | .fieldLinkNest _ _ _ _ _ _ => true
  | .methodLinkNest _ _ _ _ => true
  | _ => false
def NWL : List Cond := lw_tbl.filter jNest
theorem tb_in {w : Cond} (i : Nat) (h : tables_1[i]? = some w) (g : goodWord w = true) : w ∈ TBL := List.mem_filter.mpr ⟨List.mem_append_right _ (List.mem_of_getElem? h), g⟩
theorem tb_sel {w : Cond} (i : Nat) (h : (k2_sels lw_privs)[i]? = some w) (g : goodWord w = true) : w ∈ TBL := List.mem_filter.mpr ⟨List.mem_append_left _ (List.mem_of_getElem? h), g⟩
theorem nw_in {w : Cond} (i : Nat) (h : tables_1[i]? = some w) (g : jNest w = true) : w ∈ NWL := List.mem_filter.mpr ⟨List.mem_append_right _ (List.mem_of_getElem? h), g⟩
theorem nw_warm {s U : State} (hW : s.WarmedH U.vm) (h : ∀ w ∈ NWL, va_Nw w s) : ∀ w ∈ NWL, va_Nw w U := by
  intro w hw
  have h1 := h w hw
  have h2 : jNest w = true := (List.mem_filter.mp hw).2
  cases w <;> first | exact va_Nw.warmF hW h1 | exact va_Nw.warmM hW h1 | (simp [jNest] at h2)
theorem nw_same {u U : State} (hv : u.vm = U.vm) (h : ∀ w ∈ NWL, va_Nw w u) : ∀ w ∈ NWL, va_Nw w U := by
  intro w hw
  have h1 := h w hw
  have h2 : jNest w = true := (List.mem_filter.mp hw).2
  cases w <;> first | exact va_Nw.same rfl hv h1 | (simp [jNest] at h2)
theorem tb_good (y : MethodName) (b : ByteArray) (m : Nat) (r : Option FieldType) (hc : Cond.code y b m r ∈ TBL) (Ts : List Cond) (hT : ∀ w ∈ TBL, w ∈ Ts) : GoodIn Ts (Cond.code y b m r :: TBL) := by
  intro w hw
  rcases List.mem_cons.mp hw with rfl | hw
  · exact ⟨hT _ hc, good_of_word (List.mem_filter.mp hc).2⟩
  · exact ⟨hT _ hw, good_of_word (List.mem_filter.mp hw).2⟩
/-- a kind of objects: its class, fields, their types, what they hold at first -/
def jCl (ci : Nat) (C : String) (T : u_T) (N : Nat) (tyf : Nat → FieldType) : Prop :=
  vwCl[ci]? = some (C, T, N) ∧ (∀ w ∈ u_ws C T N, w ∈ TBL) ∧ (∀ k, k < N → parseFieldDescriptor (T k).2.2.1 = some (tyf k)) ∧ (∀ a, a < N → ∀ b, b < N → a ≠ b → (T a).2.1 ≠ (T b).2.1) ∧
  (∀ j, j < N → defaultValue (tyf j) = vp_V (jfs (fun _ => none) (fun _ => 0) 0 (jlay ci)) j) ∧ (∀ k, k < N → (T k).1 = C)
/-- a field as an instruction of 'own' names it -/
def jFL (own : String) (index ci k : Nat) (ty : FieldType) (fin : Bool) : Prop :=
  ∃ (C : String) (T : u_T) (N : Nat) (tyf : Nat → FieldType), jCl ci C T N tyf ∧ k < N ∧ tyf k = ty ∧ (T k).2.2.2 = fin ∧
    (Cond.fieldLink own index (T k).1 (T k).2.1 (T k).2.2.1 ∈ TBL ∨ ∃ host, Cond.fieldLinkNest own index (T k).1 (T k).2.1 (T k).2.2.1 host ∈ NWL)
/-- what a call links: by the table, or as a nest mate's -/
def jMN (own : String) (index : Nat) (y : MethodName) : Prop := Cond.methodLink own index y ∈ TBL ∨ ∃ host, Cond.methodLinkNest own index y host ∈ NWL
def jYC (y : MethodName) (cc : ByteArray) (maxL : Nat) (ret : Option FieldType) (n : Nat) : Prop :=
  Cond.code y cc maxL ret ∈ TBL ∧ Cond.initialized y.cls ∈ TBL ∧ (y.cls ≠ "java/lang/invoke/MethodHandle" ∧ y.cls ≠ "java/lang/invoke/VarHandle" ∧ (parseMethodDescriptor y.desc).map (fun d => d.parameters.length) = some n)
