def jget : List (Nat × Value) → Nat → Option Value
  | [], _ => none
  | q :: r, i => bif Nat.beq q.1 i then some q.2 else jget r i
def jset : List (Nat × Value) → Nat → Value → List (Nat × Value)
  | [], i, v => [(i, v)]
  | q :: r, i, v => bif Nat.beq q.1 i then (i, v) :: r.filter (fun q => !(Nat.beq q.1 i)) else q :: jset r i v
theorem jget_mem : ∀ (l : List (Nat × Value)) (i : Nat) (v : Value), jget l i = some v → (i, v) ∈ l
  | [], _, _, h => by cases h
  | q :: r, i, v, h => by
    unfold jget at h
    cases hb : Nat.beq q.1 i with
    | true =>
      rw [hb] at h
      have e := Nat.eq_of_beq_eq_true hb
      simp only [cond_true, Option.some.injEq] at h
      obtain ⟨q1, q2⟩ := q
      simp only at e h
      subst e; subst h
      exact List.mem_cons_self
    | false =>
      rw [hb] at h
      exact List.mem_cons_of_mem _ (jget_mem r i v h)
theorem jset_mem : ∀ (l : List (Nat × Value)) (i : Nat) (v : Value) (x : Nat × Value), x ∈ jset l i v → x = (i, v) ∨ (x ∈ l ∧ x.1 ≠ i)
  | [], i, v, x, h => by
    left
    simpa [jset] using h
  | q :: r, i, v, x, h => by
    unfold jset at h
    cases hb : Nat.beq q.1 i with
    | true =>
      rw [hb] at h
      simp only [cond_true] at h
      rcases List.mem_cons.mp h with h | h
      · exact Or.inl h
      · obtain ⟨h1, h2⟩ := List.mem_filter.mp h
        refine Or.inr ⟨List.mem_cons_of_mem _ h1, fun e => ?_⟩
        rw [e, Nat.beq_refl] at h2
        cases h2
    | false =>
      rw [hb] at h
      simp only [cond_false] at h
      rcases List.mem_cons.mp h with h | h
      · subst h
        exact Or.inr ⟨List.mem_cons_self, Nat.ne_of_beq_eq_false hb⟩
      · rcases jset_mem r i v x h with h | ⟨h1, h2⟩
        · exact Or.inl h
        · exact Or.inr ⟨List.mem_cons_of_mem _ h1, h2⟩
theorem jset_cat {l : List (Nat × Value)} {i : Nat} {v : Value} (h : ∀ q ∈ l, q.2.category = 1) (hv : v.category = 1) : ∀ q ∈ jset l i v, q.2.category = 1 := by
  intro q hq
  rcases jset_mem l i v q hq with rfl | ⟨h1, -⟩
  · exact hv
  · exact h q h1
theorem jset_has {ls : Array Slot} {n : Nat} {l : List (Nat × Value)} {i : Nat} {v : Value} (hc : ∀ q ∈ l, q.2.category = 1) (h : lv_has ls n ((i, v) :: l.filter (fun q => !(q.1 == i) && !(q.1 + 1 == i && q.2.category == 2)))) : lv_has ls n (jset l i v) := by
  refine ⟨h.1, h.2.1, fun q hq => ?_⟩
  rcases jset_mem l i v q hq with rfl | ⟨h1, h2⟩
  · exact h.2.2 _ List.mem_cons_self
  · refine h.2.2 q (List.mem_cons_of_mem _ (List.mem_filter.mpr ⟨h1, ?_⟩))
    simp [h2, hc q h1]
section JI
variable {X : jX} {ω : jW} {γ : jG} {M : jM} {R : jR} {cells slots pc : Nat} {l : List (Nat × Value)} {rest : List Value} {cc : ByteArray} {own : String} {dd mc ms : Nat}
theorem lv_of {ls : Array Slot} {n i : Nat} {v : Value} (hl : lv_has ls n l) (h : jget l i = some v) : ls[i]? = some (.val v) := hl.2.2 _ (jget_mem l i v h)
theorem j_iconst (C : jC X ω cc own dd mc ms) {n : Int} (v : Int32) (hd : decode cc pc = .ok (.iconst n, 1)) (hv : Int32.ofInt n = v) (k : J X ω γ M R cells slots (pc + 1) l (.int v :: rest)) : J X ω γ M R cells slots pc l rest := by
  intro H locs ls hz hP hS hl hg
  exact lv_iconst C.ex C.cd hd hv (k H locs ls hz hP hS hl hg)
theorem j_bipush (C : jC X ω cc own dd mc ms) {n : Int} (v : Int32) (hd : decode cc pc = .ok (.bipush n, 2)) (hv : (Int8.ofInt n).toInt32 = v) (k : J X ω γ M R cells slots (pc + 2) l (.int v :: rest)) : J X ω γ M R cells slots pc l rest := by
  intro H locs ls hz hP hS hl hg
  exact lv_bipush C.ex C.cd hd hv (k H locs ls hz hP hS hl hg)
theorem j_sipush (C : jC X ω cc own dd mc ms) {n : Int} (v : Int32) (hd : decode cc pc = .ok (.sipush n, 3)) (hv : (Int16.ofInt n).toInt32 = v) (k : J X ω γ M R cells slots (pc + 3) l (.int v :: rest)) : J X ω γ M R cells slots pc l rest := by
  intro H locs ls hz hP hS hl hg
  exact lv_sipush C.ex C.cd hd hv (k H locs ls hz hP hS hl hg)
theorem j_iload_n (C : jC X ω cc own dd mc ms) {i : Fin 4} {x : Int32} (hd : decode cc pc = .ok (.iload_n i, 1)) (hx : jget l i = some (.int x)) (k : J X ω γ M R cells slots (pc + 1) l (.int x :: rest)) : J X ω γ M R cells slots pc l rest := by
  intro H locs ls hz hP hS hl hg
  exact lv_iload_n C.ex C.cd hd rfl (lv_of hl hx) (k H locs ls hz hP hS hl hg)
theorem j_iload (C : jC X ω cc own dd mc ms) {i : Nat} {x : Int32} (hd : decode cc pc = .ok (.iload i, 2)) (hx : jget l i = some (.int x)) (k : J X ω γ M R cells slots (pc + 2) l (.int x :: rest)) : J X ω γ M R cells slots pc l rest := by
  intro H locs ls hz hP hS hl hg
  exact lv_iload C.ex C.cd hd (lv_of hl hx) (k H locs ls hz hP hS hl hg)
theorem j_aload_n (C : jC X ω cc own dd mc ms) {i : Fin 4} {x : Nat} (hd : decode cc pc = .ok (.aload_n i, 1)) (hx : jget l i = some (.ref x)) (k : J X ω γ M R cells slots (pc + 1) l (.ref x :: rest)) : J X ω γ M R cells slots pc l rest := by
  intro H locs ls hz hP hS hl hg
  exact lv_aload_n C.ex C.cd hd rfl (lv_of hl hx) (k H locs ls hz hP hS hl hg)
theorem j_aload (C : jC X ω cc own dd mc ms) {i : Nat} {x : Nat} (hd : decode cc pc = .ok (.aload i, 2)) (hx : jget l i = some (.ref x)) (k : J X ω γ M R cells slots (pc + 2) l (.ref x :: rest)) : J X ω γ M R cells slots pc l rest := by
  intro H locs ls hz hP hS hl hg
  exact lv_aload C.ex C.cd hd (lv_of hl hx) (k H locs ls hz hP hS hl hg)
theorem j_istore_n (C : jC X ω cc own dd mc ms) {i : Fin 4} {x : Int32} (hd : decode cc pc = .ok (.istore_n i, 1)) (hn : (i : Nat) < xn X) (k : J X ω γ M R cells slots (pc + 1) (jset l i (.int x)) rest) : J X ω γ M R cells slots pc l (.int x :: rest) := by
  intro H locs ls hz hP hS hl hg
  exact lv_istore_n C.ex C.cd hd rfl hl hn rfl (fun ls' h' => k H locs ls' hz hP hS (jset_has hg h') (jset_cat hg rfl))
theorem j_istore (C : jC X ω cc own dd mc ms) {i : Nat} {x : Int32} (hd : decode cc pc = .ok (.istore i, 2)) (hn : i < xn X) (k : J X ω γ M R cells slots (pc + 2) (jset l i (.int x)) rest) : J X ω γ M R cells slots pc l (.int x :: rest) := by
  intro H locs ls hz hP hS hl hg
  exact lv_istore C.ex C.cd hd hl hn rfl (fun ls' h' => k H locs ls' hz hP hS (jset_has hg h') (jset_cat hg rfl))
theorem j_astore_n (C : jC X ω cc own dd mc ms) {i : Fin 4} {x : Nat} (hd : decode cc pc = .ok (.astore_n i, 1)) (hn : (i : Nat) < xn X) (k : J X ω γ M R cells slots (pc + 1) (jset l i (.ref x)) rest) : J X ω γ M R cells slots pc l (.ref x :: rest) := by
  intro H locs ls hz hP hS hl hg
  exact lv_astore_n C.ex C.cd hd rfl hl hn rfl (fun ls' h' => k H locs ls' hz hP hS (jset_has hg h') (jset_cat hg rfl))
theorem j_astore (C : jC X ω cc own dd mc ms) {i : Nat} {x : Nat} (hd : decode cc pc = .ok (.astore i, 2)) (hn : i < xn X) (k : J X ω γ M R cells slots (pc + 2) (jset l i (.ref x)) rest) : J X ω γ M R cells slots pc l (.ref x :: rest) := by
  intro H locs ls hz hP hS hl hg
  exact lv_astore C.ex C.cd hd hl hn rfl (fun ls' h' => k H locs ls' hz hP hS (jset_has hg h') (jset_cat hg rfl))
theorem j_iinc (C : jC X ω cc own dd mc ms) {i : Nat} {n : Int} {x : Int32} (v : Int32) (hd : decode cc pc = .ok (.iinc i n, 3)) (hx : jget l i = some (.int x)) (hv : x + Int32.ofInt n = v) (hn : i < xn X) (k : J X ω γ M R cells slots (pc + 3) (jset l i (.int v)) rest) : J X ω γ M R cells slots pc l rest := by
  intro H locs ls hz hP hS hl hg
  obtain ⟨kk, hk⟩ := List.getElem?_of_mem (jget_mem l i _ hx)
  exact lv_iinc C.ex C.cd hd hl hk hv hn rfl (fun ls' h' => k H locs ls' hz hP hS (jset_has hg h') (jset_cat hg rfl))
/-- other words for what is on top -/
theorem j_top {x : Int32} (y : Int32) (h : x = y) (k : J X ω γ M R cells slots pc l (.int y :: rest)) : J X ω γ M R cells slots pc l (.int x :: rest) := h ▸ k
/-- fewer locals, by their places -/
theorem j_locs (ks : List Nat) {l' : List (Nat × Value)} (h : lv_pick l ks = l') (k : J X ω γ M R cells slots pc l' rest) : J X ω γ M R cells slots pc l rest := by
  intro H locs ls hz hP hS hl hg
  refine k H locs ls hz hP hS (lv_sub hl ks h) (fun q hq => ?_)
  subst h
  obtain ⟨i, -, hi⟩ := List.mem_filterMap.mp hq
  exact hg q (List.mem_of_getElem? hi)
theorem j_iadd (C : jC X ω cc own dd mc ms) {x y : Int32} (hd : decode cc pc = .ok (.iadd, 1)) (k : J X ω γ M R cells slots (pc + 1) l (.int (x + y) :: rest)) : J X ω γ M R cells slots pc l (.int y :: .int x :: rest) := by
  intro H locs ls hz hP hS hl hg
  exact lv_iadd C.ex C.cd hd (k H locs ls hz hP hS hl hg)
theorem j_iaddN (C : jC X ω cc own dd mc ms) {x y : Nat} (hd : decode cc pc = .ok (.iadd, 1)) (k : J X ω γ M R cells slots (pc + 1) l (.int (nI (x + y)) :: rest)) : J X ω γ M R cells slots pc l (.int (nI y) :: .int (nI x) :: rest) :=
  j_iadd C hd (by rw [nI_add]; exact k)
theorem j_isub (C : jC X ω cc own dd mc ms) {x y : Int32} (hd : decode cc pc = .ok (.isub, 1)) (k : J X ω γ M R cells slots (pc + 1) l (.int (x - y) :: rest)) : J X ω γ M R cells slots pc l (.int y :: .int x :: rest) := by
  intro H locs ls hz hP hS hl hg
  exact lv_isub C.ex C.cd hd (k H locs ls hz hP hS hl hg)
theorem j_isubN (C : jC X ω cc own dd mc ms) {x y : Nat} (hd : decode cc pc = .ok (.isub, 1)) (h : y ≤ x) (k : J X ω γ M R cells slots (pc + 1) l (.int (nI (x - y)) :: rest)) : J X ω γ M R cells slots pc l (.int (nI y) :: .int (nI x) :: rest) :=
  j_isub C hd (by rw [pk_sub h]; exact k)
theorem j_imul (C : jC X ω cc own dd mc ms) {x y : Int32} (hd : decode cc pc = .ok (.imul, 1)) (k : J X ω γ M R cells slots (pc + 1) l (.int (x * y) :: rest)) : J X ω γ M R cells slots pc l (.int y :: .int x :: rest) := by
  intro H locs ls hz hP hS hl hg
  exact lv_imul C.ex C.cd hd (k H locs ls hz hP hS hl hg)
theorem j_imulN (C : jC X ω cc own dd mc ms) {x y : Nat} (hd : decode cc pc = .ok (.imul, 1)) (k : J X ω γ M R cells slots (pc + 1) l (.int (nI (x * y)) :: rest)) : J X ω γ M R cells slots pc l (.int (nI y) :: .int (nI x) :: rest) :=
  j_imul C hd (by rw [pk_mul]; exact k)
theorem j_idiv (C : jC X ω cc own dd mc ms) {x y : Int32} (hd : decode cc pc = .ok (.idiv, 1)) (hne : ¬ y = 0) (k : J X ω γ M R cells slots (pc + 1) l (.int (x / y) :: rest)) : J X ω γ M R cells slots pc l (.int y :: .int x :: rest) := by
  intro H locs ls hz hP hS hl hg
  exact lv_idiv C.ex C.cd hd hne (k H locs ls hz hP hS hl hg)
theorem j_irem (C : jC X ω cc own dd mc ms) {x y : Int32} (hd : decode cc pc = .ok (.irem, 1)) (hne : ¬ y = 0) (k : J X ω γ M R cells slots (pc + 1) l (.int (x - x / y * y) :: rest)) : J X ω γ M R cells slots pc l (.int y :: .int x :: rest) := by
  intro H locs ls hz hP hS hl hg
  exact lv_irem C.ex C.cd hd hne (k H locs ls hz hP hS hl hg)
theorem j_iand (C : jC X ω cc own dd mc ms) {x y : Int32} (hd : decode cc pc = .ok (.iand, 1)) (k : J X ω γ M R cells slots (pc + 1) l (.int (x &&& y) :: rest)) : J X ω γ M R cells slots pc l (.int y :: .int x :: rest) := by
  intro H locs ls hz hP hS hl hg
  exact lv_iand C.ex C.cd hd (k H locs ls hz hP hS hl hg)
theorem j_ixor (C : jC X ω cc own dd mc ms) {x y : Int32} (hd : decode cc pc = .ok (.ixor, 1)) (k : J X ω γ M R cells slots (pc + 1) l (.int (x ^^^ y) :: rest)) : J X ω γ M R cells slots pc l (.int y :: .int x :: rest) := by
  intro H locs ls hz hP hS hl hg
  exact lv_ixor C.ex C.cd hd (k H locs ls hz hP hS hl hg)
theorem j_ineg (C : jC X ω cc own dd mc ms) {x : Int32} (hd : decode cc pc = .ok (.ineg, 1)) (k : J X ω γ M R cells slots (pc + 1) l (.int (-x) :: rest)) : J X ω γ M R cells slots pc l (.int x :: rest) := by
  intro H locs ls hz hP hS hl hg
  exact lv_ineg C.ex C.cd hd (k H locs ls hz hP hS hl hg)
theorem j_ishl (C : jC X ω cc own dd mc ms) {x y : Int32} (hd : decode cc pc = .ok (.ishl, 1)) (k : J X ω γ M R cells slots (pc + 1) l (.int (x <<< (y &&& 31)) :: rest)) : J X ω γ M R cells slots pc l (.int y :: .int x :: rest) := by
  intro H locs ls hz hP hS hl hg
  exact lv_ishl C.ex C.cd hd (k H locs ls hz hP hS hl hg)
theorem j_ishr (C : jC X ω cc own dd mc ms) {x y : Int32} (hd : decode cc pc = .ok (.ishr, 1)) (k : J X ω γ M R cells slots (pc + 1) l (.int (x >>> (y &&& 31)) :: rest)) : J X ω γ M R cells slots pc l (.int y :: .int x :: rest) := by
  intro H locs ls hz hP hS hl hg
  exact lv_ishr C.ex C.cd hd (k H locs ls hz hP hS hl hg)
theorem j_i2c (C : jC X ω cc own dd mc ms) {x : Int32} (v : Int32) (hd : decode cc pc = .ok (.i2c, 1)) (hv : (x.toUInt32 % 65536).toInt32 = v) (k : J X ω γ M R cells slots (pc + 1) l (.int v :: rest)) : J X ω γ M R cells slots pc l (.int x :: rest) := by
  intro H locs ls hz hP hS hl hg
  exact lv_i2c C.ex C.cd hd hv (k H locs ls hz hP hS hl hg)
theorem j_i2b (C : jC X ω cc own dd mc ms) {x : Int32} (v : Int32) (hd : decode cc pc = .ok (.i2b, 1)) (hv : x.toInt8.toInt32 = v) (k : J X ω γ M R cells slots (pc + 1) l (.int v :: rest)) : J X ω γ M R cells slots pc l (.int x :: rest) := by
  intro H locs ls hz hP hS hl hg
  exact lv_i2b C.ex C.cd hd hv (k H locs ls hz hP hS hl hg)
theorem j_iushr (C : jC X ω cc own dd mc ms) {x y : Int32} (v : Int32) (hd : decode cc pc = .ok (.iushr, 1)) (hv : (x.toUInt32 >>> (y.toUInt32 &&& Int32.toUInt32 31)).toInt32 = v) (k : J X ω γ M R cells slots (pc + 1) l (.int v :: rest)) : J X ω γ M R cells slots pc l (.int y :: .int x :: rest) := by
  intro H locs ls hz hP hS hl hg
  exact lv_iushr C.ex C.cd hd hv (k H locs ls hz hP hS hl hg)
theorem j_dup (C : jC X ω cc own dd mc ms) {v : Value} (hd : decode cc pc = .ok (.dup, 1)) (hv : v.category = 1) (k : J X ω γ M R cells slots (pc + 1) l (v :: v :: rest)) : J X ω γ M R cells slots pc l (v :: rest) := by
  intro H locs ls hz hP hS hl hg
  exact lv_dup C.ex C.cd hd hv (k H locs ls hz hP hS hl hg)
theorem j_dup2 (C : jC X ω cc own dd mc ms) {v w : Value} (hd : decode cc pc = .ok (.dup2, 1)) (hv : v.category = 1) (hw : w.category = 1) (k : J X ω γ M R cells slots (pc + 1) l (v :: w :: v :: w :: rest)) : J X ω γ M R cells slots pc l (v :: w :: rest) := by
  intro H locs ls hz hP hS hl hg
  exact lv_dup2_11 C.ex C.cd hd hv hw (k H locs ls hz hP hS hl hg)
theorem j_goto (C : jC X ω cc own dd mc ms) {off : Int} (tgt : Nat) (hd : decode cc pc = .ok (.goto off, 3)) (ht : (pc : Int) + off = (tgt : Int)) (k : J X ω γ M R cells slots tgt l rest) : J X ω γ M R cells slots pc l rest := by
  intro H locs ls hz hP hS hl hg
  exact lv_goto C.ex C.cd hd ht (k H locs ls hz hP hS hl hg)
theorem j_if_eq (C : jC X ω cc own dd mc ms) {x : Int32} {off : Int} (tgt : Nat) (hd : decode cc pc = .ok (.ifCond .eq off, 3)) (ht : (pc : Int) + off = (tgt : Int)) (kt : x = 0 → J X ω γ M R cells slots tgt l rest) (kf : ¬ x = 0 → J X ω γ M R cells slots (pc + 3) l rest) : J X ω γ M R cells slots pc l (.int x :: rest) := by
  intro H locs ls hz hP hS hl hg
  exact lv_if_eq C.ex C.cd hd ht (fun h => kt h H locs ls hz hP hS hl hg) (fun h => kf h H locs ls hz hP hS hl hg)
theorem j_icmp_eq (C : jC X ω cc own dd mc ms) {x y : Int32} {off : Int} (tgt : Nat) (hd : decode cc pc = .ok (.if_icmp .eq off, 3)) (ht : (pc : Int) + off = (tgt : Int)) (kt : x = y → J X ω γ M R cells slots tgt l rest) (kf : ¬ x = y → J X ω γ M R cells slots (pc + 3) l rest) : J X ω γ M R cells slots pc l (.int y :: .int x :: rest) := by
  intro H locs ls hz hP hS hl hg
  exact lv_icmp_eq C.ex C.cd hd ht (fun h => kt h H locs ls hz hP hS hl hg) (fun h => kf h H locs ls hz hP hS hl hg)
theorem j_if_ne (C : jC X ω cc own dd mc ms) {x : Int32} {off : Int} (tgt : Nat) (hd : decode cc pc = .ok (.ifCond .ne off, 3)) (ht : (pc : Int) + off = (tgt : Int)) (kt : ¬ x = 0 → J X ω γ M R cells slots tgt l rest) (kf : x = 0 → J X ω γ M R cells slots (pc + 3) l rest) : J X ω γ M R cells slots pc l (.int x :: rest) := by
  intro H locs ls hz hP hS hl hg
  exact lv_if_ne C.ex C.cd hd ht (fun h => kt h H locs ls hz hP hS hl hg) (fun h => kf h H locs ls hz hP hS hl hg)
theorem j_icmp_ne (C : jC X ω cc own dd mc ms) {x y : Int32} {off : Int} (tgt : Nat) (hd : decode cc pc = .ok (.if_icmp .ne off, 3)) (ht : (pc : Int) + off = (tgt : Int)) (kt : ¬ x = y → J X ω γ M R cells slots tgt l rest) (kf : x = y → J X ω γ M R cells slots (pc + 3) l rest) : J X ω γ M R cells slots pc l (.int y :: .int x :: rest) := by
  intro H locs ls hz hP hS hl hg
  exact lv_icmp_ne C.ex C.cd hd ht (fun h => kt h H locs ls hz hP hS hl hg) (fun h => kf h H locs ls hz hP hS hl hg)
theorem j_if_lt (C : jC X ω cc own dd mc ms) {x : Int32} {off : Int} (tgt : Nat) (hd : decode cc pc = .ok (.ifCond .lt off, 3)) (ht : (pc : Int) + off = (tgt : Int)) (kt : x < 0 → J X ω γ M R cells slots tgt l rest) (kf : ¬ x < 0 → J X ω γ M R cells slots (pc + 3) l rest) : J X ω γ M R cells slots pc l (.int x :: rest) := by
  intro H locs ls hz hP hS hl hg
  exact lv_if_lt C.ex C.cd hd ht (fun h => kt h H locs ls hz hP hS hl hg) (fun h => kf h H locs ls hz hP hS hl hg)
theorem j_icmp_lt (C : jC X ω cc own dd mc ms) {x y : Int32} {off : Int} (tgt : Nat) (hd : decode cc pc = .ok (.if_icmp .lt off, 3)) (ht : (pc : Int) + off = (tgt : Int)) (kt : x < y → J X ω γ M R cells slots tgt l rest) (kf : ¬ x < y → J X ω γ M R cells slots (pc + 3) l rest) : J X ω γ M R cells slots pc l (.int y :: .int x :: rest) := by
  intro H locs ls hz hP hS hl hg
  exact lv_icmp_lt C.ex C.cd hd ht (fun h => kt h H locs ls hz hP hS hl hg) (fun h => kf h H locs ls hz hP hS hl hg)
theorem j_if_ge (C : jC X ω cc own dd mc ms) {x : Int32} {off : Int} (tgt : Nat) (hd : decode cc pc = .ok (.ifCond .ge off, 3)) (ht : (pc : Int) + off = (tgt : Int)) (kt : 0 ≤ x → J X ω γ M R cells slots tgt l rest) (kf : ¬ 0 ≤ x → J X ω γ M R cells slots (pc + 3) l rest) : J X ω γ M R cells slots pc l (.int x :: rest) := by
  intro H locs ls hz hP hS hl hg
  exact lv_if_ge C.ex C.cd hd ht (fun h => kt h H locs ls hz hP hS hl hg) (fun h => kf h H locs ls hz hP hS hl hg)
theorem j_icmp_ge (C : jC X ω cc own dd mc ms) {x y : Int32} {off : Int} (tgt : Nat) (hd : decode cc pc = .ok (.if_icmp .ge off, 3)) (ht : (pc : Int) + off = (tgt : Int)) (kt : y ≤ x → J X ω γ M R cells slots tgt l rest) (kf : ¬ y ≤ x → J X ω γ M R cells slots (pc + 3) l rest) : J X ω γ M R cells slots pc l (.int y :: .int x :: rest) := by
  intro H locs ls hz hP hS hl hg
  exact lv_icmp_ge C.ex C.cd hd ht (fun h => kt h H locs ls hz hP hS hl hg) (fun h => kf h H locs ls hz hP hS hl hg)
theorem j_if_gt (C : jC X ω cc own dd mc ms) {x : Int32} {off : Int} (tgt : Nat) (hd : decode cc pc = .ok (.ifCond .gt off, 3)) (ht : (pc : Int) + off = (tgt : Int)) (kt : 0 < x → J X ω γ M R cells slots tgt l rest) (kf : ¬ 0 < x → J X ω γ M R cells slots (pc + 3) l rest) : J X ω γ M R cells slots pc l (.int x :: rest) := by
  intro H locs ls hz hP hS hl hg
  exact lv_if_gt C.ex C.cd hd ht (fun h => kt h H locs ls hz hP hS hl hg) (fun h => kf h H locs ls hz hP hS hl hg)
theorem j_icmp_gt (C : jC X ω cc own dd mc ms) {x y : Int32} {off : Int} (tgt : Nat) (hd : decode cc pc = .ok (.if_icmp .gt off, 3)) (ht : (pc : Int) + off = (tgt : Int)) (kt : y < x → J X ω γ M R cells slots tgt l rest) (kf : ¬ y < x → J X ω γ M R cells slots (pc + 3) l rest) : J X ω γ M R cells slots pc l (.int y :: .int x :: rest) := by
  intro H locs ls hz hP hS hl hg
  exact lv_icmp_gt C.ex C.cd hd ht (fun h => kt h H locs ls hz hP hS hl hg) (fun h => kf h H locs ls hz hP hS hl hg)
theorem j_if_le (C : jC X ω cc own dd mc ms) {x : Int32} {off : Int} (tgt : Nat) (hd : decode cc pc = .ok (.ifCond .le off, 3)) (ht : (pc : Int) + off = (tgt : Int)) (kt : x ≤ 0 → J X ω γ M R cells slots tgt l rest) (kf : ¬ x ≤ 0 → J X ω γ M R cells slots (pc + 3) l rest) : J X ω γ M R cells slots pc l (.int x :: rest) := by
  intro H locs ls hz hP hS hl hg
  exact lv_if_le C.ex C.cd hd ht (fun h => kt h H locs ls hz hP hS hl hg) (fun h => kf h H locs ls hz hP hS hl hg)
theorem j_icmp_le (C : jC X ω cc own dd mc ms) {x y : Int32} {off : Int} (tgt : Nat) (hd : decode cc pc = .ok (.if_icmp .le off, 3)) (ht : (pc : Int) + off = (tgt : Int)) (kt : x ≤ y → J X ω γ M R cells slots tgt l rest) (kf : ¬ x ≤ y → J X ω γ M R cells slots (pc + 3) l rest) : J X ω γ M R cells slots pc l (.int y :: .int x :: rest) := by
  intro H locs ls hz hP hS hl hg
  exact lv_icmp_le C.ex C.cd hd ht (fun h => kt h H locs ls hz hP hS hl hg) (fun h => kf h H locs ls hz hP hS hl hg)
end JI
