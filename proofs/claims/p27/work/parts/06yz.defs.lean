theorem sI_add (f g : Nat → Int32) (n : Nat) : sI (fun k => f k + g k) n = sI f n + sI g n := by
  induction n with
  | zero => rfl
  | succ n ih =>
    simp only [sI]
    rw [ih, Int32.add_assoc, Int32.add_assoc, ← Int32.add_assoc (sI g n), Int32.add_comm (sI g n) (f n), Int32.add_assoc (f n)]
theorem sI_zero (n : Nat) : sI (fun _ => 0) n = 0 := by
  induction n with
  | zero => rfl
  | succ n ih =>
    simp only [sI]
    rw [ih]
    rfl
theorem sI_one (x : Nat) (y : Int32) (n : Nat) : sI (fun v => if v = x then y else 0) n = if x < n then y else 0 := by
  induction n with
  | zero => rfl
  | succ n ih =>
    simp only [sI]
    rw [ih]
    by_cases h : x < n
    · rw [if_pos h, if_neg (by omega), if_pos (by omega), Int32.add_zero]
    · rw [if_neg h]
      by_cases h2 : n = x
      · rw [if_pos h2, if_pos (by omega), Int32.zero_add]
      · rw [if_neg h2, if_neg (by omega), Int32.zero_add]
/-- the sum by values is the sum by rows -/
theorem sI_swap (h : Nat → Prop) [DecidablePred h] (val : Nat → Nat) (w : Nat → Int32) (n r : Nat) (hv : ∀ k, k < r → val k < n) :
    sI (fun v => if h v then sI (fun k => if val k = v then w k else 0) r else 0) n = sI (fun k => if h (val k) then w k else 0) r := by
  induction r with
  | zero =>
    have e : (fun v => if h v then sI (fun k => if val k = v then w k else 0) 0 else 0) = fun _ => (0 : Int32) := by
      funext v
      split
      · rfl
      · rfl
    rw [e, sI_zero]
    rfl
  | succ r ih =>
    have e : (fun v => if h v then sI (fun k => if val k = v then w k else 0) (r + 1) else 0) = fun v => (if h v then sI (fun k => if val k = v then w k else 0) r else 0) + (if v = val r then (if h (val r) then w r else 0) else 0) := by
      funext v
      by_cases h1 : h v
      · rw [if_pos h1, if_pos h1]
        by_cases h2 : v = val r
        · subst h2
          rw [if_pos rfl, if_pos h1]
          show _ + (if val r = val r then w r else 0) = _
          rw [if_pos rfl]
        · rw [if_neg h2]
          show _ + (if val r = v then w r else 0) = _
          rw [if_neg (fun q => h2 q.symm)]
      · rw [if_neg h1, if_neg h1]
        by_cases h2 : v = val r
        · subst h2
          rw [if_pos rfl, if_neg h1]
          rfl
        · rw [if_neg h2]
          rfl
    rw [e, sI_add, ih (fun k hk => hv k (by omega)), sI_one, if_pos (hv r (by omega))]
    rfl
theorem nI_inj {a b : Nat} (h : nI a = nI b) (ha : a < 2 ^ 31) (hb : b < 2 ^ 31) : a = b := by
  have := congrArg Int32.toNatClampNeg h
  rwa [nI_clamp ha, nI_clamp hb] at this
