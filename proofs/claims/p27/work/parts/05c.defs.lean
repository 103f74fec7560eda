theorem lt_of_in {p : Int32} {n : Nat} (h : vp_in p n) : p.toNatClampNeg < n := Nat.not_le.mp fun q => h (Or.inr q)
def rCol (M : jM) (t : Nat) (k : Int32) : Int32 := rAt (M (t + 1)) 4 k
def rOp (M : jM) (t : Nat) (k : Int32) : Int32 := rAt (M (t + 2)) 4 k
def rHasC (M : jM) (t : Nat) (k : Int32) : Int32 := if k < 0 then nI 0 else if M t 2 ≤ k then nI 0 else nI 1
def rTakes (M : jM) (t : Nat) (k v : Int32) : Int32 := if rHasC M t k = 0 then (if v = 0 then nI 1 else nI 0) else rIn v (nI 0) (nI 31)
theorem rHasC_B (M : jM) (t : Nat) (k : Int32) : isB (rHasC M t k) := by
  unfold rHasC isB
  split
  · exact Or.inl rfl
  · split
    · exact Or.inl rfl
    · exact Or.inr rfl
theorem rTakes_B (M : jM) (t : Nat) (k v : Int32) : isB (rTakes M t k v) := by
  unfold rTakes
  split
  · split
    · exact Or.inr rfl
    · exact Or.inl rfl
  · exact rIn_B _ _ _
def rCost (M : jM) (b t v : Nat) (way : Int32) : Int32 := if way = nI 9 then M b 1 else nI 10 + rWhere M b (rCol M t way) (rOp M t way) (rAt (M v) 4 way)
def rIdx (M : jM) (a : Nat) (c : Int32) : Int32 := if (M a 7 >>> (c &&& 31)) &&& nI 1 = nI 1 then nI 1 else nI 0
def rHasS (M : jM) (a : Nat) (p : Int32) : Int32 := if p < 0 then nI 0 else if M a 8 ≤ p then nI 0 else nI 1
def rSA (a : Nat) (p : Int32) : Nat := if p < 0 then a + 8 else if p < nI 6 then a + 25 + 3 * p.toNatClampNeg else a + 8
theorem rSA_N (a : Nat) {k : Nat} (h : k < 6) : rSA a (nI k) = a + 25 + 3 * k := by
  simp only [rSA, if_neg (nI_pos (show k < 2 ^ 31 by omega)), if_pos (nI_lt h (by decide)), nI_clamp (show k < 2 ^ 31 by omega)]
def rShare (M : jM) (a : Nat) (s : Int32) : Int32 := if M (a + 24) 0 ≤ s then (if M (a + 24) 1 ≤ s then nI 2 else nI 1) else nI 0
def rShr (M : jM) (a t v : Nat) (k : Nat) : Int32 := if M (a + 5) 1 = 0 then nI 0 else nI 1000 * rWhere M (a + 5) (rCol M t (nI k)) (rOp M t (nI k)) (rAt (M v) 4 (nI k)) / M (a + 5) 1
def rWorth : Nat → Int32
  | 0 => nI 1
  | k + 1 => rWorth k * nI 3
def rCls (M : jM) (a t v : Nat) : Nat → Int32
  | 0 => nI 0
  | k + 1 => rCls M a t v k + rWorth k * rShare M a (rShr M a t v k)
def rBW (M : jM) (a b t v : Nat) : Nat → Int32 × Int32
  | 0 => (nI 9, nI 0)
  | k + 1 => if rIdx M a (rCol M t (nI k)) = 0 then rBW M a b t v k else if (rBW M a b t v k).1 = nI 9 then (nI k, rCost M b t v (nI k)) else if (rBW M a b t v k).2 ≤ rCost M b t v (nI k) then rBW M a b t v k else (nI k, rCost M b t v (nI k))
def rBest (M : jM) (a b t v n : Nat) : Int32 := if (rBW M a b t v n).2 ≤ M b 1 then (rBW M a b t v n).1 else nI 9
def rPA (R : jR) (b : Nat) (p : Int32) : Nat := if p < 0 then b + 2 else if p < nI 8 then pa R b p.toNatClampNeg else b + 2
theorem rPA_N (R : jR) (b : Nat) {k : Nat} (h : k < 8) : rPA R b (nI k) = pa R b k := by
  simp only [rPA, if_neg (nI_pos (show k < 2 ^ 31 by omega)), if_pos (nI_lt h (by decide)), nI_clamp (show k < 2 ^ 31 by omega)]
theorem rPA_at {ω : jW} {γ : jG} {R : jR} {b : Nat} (h : SR R b) (g : gShelf ω γ b) (p : Int32) : jAt ω γ (rPA R b p) 2 := by
  unfold rPA
  split
  · exact g.2.2.2.2.1
  · split
    · rename_i h0 h1
      exact h.pl g (lt_of_in (in_of' h0 h1 (by decide)))
    · exact g.2.2.2.2.1
def rNum (M : jM) (R : jR) (b : Nat) (p : Int32) : Int32 := if p < 0 then -4 else if p < M b 2 then M (rPA R b p) 0 else -4
def rAhead (M : jM) (p q : Nat) : Int32 := if M p 5 = M q 5 then (if M q 8 ≤ M p 8 then nI 0 else nI 1) else (if M q 5 ≤ M p 5 then nI 0 else nI 1)
theorem rAhead_B (M : jM) (p q : Nat) : isB (rAhead M p q) := by
  unfold rAhead isB
  split <;> split <;> first | exact Or.inl rfl | exact Or.inr rfl
/-- the plan p of n is the one: number x; statement s and class c; unpinned ahead of q; to be dropped behind x others -/
def qNum (M : jM) (R : jR) (b : Nat) (x : Int32) (k : Nat) : Bool := decide (M (pa R b k) 0 = x)
def qFor (M : jM) (R : jR) (b : Nat) (s c : Int32) (k : Nat) : Bool := decide (M (pa R b k) 1 = s) && decide (M (pa R b k) 2 = c)
def qOf (M : jM) (R : jR) (b : Nat) (s : Int32) (k : Nat) : Bool := decide (M (pa R b k) 1 = s)
def qPin (M : jM) (R : jR) (b : Nat) (k : Nat) : Bool := decide (¬ M (pa R b k) 7 = 0)
def qAhd (M : jM) (R : jR) (b q : Nat) (k : Nat) : Bool := decide (M (pa R b k) 7 = 0) && decide (¬ rAhead M (pa R b k) q = 0)
def qDrp (M : jM) (R : jR) (b n : Nat) (x : Int32) (k : Nat) : Bool := decide (M (pa R b k) 7 = 0) && decide (nI (rCnt (qAhd M R b (pa R b k)) n) = x)
def rPTell (M : jM) (p : Nat) (w r : Int32) : Int32 := if w = nI 0 then M p 1 else if w = nI 1 then M p 2 else if w = nI 2 then M p 3 else if w = nI 3 then M p 4 else if w = nI 4 then M p 5 else if w = nI 5 then M p 6 else if w = nI 6 then (if M p 7 = 0 then nI 0 else nI 1) else r - M p 8
def rLTell (M : jM) (b : Nat) (w : Int32) : Int32 := if M b 1 = 0 then -4 else if w = nI 0 then M b 3 else if w = nI 1 then M b 4 else if w = nI 2 then M b 5 else if w = nI 3 then M b 6 else if w = nI 4 then M b 7 else if w = nI 5 then M b 8 else if w = nI 6 then (if M b 9 = 0 then nI 0 else nI 1) else M b 10
def rHasR (M : jM) (b : Nat) (p : Int32) : Int32 := if p < 0 then nI 0 else if M b 2 ≤ p then nI 0 else nI 1
def rCell (M : jM) (b : Nat) (r w : Int32) : Int32 := rAt (M (b + 1)) 150 (r * nI 5 + w)
def rFitK (M : jM) (b t v : Nat) (r : Int32) (k : Nat) : Bool := decide (¬ rHolds (rCell M b r (rCol M t (nI k))) (rOp M t (nI k)) (rAt (M v) 4 (nI k)) = 0)
def rFit (M : jM) (b t v : Nat) (r : Int32) (n : Nat) : Int32 := if (List.range n).all (rFitK M b t v r) then nI 1 else nI 0
theorem rFit_no {M : jM} {b t v : Nat} {r : Int32} {n k : Nat} (hk : k < n) (h : rFitK M b t v r k = false) : rFit M b t v r n = nI 0 := by
  have e : (List.range n).all (rFitK M b t v r) = false := by
    rw [List.all_eq_false]
    exact ⟨k, List.mem_range.mpr hk, by simp [h]⟩
  simp only [rFit, e]
  rfl
theorem rFit_yes {M : jM} {b t v : Nat} {r : Int32} {n : Nat} (h : ∀ k, k < n → rFitK M b t v r k = true) : rFit M b t v r n = nI 1 := by
  have e : (List.range n).all (rFitK M b t v r) = true := by
    rw [List.all_eq_true]
    exact fun k hk => h k (List.mem_range.mp hk)
  simp only [rFit, e]
  rfl
theorem rFit_B (M : jM) (b t v : Nat) (r : Int32) (n : Nat) : isB (rFit M b t v r n) := by
  unfold rFit isB
  split
  · exact Or.inr rfl
  · exact Or.inl rfl
def rTWF (M : jM) (b t v n : Nat) (k : Nat) : Int32 := if rFit M b t v (nI k) n = 0 then 0 else rCell M b (nI k) (nI 4)
def rAcc (M : jM) (a : Nat) (s v0 v1 v2 v3 : Int32) : Int32 := if rHasS M a s = 0 then nI 0 else if rTakes M (rSA a s) (nI 0) v0 = 0 then nI 0 else if rTakes M (rSA a s) (nI 1) v1 = 0 then nI 0 else if rTakes M (rSA a s) (nI 2) v2 = 0 then nI 0 else if rTakes M (rSA a s) (nI 3) v3 = 0 then nI 0 else nI 1
/-- the row of statements is as it was made -/
def SS (R : jR) (a : Nat) : Prop := ∀ j, j < 6 → R (a + 7) j = some (a + 25 + 3 * j)
theorem rSA_g {ω : jW} {γ : jG} {a : Nat} (g : gState ω γ a) (p : Int32) : gStm ω γ (rSA a p) := by
  unfold rSA
  split
  · exact g.2.2.2.2.2.2.2.2.1
  · split
    · rename_i h0 h1
      exact g.2.2.2.2.2.2.2.2.2.2.2.2.2.2.2 _ (lt_of_in (in_of' h0 h1 (by decide)))
    · exact g.2.2.2.2.2.2.2.2.1
