section JN2
variable {X : jX} {ω : jW} {γ : jG} {M : jM} {R : jR} {cells slots pc : Nat} {l : List (Nat × Value)} {rest : List Value} {cc : ByteArray} {own : String} {dd mc ms : Nat}
theorem j_aaldN (C : jC X ω cc own dd mc ms) {a n kd : Nat} {i : Nat} {b : Nat} {Cn : String} (hA : jArr ω γ a kd n) (hkd : 13 ≤ kd ∧ kd < 16) (ht : (jtys ω)[kd - 11]? = some (ω.2.2.1 kd, .object Cn)) (hin : i < n) (hn : n < 2 ^ 31) (hb : R a i = some b) (hd : decode cc pc = .ok (.aaload, 1))
    (kk : J X ω γ M R cells slots (pc + 1) l (.ref b :: rest)) : J X ω γ M R cells slots pc l (.int (nI i) :: .ref a :: rest) :=
  j_aald C hA hkd ht (vp_in_nI hin hn) (by rw [nI_clamp (by omega)]; exact hb) hd kk
theorem j_aastN (C : jC X ω cc own dd mc ms) {a n kd ci v : Nat} {i : Nat} {r : vw_C} (hA : jArr ω γ a kd n) (hkd : 13 ≤ kd ∧ kd < 16) (hV : jAt ω γ v ci) (hci : ci < 11) (hc : vwCl[ci]? = some r) (ht : (jtys ω)[kd - 11]? = some (ω.2.2.1 kd, .object r.1)) (hin : i < n) (hn : n < 2 ^ 31) (hd : decode cc pc = .ok (.aastore, 1))
    (kk : J X ω γ M (jup R a i (some v)) cells slots (pc + 1) l rest) : J X ω γ M R cells slots pc l (.ref v :: .int (nI i) :: .ref a :: rest) :=
  j_aast C hA hkd hV hci hc ht (vp_in_nI hin hn) hd (by rw [nI_clamp (by omega)]; exact kk)
end JN2
theorem isB.fit {x : Int32} (h : isB x) : fits .boolean (.int x) = true := by
  rcases h with rfl | rfl <;> rfl
theorem jcopy_o (M : jM) {a b n x : Nat} (h : x ≠ b) : jcopy M a b n x = M x := funext fun j => if_neg (fun q => h q.1)
theorem jcopy_in (M : jM) {a b n j : Nat} (h : j < n) : jcopy M a b n b j = M a j := if_pos ⟨rfl, h⟩
theorem jcopy_out (M : jM) {a b n j : Nat} (h : ¬ j < n) : jcopy M a b n b j = M b j := if_neg fun q => h q.2
def jcopyF (M : jM) (a b lo n : Nat) : jM := fun x j => if x = b ∧ lo ≤ j ∧ j < n then M a j else M x j
theorem jcopyF_0 (M : jM) (a b lo : Nat) : jcopyF M a b lo lo = M := by
  funext x j
  simp only [jcopyF]
  rw [if_neg (by omega)]
theorem jcopyF_o (M : jM) {a b lo n x : Nat} (h : x ≠ b) : jcopyF M a b lo n x = M x := funext fun j => if_neg (fun q => h q.1)
theorem jcopyF_in (M : jM) {a b lo n j : Nat} (h0 : lo ≤ j) (h : j < n) : jcopyF M a b lo n b j = M a j := if_pos ⟨rfl, h0, h⟩
theorem jcopyF_out (M : jM) {a b lo n j : Nat} (h : j < lo ∨ n ≤ j) : jcopyF M a b lo n b j = M b j := if_neg fun q => by omega
theorem jcopyF_s (M : jM) {a b lo k : Nat} (hl : lo ≤ k) (h : a ≠ b) : jup (jcopyF M a b lo k) b k (jcopyF M a b lo k a k) = jcopyF M a b lo (k + 1) := by
  funext x j
  rw [jcopyF_o M h]
  simp only [jup, jcopyF]
  by_cases hx : x = b
  · subst hx
    by_cases hj : j = k
    · subst hj
      simp [hl]
    · by_cases h2 : lo ≤ j ∧ j < k
      · simp [hj, h2, show lo ≤ j ∧ j < k + 1 by omega]
      · rw [if_neg (by omega), if_neg (by omega), if_neg (by omega)]
  · simp [hx]
def rPBegin (M : jM) (p : Nat) (n s c : Int32) : jM := jup (jup (jup (jup (jup (jup M p 0 n) p 1 s) p 2 c) p 5 (nI 0)) p 6 (nI 0)) p 7 (nI 0)
def rLBegin (M : jM) (b v : Nat) (s c : Int32) : jM := jup (jup (jcopy (jup (jup M b 1 (nI 1)) b 2 s) v (b + 1) 4) b 3 c) b 10 (-4)
def kSums (M : jM) (c b : Nat) : jM := jcopyF (jcopy M (c + 1) (b + 1) 128) c b 1 2
def kTable (M : jM) (c b : Nat) : jM := jcopyF (kSums (jcopy M (c + 1) (b + 1) 150) (c + 2) (b + 2)) c b 2 3
def kStm (M : jM) (u t : Nat) : jM := jcopyF (jcopy (jcopy M (u + 1) (t + 1) 4) (u + 2) (t + 2) 4) u t 2 4
def kLast (M : jM) (c b : Nat) : jM := jcopyF (jcopy M (c + 1) (b + 1) 4) c b 1 11
def kPl (M : jM) (R : jR) (c b : Nat) : Nat → jM
  | 0 => M
  | k + 1 => jcopy (kPl M R c b k) (pa R c k) (pa R b k) 9
def kShelf (M : jM) (R : jR) (c b : Nat) : jM := jcopyF (kPl M R c b 8) c b 2 6
def kStms (M : jM) (e a : Nat) : Nat → jM
  | 0 => M
  | t + 1 => kStm (kStms M e a t) (e + 25 + 3 * t) (a + 25 + 3 * t)
def kSt5 (M : jM) (R : jR) (e a : Nat) : jM := kLast (kShelf (kStms (kSums (kTable M (e + 1) (a + 1)) (e + 5) (a + 5)) e a 6) R (e + 11) (a + 11)) (e + 22) (a + 22)
def kState (M : jM) (R : jR) (e a : Nat) : jM := jcopyF (jcopy (kSt5 M R e a) (e + 24) (a + 24) 5) e a 7 12
theorem kSums_o (M : jM) {c b x : Nat} (h : x < b ∨ b + 2 ≤ x) : kSums M c b x = M x := by
  rw [kSums, jcopyF_o _ (by omega), jcopy_o _ (by omega)]
theorem kTable_o (M : jM) {c b x : Nat} (h : x < b ∨ b + 4 ≤ x) : kTable M c b x = M x := by
  rw [kTable, jcopyF_o _ (by omega), kSums_o _ (by omega), jcopy_o _ (by omega)]
theorem kStm_o (M : jM) {u t x : Nat} (h : x < t ∨ t + 3 ≤ x) : kStm M u t x = M x := by
  rw [kStm, jcopyF_o _ (by omega), jcopy_o _ (by omega), jcopy_o _ (by omega)]
theorem kLast_o (M : jM) {c b x : Nat} (h : x < b ∨ b + 2 ≤ x) : kLast M c b x = M x := by
  rw [kLast, jcopyF_o _ (by omega), jcopy_o _ (by omega)]
theorem kPl_o (M : jM) {R : jR} {c b x : Nat} (hb : SR R b) (h : x < b + 3 ∨ b + 11 ≤ x) : ∀ n, n ≤ 8 → kPl M R c b n x = M x
  | 0, _ => rfl
  | n + 1, hn => by
    obtain ⟨j, hj, e⟩ := hb.rg (show n < 8 by omega)
    rw [kPl, jcopy_o _ (by omega), kPl_o M hb h n (by omega)]
theorem kShelf_o (M : jM) {R : jR} {c b x : Nat} (hb : SR R b) (h : x < b ∨ b + 11 ≤ x) : kShelf M R c b x = M x := by
  rw [kShelf, jcopyF_o _ (by omega), kPl_o M hb (by omega) 8 (Nat.le_refl 8)]
theorem kStms_o (M : jM) {e a x : Nat} : ∀ n, (x < a + 25 ∨ a + 25 + 3 * n ≤ x) → kStms M e a n x = M x
  | 0, _ => rfl
  | n + 1, h => by rw [kStms, kStm_o _ (by omega), kStms_o M n (by omega)]
def jswap (R : jR) (b p q : Nat) : jR := jup (jup R (b + 1) p (some (pa R b q))) (b + 1) q (some (pa R b p))
theorem pa_o (R : jR) {b c p q k : Nat} (h : b ≠ c) : pa (jswap R c p q) b k = pa R b k := by
  simp only [pa, jswap]
  rw [jup_na _ _ (by omega), jup_na _ _ (by omega)]
theorem pa_swap (R : jR) (b p q k : Nat) : pa (jswap R b p q) b k = if k = q then pa R b p else if k = p then pa R b q else pa R b k := by
  simp only [pa, jswap, jup]
  by_cases h1 : k = q
  · simp [h1, pa]
  · by_cases h2 : k = p
    · simp [h1, h2, pa]
      split <;> rfl
    · simp [h1, h2]
theorem SR_swap {R : jR} {b p q : Nat} (h : SR R b) (hp : p < 8) (hq : q < 8) : SR (jswap R b p q) b := by
  have key : ∀ k, k < 8 → ∃ k', k' < 8 ∧ (jswap R b p q) (b + 1) k = R (b + 1) k' ∧ k' = (if k = q then p else if k = p then q else k) := by
    intro k hk
    simp only [jswap, jup]
    by_cases h1 : k = q
    · exact ⟨p, hp, by simp [h1, h.at hp], by simp [h1]⟩
    · by_cases h2 : k = p
      · refine ⟨q, hq, ?_, by simp [h2]; intro h3; exact absurd (h2.trans h3) h1⟩
        simp only [h1, h2, and_false, and_true, if_true, if_false, true_and]
        rw [if_neg (fun h3 => h1 (h2.trans h3)), h.at hq]
      · exact ⟨k, hk, by simp [h1, h2], by simp [h1, h2]⟩
  refine ⟨fun k hk => ?_, fun i j hi hj e => ?_⟩
  · obtain ⟨k', hk', e, -⟩ := key k hk
    rw [e]
    exact h.1 k' hk'
  · obtain ⟨i', hi', e1, f1⟩ := key i hi
    obtain ⟨j', hj', e2, f2⟩ := key j hj
    rw [e1, e2] at e
    have e3 := h.2 i' j' hi' hj' e
    rw [f1, f2] at e3
    by_cases a1 : i = q <;> by_cases a2 : i = p <;> by_cases a3 : j = q <;> by_cases a4 : j = p <;> simp only [a1, a2, a3, a4, if_true, if_false] at e3 <;> (try split at e3) <;> omega
theorem SR_o {R : jR} {b c p q : Nat} (h : SR R b) (hbc : b ≠ c) : SR (jswap R c p q) b := by
  have e : ∀ k, (jswap R c p q) (b + 1) k = R (b + 1) k := fun k => by
    simp only [jswap]
    rw [jup_na _ _ (by omega), jup_na _ _ (by omega)]
  refine ⟨fun k hk => ?_, fun i j hi hj q => ?_⟩
  · rw [e]; exact h.1 k hk
  · rw [e, e] at q; exact h.2 i j hi hj q
/-- a plan leaves the shelf -/
def rRem (M : jM) (b n : Nat) : jM := jup M b 2 (nI (n - 1))
def rThr (M : jM) (b n : Nat) : jM := jup (rRem M b n) b 5 (M b 5 + nI 1)
/-- a place that is told by an Int32, -1 for none: what is thrown away -/
def rThrM (M : jM) (b n : Nat) (p : Int32) : jM := if p < 0 then M else if nI n ≤ p then M else rThr M b n
def rThrR (R : jR) (b n : Nat) (p : Int32) : jR := if p < 0 then R else if nI n ≤ p then R else jswap R b p.toNatClampNeg (n - 1)
def rPut (M : jM) (b : Nat) (r w x : Int32) : jM := if r * nI 5 + w < 0 then M else if nI 150 ≤ r * nI 5 + w then M else jup M (b + 1) (r * nI 5 + w).toNatClampNeg x
theorem rPut_N (M : jM) (b : Nat) {r w : Nat} (x : Int32) (h : r * 5 + w < 150) : rPut M b (nI r) (nI w) x = jup M (b + 1) (r * 5 + w) x := by
  have e : nI r * nI 5 + nI w = nI (r * 5 + w) := by rw [pk_mul, nI_add]
  simp only [rPut, e, if_neg (nI_pos (show r * 5 + w < 2 ^ 31 by omega)), if_neg (nI_ge h (by decide)), nI_clamp (show r * 5 + w < 2 ^ 31 by omega)]
/-- the values of v go into row r -/
def rPutV (M : jM) (b v : Nat) (r : Int32) : Nat → jM
  | 0 => M
  | k + 1 => rPut (rPutV M b v r k) b r (nI k) (rAt (rPutV M b v r k v) 4 (nI k))
def rATS (M : jM) (b : Nat) (r w : Int32) : Nat → jM
  | 0 => M
  | k + 1 => rAddM (rATS M b r w k) (b + 2) (nI k) (rCell (rATS M b r w k) b r (nI k)) w
def rAddTo (M : jM) (b : Nat) (r w : Int32) : jM := jup (rATS M b r w 4) (b + 2) 1 (rATS M b r w 4 (b + 2) 1 + w)
def rApp (M : jM) (b v : Nat) (w : Int32) : jM :=
  let M1 := rPutV M b v (M b 2) 4
  let M2 := rPut M1 b (M1 b 2) (nI 4) w
  let M3 := rAddTo M2 b (M2 b 2) w
  jup M3 b 2 (M3 b 2 + nI 1)
/-- the cells of the table move down by one row, from place 5 r on, to place p -/
def rShift (M : jM) (b r p : Nat) : jM := fun x j => if x = b + 1 ∧ r * 5 ≤ j ∧ j < p then M x (j + 5) else M x j
def rDel (M : jM) (b r n : Nat) : jM :=
  let w := rCell M b (nI r) (nI 4)
  let M1 := rAddTo M b (nI r) (-w)
  rShift (jup M1 b 2 (nI (n - 1))) b r (5 * (n - 1))
def rUse7 (M : jM) (a p t v : Nat) : jM :=
  let M1 := jup M p 5 (M p 5 + nI 1)
  let M2 := jup M1 p 8 (M1 a 9)
  let M3 := jup M2 (a + 22) 4 (M2 p 0)
  let M4 := jup M3 (a + 22) 5 (M3 p 3)
  let M5 := jup M4 (a + 22) 6 (M4 p 4)
  let M6 := jup M5 (a + 22) 7 (rCost M5 (a + 3) t v (M5 p 3))
  jup M6 (a + 22) 9 (if M6 (a + 22) 7 ≤ M6 (a + 24) 2 * M6 p 4 then nI 0 else nI 1)
def rSur2 (M : jM) (a p : Nat) : jM :=
  let M1 := jup M a 11 (M a 11 + nI 1)
  jup M1 p 6 (M1 p 6 + nI 1)
/-- the plan p surprises: what is then -/
def rSurM (M : jM) (R : jR) (a p n : Nat) : jM := if rSur2 M a p p 6 < rSur2 M a p (a + 24) 3 then rSur2 M a p else rThrM (rSur2 M a p) (a + 11) n (rFirst (qNum (rSur2 M a p) R (a + 11) (rSur2 M a p p 0)) n)
def rSurR (M : jM) (R : jR) (a p n : Nat) : jR := if rSur2 M a p p 6 < rSur2 M a p (a + 24) 3 then R else rThrR R (a + 11) n (rFirst (qNum (rSur2 M a p) R (a + 11) (rSur2 M a p p 0)) n)
def rUseM (M : jM) (R : jR) (a p t v n : Nat) : jM := if rUse7 M a p t v (a + 22) 9 = 0 then rUse7 M a p t v else rSurM (rUse7 M a p t v) R a p n
def rUseR (M : jM) (R : jR) (a p t v n : Nat) : jR := if rUse7 M a p t v (a + 22) 9 = 0 then R else rSurR (rUse7 M a p t v) R a p n
