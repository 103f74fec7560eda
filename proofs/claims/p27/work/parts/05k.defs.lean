/-- what every call needs of the class's cells -/
def CB (M : jM) (R : jR) (a h T nh n c r len : Nat) : Prop := CI M R a h nh ∧ M (a + 11) 2 = nI n ∧ n ≤ 8 ∧ M a 8 = nI c ∧ c ≤ 6 ∧ M (a + 1) 2 = nI r ∧ r ≤ 30 ∧ TC M T ∧ M T 1 = nI len ∧ len ≤ 30 ∧
  (∀ t, t < c → M (a + 25 + 3 * t) 2 = nI (rNC M (a + 25 + 3 * t)) ∧ rNC M (a + 25 + 3 * t) ≤ 4) ∧ (¬ M (a + 22) 1 = 0 → M (rSA a (M (a + 22) 2)) 2 = nI (rNC M (rSA a (M (a + 22) 2))) ∧ rNC M (rSA a (M (a + 22) 2)) ≤ 4)
theorem rAcc_s {M : jM} {a c : Nat} {s v0 v1 v2 v3 : Int32} (hc : M a 8 = nI c) (hc6 : c ≤ 6) (h : ¬ rAcc M a s v0 v1 v2 v3 = 0) : ∃ k, k < c ∧ s = nI k := by
  by_cases h0 : rHasS M a s = 0
  · exact absurd (by simp only [rAcc, if_pos h0]; rfl) h
  · unfold rHasS at h0
    split at h0
    · exact absurd rfl h0
    · split at h0
      · exact absurd rfl h0
      · rename_i h1 h2
        rw [hc] at h2
        obtain ⟨k, hk, e⟩ := vp_in_of (in_of h1 h2 (by omega)) (by omega)
        exact ⟨k, hk, e⟩
theorem rHasS_s {M : jM} {a c : Nat} {s : Int32} (hc : M a 8 = nI c) (hc6 : c ≤ 6) (h0 : ¬ rHasS M a s = 0) : ∃ k, k < c ∧ s = nI k := by
  unfold rHasS at h0
  split at h0
  · exact absurd rfl h0
  · split at h0
    · exact absurd rfl h0
    · rename_i h1 h2
      rw [hc] at h2
      obtain ⟨k, hk, e⟩ := vp_in_of (in_of h1 h2 (by omega)) (by omega)
      exact ⟨k, hk, e⟩
theorem rHasR_s {M : jM} {b r : Nat} {p : Int32} (hr : M b 2 = nI r) (hr30 : r ≤ 30) (h0 : ¬ rHasR M b p = 0) : ∃ k, k < r ∧ p = nI k := by
  unfold rHasR at h0
  split at h0
  · exact absurd rfl h0
  · split at h0
    · exact absurd rfl h0
    · rename_i h1 h2
      rw [hr] at h2
      obtain ⟨k, hk, e⟩ := vp_in_of (in_of h1 h2 (by omega)) (by omega)
      exact ⟨k, hk, e⟩
def fRowOf (M : jM) (a : Nat) (r w : Int32) : Int32 := if rHasR M (a + 1) r = 0 then -1 else if rIn w (nI 0) (nI 4) = 0 then -1 else rCell M (a + 1) r w
def fKnown (M : jM) (a : Nat) (c v : Int32) : Int32 := if rIn c (nI 0) (nI 3) = 0 then -1 else if rIn v (nI 0) (nI 31) = 0 then -1 else rAt (M (a + 5 + 1)) 128 (c * nI 32 + v)
def fStOf (M : jM) (R : jR) (a n : Nat) (s w : Int32) : Int32 := if rHasS M a s = 0 then -1
  else if w = nI 0 then M (rSA a s) 2
  else if w = nI 1 then nI (rCnt (qOf M R (a + 11) s) n)
  else if w = nI 2 then M (rSA a s) 3
  else if w = nI 3 then -1
  else if w = nI 4 then -1
  else if w = nI 5 then -1
  else if w = nI 6 then -1
  else if w = nI 7 then -1
  else if w = nI 8 then -1
  else if w = nI 9 then -1
  else if w = nI 10 then (if rHasC M (rSA a s) (w - nI 10) = 0 then -4 else rCol M (rSA a s) (w - nI 10))
  else if w = nI 11 then (if rHasC M (rSA a s) (w - nI 10) = 0 then -4 else rCol M (rSA a s) (w - nI 10))
  else if w = nI 12 then (if rHasC M (rSA a s) (w - nI 10) = 0 then -4 else rCol M (rSA a s) (w - nI 10))
  else if w = nI 13 then (if rHasC M (rSA a s) (w - nI 10) = 0 then -4 else rCol M (rSA a s) (w - nI 10))
  else if w = nI 14 then -1
  else if w = nI 15 then -1
  else if w = nI 16 then -1
  else if w = nI 17 then -1
  else if w = nI 18 then -1
  else if w = nI 19 then -1
  else if w = nI 20 then (if rHasC M (rSA a s) (w - nI 20) = 0 then -4 else rOp M (rSA a s) (w - nI 20))
  else if w = nI 21 then (if rHasC M (rSA a s) (w - nI 20) = 0 then -4 else rOp M (rSA a s) (w - nI 20))
  else if w = nI 22 then (if rHasC M (rSA a s) (w - nI 20) = 0 then -4 else rOp M (rSA a s) (w - nI 20))
  else if w = nI 23 then (if rHasC M (rSA a s) (w - nI 20) = 0 then -4 else rOp M (rSA a s) (w - nI 20))
  else -1
def fLatest (M : jM) (a : Nat) (w : Int32) : Int32 := if rIn w (nI 0) (nI 7) = 0 then -1 else rLTell M (a + 22) w
def fPlc (M : jM) (R : jR) (a n : Nat) (p : Int32) : Int32 := rFirst (qNum M R (a + 11) p) n
def fPlanOf (M : jM) (R : jR) (a n : Nat) (p w : Int32) : Int32 := if fPlc M R a n p = -1 then -1 else if rIn w (nI 0) (nI 7) = 0 then -1 else rPTell M (rPA R (a + 11) (fPlc M R a n p)) w (M a 9)
def fPlanFor (M : jM) (R : jR) (a n : Nat) (s c : Int32) : Int32 := if rHasS M a s = 0 then -1 else if rIn c (nI 0) (nI 80) = 0 then -1 else rNum M R (a + 11) (rFirst (qFor M R (a + 11) s c) n)
def fDrops (M : jM) (R : jR) (a n : Nat) (p : Int32) : Int32 := if 0 ≤ p then rNum M R (a + 11) (rFirst (qDrp M R (a + 11) n p) n) else -1
def fCount (M : jM) (R : jR) (a h T n : Nat) (w : Int32) : Int32 := if w = nI 0 then M (a + 1) 2 else
  if w = nI 1 then M (a + 3) 1 else
  if w = nI 2 then M (a + 5) 1 else
  if w = nI 3 then M a 7 else
  if w = nI 4 then M a 8 else
  if w = nI 5 then M (a + 11) 2 else
  if w = nI 6 then nI (rCnt (qPin M R (a + 11)) n) else
  if w = nI 7 then M a 9 else
  if w = nI 8 then M a 10 else
  if w = nI 9 then M (a + 11) 4 else
  if w = nI 10 then M a 11 else
  if w = nI 11 then M (a + 11) 5 else
  if w = nI 12 then M h 1 else
  if w = nI 13 then M T 1 else
  if w = nI 14 then -1 else
  if w = nI 15 then -1 else
  if w = nI 16 then -1 else
  if w = nI 17 then -1 else
  if w = nI 18 then -1 else
  if w = nI 19 then -1 else
  if w = nI 20 then rAt (M (a + 24)) 5 (w - nI 20) else
  if w = nI 21 then rAt (M (a + 24)) 5 (w - nI 20) else
  if w = nI 22 then rAt (M (a + 24)) 5 (w - nI 20) else
  if w = nI 23 then rAt (M (a + 24)) 5 (w - nI 20) else
  if w = nI 24 then rAt (M (a + 24)) 5 (w - nI 20) else
  -1
def fClassOf (M : jM) (a v : Nat) (s v0 v1 v2 v3 : Int32) : Int32 := if rAcc M a s v0 v1 v2 v3 = 0 then -1 else rCls (rGiv M v v0 v1 v2 v3) a (rSA a s) v (rNC M (rSA a s))
def mAcc (M : jM) (a v : Nat) (s v0 v1 v2 v3 : Int32) : jM := if rAcc M a s v0 v1 v2 v3 = 0 then M else rGiv M v v0 v1 v2 v3
def fWay (M : jM) (a v : Nat) (s v0 v1 v2 v3 : Int32) : Int32 := if rAcc M a s v0 v1 v2 v3 = 0 then -1 else rBest (rGiv M v v0 v1 v2 v3) a (a + 5) (rSA a s) v (rNC M (rSA a s))
def fBestCost (M : jM) (a : Nat) : Int32 := if M (a + 22) 1 = 0 then -4 else rCost M (a + 3) (rSA a (M (a + 22) 2)) (a + 23) (rBest M a (a + 3) (rSA a (M (a + 22) 2)) (a + 23) (rNC M (rSA a (M (a + 22) 2))))
def fFault (M : jM) (T len : Nat) (w : Int32) : Int32 := if rIn w (nI 0) (nI 1) = 0 then -1 else if rFlt M T len = -1 then -4 else if w = 0 then rFlt M T len else rRsn M T (rFlt M T len)
def m3Row (M : jM) (R : jR) (a h v nh : Nat) (a0 a1 a2 a3 w : Int32) : jM := rApp (rGiv (rPuM M R h a nh) v a0 a1 a2 a3) (a + 1) v w
def fRow (M : jM) (R : jR) (a h v nh : Nat) (a0 a1 a2 a3 w : Int32) : Int32 := if rIn a0 (nI 0) (nI 31) = 0 then -1 else if rIn a1 (nI 0) (nI 31) = 0 then -1 else if rIn a2 (nI 0) (nI 31) = 0 then -1 else if rIn a3 (nI 0) (nI 31) = 0 then -1 else if rIn w (nI 1) (nI 999) = 0 then -1 else if M (a + 1) 2 < nI 30 then m3Row M R a h v nh a0 a1 a2 a3 w (a + 1) 2 - nI 1 else -3
def mRow (M : jM) (R : jR) (a h v nh : Nat) (a0 a1 a2 a3 w : Int32) : jM := if rIn a0 (nI 0) (nI 31) = 0 then M else if rIn a1 (nI 0) (nI 31) = 0 then M else if rIn a2 (nI 0) (nI 31) = 0 then M else if rIn a3 (nI 0) (nI 31) = 0 then M else if rIn w (nI 1) (nI 999) = 0 then M else if M (a + 1) 2 < nI 30 then m3Row M R a h v nh a0 a1 a2 a3 w else M
def pRow (M : jM) (R : jR) (a h nh : Nat) (a0 a1 a2 a3 w : Int32) : jR := if rIn a0 (nI 0) (nI 31) = 0 then R else if rIn a1 (nI 0) (nI 31) = 0 then R else if rIn a2 (nI 0) (nI 31) = 0 then R else if rIn a3 (nI 0) (nI 31) = 0 then R else if rIn w (nI 1) (nI 999) = 0 then R else if M (a + 1) 2 < nI 30 then rPuR R h nh else R
def fDrow (M : jM) (R : jR) (a h nh : Nat) (p : Int32) : Int32 := if rHasR M (a + 1) p = 0 then -1 else rCell (rPuM M R h a nh) (a + 1) p (nI 4)
def mDrow (M : jM) (R : jR) (a h nh r : Nat) (p : Int32) : jM := if rHasR M (a + 1) p = 0 then M else rDel (rPuM M R h a nh) (a + 1) p.toNatClampNeg r
def pDrow (M : jM) (R : jR) (a h nh : Nat) (p : Int32) : jR := if rHasR M (a + 1) p = 0 then R else rPuR R h nh
def m2Idx (M : jM) (R : jR) (a h nh : Nat) (c : Int32) : jM := jup (rPuM M R h a nh) a 7 (rPuM M R h a nh a 7 ^^^ (nI 1 <<< (c &&& 31)))
def fIndex (M : jM) (R : jR) (a h nh n : Nat) (c w : Int32) : Int32 := if rIn c (nI 0) (nI 3) = 0 then -1 else if rIn w (nI 0) (nI 1) = 0 then -1 else if rIdx M a c = (if w = nI 1 then nI 1 else nI 0) then -2 else if w = nI 1 then nI 0 else nI n - nI (rTB a c n n (m2Idx M R a h nh c) (rPuR R h nh)).2.2
def mIndex (M : jM) (R : jR) (a h nh n : Nat) (c w : Int32) : jM := if rIn c (nI 0) (nI 3) = 0 then M else if rIn w (nI 0) (nI 1) = 0 then M else if rIdx M a c = (if w = nI 1 then nI 1 else nI 0) then M else if w = nI 1 then m2Idx M R a h nh c else (rTB a c n n (m2Idx M R a h nh c) (rPuR R h nh)).1
def pIndex (M : jM) (R : jR) (a h nh n : Nat) (c w : Int32) : jR := if rIn c (nI 0) (nI 3) = 0 then R else if rIn w (nI 0) (nI 1) = 0 then R else if rIdx M a c = (if w = nI 1 then nI 1 else nI 0) then R else if w = nI 1 then rPuR R h nh else (rTB a c n n (m2Idx M R a h nh c) (rPuR R h nh)).2.1
def mAna (M : jM) (R : jR) (a h nh : Nat) : jM := kSums (rPuM M R h a nh) (a + 3) (a + 5)
def fStat (M : jM) (a T len c : Nat) : Int32 := if rFlt M T len = -1 then (if rFirst (qStm M a T len) c = -1 then (if M a 8 < nI 6 then nI c else -3) else rFirst (qStm M a T len) c) else -2
def mStat (M : jM) (R : jR) (a h T nh len c : Nat) : jM := if rFlt M T len = -1 then (if rFirst (qStm M a T len) c = -1 then (if M a 8 < nI 6 then jup (rRead (rPuM M R h a nh) (a + 25 + 3 * c) T ((len + 1) / 4)) a 8 (nI (c + 1)) else M) else rPuM M R h a nh) else M
def pStat (M : jM) (R : jR) (a h T nh len c : Nat) : jR := if rFlt M T len = -1 then (if rFirst (qStm M a T len) c = -1 then (if M a 8 < nI 6 then rPuR R h nh else R) else rPuR R h nh) else R
def mGP (M : jM) (R : jR) (a h v nh : Nat) (v0 v1 v2 v3 : Int32) : jM := rGiv (rPuM M R h a nh) v v0 v1 v2 v3
def fRun (M : jM) (R : jR) (a h v nh n r : Nat) (s v0 v1 v2 v3 : Int32) : Int32 := if rAcc M a s v0 v1 v2 v3 = 0 then -1 else sI (rTWF (rExM (mGP M R a h v nh v0 v1 v2 v3) (rPuR R h nh) a (rSA a s) v s.toNatClampNeg n (rNC M (rSA a s))) (a + 1) (rSA a s) v (rNC M (rSA a s))) r
def mRun (M : jM) (R : jR) (a h v nh n : Nat) (s v0 v1 v2 v3 : Int32) : jM := if rAcc M a s v0 v1 v2 v3 = 0 then M else rExM (mGP M R a h v nh v0 v1 v2 v3) (rPuR R h nh) a (rSA a s) v s.toNatClampNeg n (rNC M (rSA a s))
def pRun (M : jM) (R : jR) (a h v nh n : Nat) (s v0 v1 v2 v3 : Int32) : jR := if rAcc M a s v0 v1 v2 v3 = 0 then R else rExR (mGP M R a h v nh v0 v1 v2 v3) (rPuR R h nh) a (rSA a s) v s.toNatClampNeg n (rNC M (rSA a s))
def m2Pin (M : jM) (R : jR) (a h nh n : Nat) (p w : Int32) : jM := jup (rPuM M R h a nh) (rPA R (a + 11) (fPlc M R a n p)) 7 (if w = nI 1 then nI 1 else nI 0)
def fPin (M : jM) (R : jR) (a h nh n : Nat) (p w : Int32) : Int32 := if fPlc M R a n p = -1 then -1 else if rIn w (nI 0) (nI 1) = 0 then -1 else nI (rCnt (qPin (m2Pin M R a h nh n p w) (rPuR R h nh) (a + 11)) n)
def mPin (M : jM) (R : jR) (a h nh n : Nat) (p w : Int32) : jM := if fPlc M R a n p = -1 then M else if rIn w (nI 0) (nI 1) = 0 then M else m2Pin M R a h nh n p w
def pPin (M : jM) (R : jR) (a h nh n : Nat) (p w : Int32) : jR := if fPlc M R a n p = -1 then R else if rIn w (nI 0) (nI 1) = 0 then R else rPuR R h nh
def fDrop (M : jM) (R : jR) (a h nh n : Nat) (p : Int32) : Int32 := if fPlc M R a n p = -1 then -1 else if M (rPA R (a + 11) (fPlc M R a n p)) 7 = 0 then rThr (rPuM M R h a nh) (a + 11) n (a + 11) 2 else -2
def mDrop (M : jM) (R : jR) (a h nh n : Nat) (p : Int32) : jM := if fPlc M R a n p = -1 then M else if M (rPA R (a + 11) (fPlc M R a n p)) 7 = 0 then rThr (rPuM M R h a nh) (a + 11) n else M
def pDrop (M : jM) (R : jR) (a h nh n : Nat) (p : Int32) : jR := if fPlc M R a n p = -1 then R else if M (rPA R (a + 11) (fPlc M R a n p)) 7 = 0 then jswap (rPuR R h nh) (a + 11) (fPlc M R a n p).toNatClampNeg (n - 1) else R
def fSet (M : jM) (R : jR) (a h nh : Nat) (w x : Int32) : Int32 := if rIn w (nI 0) (nI 4) = 0 then -1 else if rIn x (rAt jLeast 5 w) (rAt jMost 5 w) = 0 then -1 else rPuM M R h a nh (a + 24) w.toNatClampNeg
def mSet (M : jM) (R : jR) (a h nh : Nat) (w x : Int32) : jM := if rIn w (nI 0) (nI 4) = 0 then M else if rIn x (rAt jLeast 5 w) (rAt jMost 5 w) = 0 then M else jup (rPuM M R h a nh) (a + 24) w.toNatClampNeg x
def pSet (R : jR) (h nh : Nat) (w x : Int32) : jR := if rIn w (nI 0) (nI 4) = 0 then R else if rIn x (rAt jLeast 5 w) (rAt jMost 5 w) = 0 then R else rPuR R h nh
def fUndo (nh : Nat) : Int32 := if nI nh = 0 then -2 else nI (nh - 1)
def mUndo (M : jM) (R : jR) (a h nh : Nat) : jM := if nI nh = 0 then M else jup (kState M R (sa R h (nh - 1)) a) h 1 (nI (nh - 1))
def fType (len : Nat) (ch : Int32) : Int32 := if rIn ch (nI 32) (nI 126) = 0 then -1 else if nI len < nI 30 then nI (len + 1) else -3
def mType (M : jM) (T len : Nat) (ch : Int32) : jM := if rIn ch (nI 32) (nI 126) = 0 then M else if nI len < nI 30 then jup (jup M (T + 1) len ch) T 1 (nI (len + 1)) else M
theorem rIn_of {x : Int32} {lo hi : Nat} (h : ¬ rIn x (nI lo) (nI hi) = 0) (hh : hi < 2 ^ 31) (hl : lo < 2 ^ 31) : ∃ k, lo ≤ k ∧ k ≤ hi ∧ x = nI k := by
  unfold rIn at h
  split at h
  · exact absurd rfl h
  · split at h
    · exact absurd rfl h
    · rename_i h1 h2
      have h0 : ¬ x < 0 := fun q => h1 (Int32.lt_of_lt_of_le q (nI_pos' hl))
      obtain ⟨k, hk, rfl⟩ := nI_of h0
      refine ⟨k, Nat.le_of_not_lt fun q => h1 ((nI_ltI hk hl).mpr q), Nat.le_of_not_lt fun q => h2 ((nI_ltI hh hk).mpr q), rfl⟩
theorem gs_L : Cond.fieldLink RX9 191 "PlanShelves" "LEAST_SETTING" "[I" ∈ TBL := tb_in 495 (by decide +kernel) rfl
theorem gs_M : Cond.fieldLink RX9 197 "PlanShelves" "MOST_SETTING" "[I" ∈ TBL := tb_in 498 (by decide +kernel) rfl
