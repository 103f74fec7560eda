theorem tb_all {Ts ws : List Cond} (hT : ∀ w ∈ TBL, w ∈ Ts) (h : ∀ w ∈ ws, w ∈ TBL) : GoodIn Ts ws := fun w hw => ⟨hT w (h w hw), good_of_word (List.mem_filter.mp (h w hw)).2⟩
theorem tb_cons {y : MethodName} {cc : ByteArray} {maxL : Nat} {ret : Option FieldType} (h : Cond.code y cc maxL ret ∈ TBL) : ∀ w ∈ Cond.code y cc maxL ret :: TBL, w ∈ TBL := fun w hw => by
  rcases List.mem_cons.mp hw with rfl | hw
  · exact h
  · exact hw
theorem vaF_S {A : Nat → Prop} {H0 H : Heap} {locs L : List Loc} {st t : State} (hS : va_S A H0 H locs) (h0 : st.heap = H) (hL : ∀ q ∈ L, A q.base) (hF : va_F A st t) : va_S A H0 t.heap (locs ++ L) := by
  obtain ⟨z, k⟩ := hF
  rw [h0] at z k
  refine ⟨Nat.le_trans hS.1 z, fun q h1 h2 => ?_, fun q hq => ?_⟩
  · rw [k q (Nat.lt_of_lt_of_le h1 hS.1) h2]
    exact hS.2.1 q h1 h2
  · rcases List.mem_append.mp hq with h | h
    · exact hS.2.2 q h
    · exact hL q h
section JK
variable {X : jX} {ω : jW} {γ : jG} {M : jM} {R : jR} {cells slots pc : Nat} {l : List (Nat × Value)} {rest : List Value} {cc : ByteArray} {own : String} {dd mc ms : Nat}
theorem j_run {H : Heap} {locs : List Loc} {ls : Array Slot} {mcc msc : Nat} {st : List Value} {Post' : jPost} {a : Array Value} (hr : va_Run (xp X) (xl X) (xe X) (xR X) (xs X) (xm X) (xargs X) (xbelow X) (xmeth X) (xc X) H locs cells slots mcc msc (F0 (xm X) pc ls st) rest (jQ ω Post' a) (jA ω))
    (hS : va_S (jA ω) (xs X).heap H locs) (hl : lv_has ls (xn X) l) (hg : ∀ q ∈ l, q.2.category = 1)
    (kk : ∀ (v : Option Value) (γ' : jG) (M' : jM) (R' : jR), Post' v γ' M' R' → J X ω γ' M' R' (cells + mcc) (slots + msc) (pc + 3) l (v.toList ++ rest)) :
    W (xp X) (xl X) (xe X) (xR X) (xs X) (xm X) (xargs X) (xbelow X) (xmeth X) (xc X) H locs cells slots (xQ X) (F0 (xm X) pc ls st) := by
  intro T hT XX
  obtain ⟨v, st₀, t, T', L, h0, X', hL, e1, e2, ⟨v', γ', M', R', hv, hp, hz', hP', hF⟩, stp⟩ := hr T hT XX
  cases hv
  obtain ⟨t2, a1, b1⟩ := kk v γ' M' R' hp T'.heap (locs ++ L) ls (by rw [e1]; exact hz') (by rw [e1]; exact hP') (by rw [e1]; exact vaF_S hS h0 hL hF) hl hg T' rfl X'
  exact ⟨t2, stp t2 a1, b1⟩
theorem j_pre (C : jC X ω cc own dd mc ms) {H : Heap} {locs : List Loc} (hz : H.size = jlo ω + jn γ) (hP : va_P ω.2.1 vwCl (jpool ω γ M R) H) (hS : va_S (jA ω) (xs X).heap H locs) (args : List Value) : ∀ U : State, U.heap = H → (xs X).WarmedH U.vm → va_Pc args (jPre ω γ M R) args.toArray U :=
  fun U hU hW => ⟨rfl, by rw [hU]; exact hz, by rw [hU]; exact hP, va_K.moved hW.alike C.kk, nw_warm hW C.nw, by rw [hU]; exact jXi_warm hW (jXi_kept hS.2.1 C.xi)⟩
theorem j_callV (C : jC X ω cc own dd mc ms) {y : MethodName} {bytes : ByteArray} {maxL : Nat} {ret : Option FieldType} {d mcc msc n index b ci : Nat} {As st : List Value} {Post' : jPost} {Cn : String} {T : u_T} {N : Nat}
    (hct : Ct (xl X) ω y bytes maxL ret d mcc msc (.ref b :: As) γ M R Post') (hy : jYC y bytes maxL ret n) (hl : jMN own index y) (hi : Cond.instanceMethod y ∈ TBL) (hsel : Cond.selects Cn y y ∈ TBL) (hyc : y.cls = Cn) (hcl : vwCl[ci]? = some (Cn, T, N))
    (hd : decode cc pc = .ok (.invokevirtual index, 3)) (hst : st = As.reverse ++ .ref b :: rest) (hn : As.length = n) (hb : jAt ω γ b ci) (hci : ci < 11) (hcat : (rest.map fun v => v.category).sum ≤ 8) (hdd : d + 1 ≤ dd ∧ maxL ≤ 19) (hcs : cells + mcc ≤ mc ∧ slots + msc ≤ ms)
    (kk : ∀ (v : Option Value) (γ' : jG) (M' : jM) (R' : jR), Post' v γ' M' R' → J X ω γ' M' R' (cells + mcc) (slots + msc) (pc + 3) l (v.toList ++ rest)) : J X ω γ M R cells slots pc l st := by
  subst hst
  obtain ⟨hyw, hyi, hyd⟩ := hy
  obtain ⟨r1, r2, r3, r4⟩ := C.rm
  intro H locs ls hz hP hS hlv hg
  have hpre : PreV (xs X) H Cn b (va_Pc (.ref b :: As) (jPre ω γ M R)) As :=
    ⟨jPre_blind _ _ _ _ _, va_recv C.kk hP hcl (show (jpool ω γ M R)[b - jlo ω]? = some (b, .inr (ci, jfs (jP γ b) (M b) 0 (jlay ci))) by rw [jpl_get hb.1 hb.2.1, jcell_O hb.2.2 hci]), j_pre C hz hP hS _⟩
  have hR : (jrm d mcc msc).frames + 1 ≤ (xR X).frames ∧ 8 + (maxL + 11) + (jrm d mcc msc).locals ≤ (xR X).locals := ⟨Nat.le_trans hdd.1 r1, by show 8 + (maxL + 11) + 38 * d ≤ _; omega⟩
  have hf : cells + mcc ≤ (xR X).cells ∧ slots + msc ≤ (xR X).slots := ⟨Nat.le_trans hcs.1 r3, Nat.le_trans hcs.2 r4⟩
  rcases hl with hl | ⟨host, hl⟩
  · refine j_run (va_runV C.fix hct (cwV n C.ts (tb_all (fun _ h => h) ?_) rfl rfl rfl ⟨hyc, hyd⟩ hR) hpre rfl hn hlv.1 rfl (lv_room hcat) hd hf) hS hlv hg kk
    intro w hw
    unfold wsV at hw
    rcases List.mem_append.mp hw with h | h
    · simp only [List.mem_cons, List.not_mem_nil, or_false] at h
      rcases h with rfl | rfl | rfl | rfl
      · exact hl
      · exact hi
      · exact hsel
      · rw [← hyc]; exact hyi
    · exact tb_cons hyw w h
  · exact j_run (va_runVN C.fix hct ⟨va_cnB n C.ts (tb_all (fun _ h => h) (tb_cons hyw)) rfl rfl rfl (C.nw _ hl) (C.ts _ hyi) hyd hR, C.ts _ hi, C.ts _ hsel⟩ hpre rfl hn hlv.1 rfl (lv_room hcat) hd hf) hS hlv hg kk
theorem j_callS (C : jC X ω cc own dd mc ms) {y : MethodName} {bytes : ByteArray} {maxL : Nat} {ret : Option FieldType} {d mcc msc n index : Nat} {As st : List Value} {Post' : jPost}
    (hct : Ct (xl X) ω y bytes maxL ret d mcc msc As γ M R Post') (hy : jYC y bytes maxL ret n) (hl : jMN own index y) (hi : Cond.static y ∈ TBL)
    (hd : decode cc pc = .ok (.invokestatic index, 3)) (hst : st = As.reverse ++ rest) (hn : As.length = n) (hcat : (rest.map fun v => v.category).sum ≤ 8) (hdd : d + 1 ≤ dd ∧ maxL ≤ 19) (hcs : cells + mcc ≤ mc ∧ slots + msc ≤ ms)
    (kk : ∀ (v : Option Value) (γ' : jG) (M' : jM) (R' : jR), Post' v γ' M' R' → J X ω γ' M' R' (cells + mcc) (slots + msc) (pc + 3) l (v.toList ++ rest)) : J X ω γ M R cells slots pc l st := by
  subst hst
  obtain ⟨hyw, hyi, hyd⟩ := hy
  obtain ⟨r1, r2, r3, r4⟩ := C.rm
  intro H locs ls hz hP hS hlv hg
  have hpre : PreS (xs X) H (va_Pc As (jPre ω γ M R)) As := ⟨jPre_blind _ _ _ _ _, j_pre C hz hP hS _⟩
  have hR : (jrm d mcc msc).frames + 1 ≤ (xR X).frames ∧ 8 + (maxL + 11) + (jrm d mcc msc).locals ≤ (xR X).locals := ⟨Nat.le_trans hdd.1 r1, by show 8 + (maxL + 11) + 38 * d ≤ _; omega⟩
  have hf : cells + mcc ≤ (xR X).cells ∧ slots + msc ≤ (xR X).slots := ⟨Nat.le_trans hcs.1 r3, Nat.le_trans hcs.2 r4⟩
  rcases hl with hl | ⟨host, hl⟩
  · refine j_run (va_runS C.fix hct (va_cwS n C.ts (tb_all (fun _ h => h) ?_) rfl rfl rfl hyd hR) hpre rfl hn hlv.1 rfl (lv_room hcat) hd hf) hS hlv hg kk
    intro w hw
    unfold va_wsS at hw
    rcases List.mem_append.mp hw with h | h
    · simp only [List.mem_cons, List.not_mem_nil, or_false] at h
      rcases h with rfl | rfl | rfl
      · exact hl
      · exact hi
      · exact hyi
    · exact tb_cons hyw w h
  · exact j_run (va_runSN C.fix hct ⟨va_cnB n C.ts (tb_all (fun _ h => h) (tb_cons hyw)) rfl rfl rfl (C.nw _ hl) (C.ts _ hyi) hyd hR, C.ts _ hi, trivial⟩ hpre rfl hn hlv.1 rfl (lv_room hcat) hd hf) hS hlv hg kk
theorem j_callI (C : jC X ω cc own dd mc ms) {y : MethodName} {bytes : ByteArray} {maxL : Nat} {d mcc msc n index b : Nat} {As st : List Value} {Post' : jPost}
    (hct : Ct (xl X) ω y bytes maxL none d mcc msc (.ref b :: As) γ M R Post') (hy : jYC y bytes maxL none n) (hl : jMN own index y) (hi : Cond.instanceMethod y ∈ TBL) (hnm : y.name = "<init>")
    (hd : decode cc pc = .ok (.invokespecial index, 3)) (hst : st = As.reverse ++ .ref b :: rest) (hn : As.length = n) (hcat : (rest.map fun v => v.category).sum ≤ 8) (hdd : d + 1 ≤ dd ∧ maxL ≤ 19) (hcs : cells + mcc ≤ mc ∧ slots + msc ≤ ms)
    (kk : ∀ (v : Option Value) (γ' : jG) (M' : jM) (R' : jR), Post' v γ' M' R' → J X ω γ' M' R' (cells + mcc) (slots + msc) (pc + 3) l (v.toList ++ rest)) : J X ω γ M R cells slots pc l st := by
  subst hst
  obtain ⟨hyw, hyi, hyd⟩ := hy
  obtain ⟨r1, r2, r3, r4⟩ := C.rm
  intro H locs ls hz hP hS hlv hg
  have hpre : PreS (xs X) H (va_Pc (.ref b :: As) (jPre ω γ M R)) (.ref b :: As) := ⟨jPre_blind _ _ _ _ _, j_pre C hz hP hS _⟩
  have hR : (jrm d mcc msc).frames + 1 ≤ (xR X).frames ∧ 8 + (maxL + 11) + (jrm d mcc msc).locals ≤ (xR X).locals := ⟨Nat.le_trans hdd.1 r1, by show 8 + (maxL + 11) + 38 * d ≤ _; omega⟩
  have hf : cells + mcc ≤ (xR X).cells ∧ slots + msc ≤ (xR X).slots := ⟨Nat.le_trans hcs.1 r3, Nat.le_trans hcs.2 r4⟩
  rcases hl with hl | ⟨host, hl⟩
  · exact j_run (va_runI C.fix hct (cwI n C.ts (tb_all (fun _ h => h) (tb_cons hyw)) rfl rfl rfl (C.ts _ hyi) (C.ts _ hl) (C.ts _ hi) hnm hyd hR) hpre rfl hn hlv.1 rfl (lv_room hcat) hd hf) hS hlv hg kk
  · exact j_run (va_runIN C.fix hct ⟨va_cnB n C.ts (tb_all (fun _ h => h) (tb_cons hyw)) rfl rfl rfl (C.nw _ hl) (C.ts _ hyi) hyd hR, hnm, C.ts _ hi⟩ hpre rfl hn hlv.1 rfl (lv_room hcat) hd hf) hS hlv hg kk
theorem j_objInit (C : jC X ω cc own dd mc ms) {index a : Nat} (hl : Cond.methodLink own index objectInit ∈ TBL) (hi : Cond.instanceMethod objectInit ∈ TBL) (hc : Cond.code objectInit ⟨#[0xb1]⟩ 1 none ∈ TBL) (hd : decode cc pc = .ok (.invokespecial index, 3)) (hdd : 1 ≤ dd) (hcat : (rest.map fun v => v.category).sum ≤ 8)
    (kk : J X ω γ M R cells slots (pc + 3) l rest) : J X ω γ M R cells slots pc l (.ref a :: rest) := by
  obtain ⟨r1, r2, r3, r4⟩ := C.rm
  intro H locs ls hz hP hS hlv hg
  exact W.objInit C.ex C.cd C.ow (C.ts _ hl) (C.ts _ hi) (C.ts _ hc) rfl (by rw [C.ml]; exact hlv.1) rfl hd (by omega) (by show 2 * 0 + _ + 12 ≤ _; omega) (kk H locs ls hz hP hS hlv hg)
/-- a loop: N turns, the state at turn k, what is known there -/
theorem j_loop {st : List Value} (N : Nat) (L : Nat → List (Nat × Value)) (Mk : Nat → jM) (Rk : Nat → jR) (I : Nat → Prop) (h0 : I 0)
    (hs : ∀ k, k < N → I k → (I (k + 1) → J X ω γ (Mk (k + 1)) (Rk (k + 1)) cells slots pc (L (k + 1)) st) → J X ω γ (Mk k) (Rk k) cells slots pc (L k) st)
    (hx : I N → J X ω γ (Mk N) (Rk N) cells slots pc (L N) st) : J X ω γ (Mk 0) (Rk 0) cells slots pc (L 0) st := by
  have key : ∀ n k, k + n = N → I k → J X ω γ (Mk k) (Rk k) cells slots pc (L k) st := by
    intro n
    induction n with
    | zero =>
      intro k hk hI
      have e : k = N := by omega
      subst e
      exact hx hI
    | succ n ih =>
      intro k hk hI
      exact hs k (by omega) hI (fun hI' => ih (k + 1) (by omega) hI')
  exact key N 0 (by omega) h0
/-- a loop by a measure -/
theorem j_while {σ : Type} {st : List Value} (L : σ → List (Nat × Value)) (Mk : σ → jM) (Rk : σ → jR) (I : σ → Prop) (μ : σ → Nat)
    (hs : ∀ s, I s → (∀ s', I s' → μ s' < μ s → J X ω γ (Mk s') (Rk s') cells slots pc (L s') st) → J X ω γ (Mk s) (Rk s) cells slots pc (L s) st) (s : σ) (h : I s) : J X ω γ (Mk s) (Rk s) cells slots pc (L s) st := by
  have key : ∀ n s, μ s < n → I s → J X ω γ (Mk s) (Rk s) cells slots pc (L s) st := by
    intro n
    induction n with
    | zero => intro s h; omega
    | succ n ih => intro s hn hI; exact hs s hI (fun s' hI' hlt => ih s' (by omega) hI')
  exact key _ s (Nat.lt_succ_self _) h
end JK
