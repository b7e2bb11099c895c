/-! contracts of the class: what has no loop and no call -/
section CC1
variable {M N : me_M} {q : Nat}
def mkCmd (M : me_M) (k key v : Int32) : me_M := mSetI (mSetI (mSetI (mNew M 7 0 3) 1384 (mSz M) 0 k) 1385 (mSz M) 0 key) 1386 (mSz M) 0 v
def mkOr (M : me_M) (c : Option Nat) (s d : Int32) : me_M := mSetI (mSetI (mSetR (mNew M 8 0 3) 1448 (mSz M) 0 c) 1449 (mSz M) 0 s) 1450 (mSz M) 0 d
def mkMs (M : me_M) (k s r i b : Int32) (o p : Option Nat) : me_M := mSetR (mSetR (mSetI (mSetI (mSetI (mSetI (mSetI (mNew M 10 0 7) 1576 (mSz M) 0 k) 1577 (mSz M) 0 s) 1578 (mSz M) 0 r) 1579 (mSz M) 0 i) 1580 (mSz M) 0 b) 1581 (mSz M) 0 o) 1582 (mSz M) 0 p
def mkRt (M : me_M) (s : Int32) (e : Nat) : me_M := mSetI (mSetR (mSetI (mSetI (mNew M 9 0 4) 1512 (mSz M) 0 s) 1513 (mSz M) 0 (mI M 1192 e 0)) 1514 (mSz M) 0 (mR M 1193 e 0)) 1515 (mSz M) 0 (mI M 1195 e 0)
theorem kd_new {a b c : Nat} : mKd (mNew M a b c) (mSz M) = a := if_pos rfl
theorem c_Cmd_init {k key v : Int32} : EX eL X_Cmd_init 0 [some (.inr (some (mSz M))), some (.inl k), some (.inl key), some (.inl v)] [] (mNew M 7 0 3) (fun r N => r = none ∧ N = mkCmd M k key v) := by
  refine sg_Cmd_init_0 ⟨kd_new, ?_⟩
  rintro _ rfl _ rfl _ rfl
  exact ⟨rfl, rfl⟩
theorem c_Or_init {c : Option Nat} {s d : Int32} : EX eL X_Or_init 0 [some (.inr (some (mSz M))), some (.inr c), some (.inl s), some (.inl d)] [] (mNew M 8 0 3) (fun r N => r = none ∧ N = mkOr M c s d) := by
  refine sg_Or_init_0 ⟨kd_new, ?_⟩
  rintro _ rfl _ rfl _ rfl
  exact ⟨rfl, rfl⟩
theorem c_Ms_init {k s r i b : Int32} {o p : Option Nat} : EX eL X_Ms_init 0 [some (.inr (some (mSz M))), some (.inl k), some (.inl s), some (.inl r), some (.inl i), some (.inl b), some (.inr o), some (.inr p)] [] (mNew M 10 0 7) (fun r' N => r' = none ∧ N = mkMs M k s r i b o p) := by
  refine sg_Ms_init_0 ⟨kd_new, ?_⟩
  rintro _ rfl _ rfl _ rfl _ rfl _ rfl _ rfl _ rfl
  exact ⟨rfl, rfl⟩
theorem c_Rt_init {s : Int32} {e : Nat} (he : mKd M e = 4) (hl : e < mSz M) : EX eL X_Rt_init 0 [some (.inr (some (mSz M))), some (.inl s), some (.inr (some e))] [] (mNew M 9 0 4) (fun r N => r = none ∧ N = mkRt M s e) := by
  have hk : mKd (mNew M 9 0 4) e = 4 := by rw [mKd_New, if_neg (by omega)]; exact he
  refine sg_Rt_init_0 ⟨kd_new, ?_⟩
  rintro _ rfl
  refine ⟨e, rfl, hk, ?_⟩
  rintro _ rfl _ rfl _ rfl
  refine ⟨rfl, ?_⟩
  unfold mkRt
  simp only [mI_SetI, mR_SetR, mI_SetR, mR_SetI, mI_New, mR_New, Nat.reduceEqDiff, false_and, if_false]
theorem mkCmd_fr {P : Nat → Nat → Prop} {k key v : Int32} : fr P 1 M (mkCmd M k key v) := ((((fr.refl P M).new (by decide)).setI (fun h => absurd h (Nat.lt_irrefl _))).setI (fun h => absurd h (Nat.lt_irrefl _))).setI (fun h => absurd h (Nat.lt_irrefl _))
theorem mkOr_fr {P : Nat → Nat → Prop} {c : Option Nat} {s d : Int32} : fr P 1 M (mkOr M c s d) := ((((fr.refl P M).new (by decide)).setR (fun h => absurd h (Nat.lt_irrefl _))).setI (fun h => absurd h (Nat.lt_irrefl _))).setI (fun h => absurd h (Nat.lt_irrefl _))
theorem mkMs_fr {P : Nat → Nat → Prop} {k s r i b : Int32} {o p : Option Nat} : fr P 1 M (mkMs M k s r i b o p) := ((((((((fr.refl P M).new (by decide)).setI (fun h => absurd h (Nat.lt_irrefl _))).setI (fun h => absurd h (Nat.lt_irrefl _))).setI (fun h => absurd h (Nat.lt_irrefl _))).setI (fun h => absurd h (Nat.lt_irrefl _))).setI (fun h => absurd h (Nat.lt_irrefl _))).setR (fun h => absurd h (Nat.lt_irrefl _))).setR (fun h => absurd h (Nat.lt_irrefl _))
theorem mkRt_fr {P : Nat → Nat → Prop} {s : Int32} {e : Nat} : fr P 1 M (mkRt M s e) := (((((fr.refl P M).new (by decide)).setI (fun h => absurd h (Nat.lt_irrefl _))).setI (fun h => absurd h (Nat.lt_irrefl _))).setR (fun h => absurd h (Nat.lt_irrefl _))).setI (fun h => absurd h (Nat.lt_irrefl _))
theorem lt_new {a b c : Nat} : mSz M < mSz (mNew M a b c) := Nat.lt_succ_self _
theorem mkCmd_wf (w : wf M) {k key v : Int32} : wf (mkCmd M k key v) := ((w.new.setI (show mSz M < mSz M + 1 from Nat.lt_succ_self _)).setI (show mSz M < mSz M + 1 from Nat.lt_succ_self _)).setI (show mSz M < mSz M + 1 from Nat.lt_succ_self _)
theorem mkOr_wf (w : wf M) {c : Option Nat} {s d : Int32} : wf (mkOr M c s d) := ((w.new.setR (show mSz M < mSz M + 1 from Nat.lt_succ_self _)).setI (show mSz M < mSz M + 1 from Nat.lt_succ_self _)).setI (show mSz M < mSz M + 1 from Nat.lt_succ_self _)
theorem mkMs_wf (w : wf M) {k s r i b : Int32} {o p : Option Nat} : wf (mkMs M k s r i b o p) := ((((((w.new.setI (show mSz M < mSz M + 1 from Nat.lt_succ_self _)).setI (show mSz M < mSz M + 1 from Nat.lt_succ_self _)).setI (show mSz M < mSz M + 1 from Nat.lt_succ_self _)).setI (show mSz M < mSz M + 1 from Nat.lt_succ_self _)).setI (show mSz M < mSz M + 1 from Nat.lt_succ_self _)).setR (show mSz M < mSz M + 1 from Nat.lt_succ_self _)).setR (show mSz M < mSz M + 1 from Nat.lt_succ_self _)
theorem mkRt_wf (w : wf M) {s : Int32} {e : Nat} : wf (mkRt M s e) := (((w.new.setI (show mSz M < mSz M + 1 from Nat.lt_succ_self _)).setI (show mSz M < mSz M + 1 from Nat.lt_succ_self _)).setR (show mSz M < mSz M + 1 from Nat.lt_succ_self _)).setI (show mSz M < mSz M + 1 from Nat.lt_succ_self _)
theorem immF : imm (fun _ _ => False) := fun _ _ _ _ h => h
theorem mkOr_ok (w : wf M) {c : Nat} {cd vl s d : Int32} (hc : CmdOK M c cd vl) : OrdOK (mkOr M (some c) s d) (mSz M) cd vl s d := by
  refine ⟨kd_new (b := 0) (c := 3), ?_, ?_, c, ?_, CmdOK.fr mkOr_fr immF w hc⟩
  · simp [mkOr, mI_SetI]
  · simp [mkOr, mI_SetI]
  · simp [mkOr, mR_SetI, mR_SetR]
theorem c_En_isSettled {s : Int32} (hk : mKd M q = 4) (hs : mI M 1192 q 0 = s) (h5 : s < 5) : EX eL X_En_isSettled 0 [some (.inr (some q))] [] M (fun r N => r = some (.inl (b01 (decide (3 ≤ s)))) ∧ N = M) := by
  refine sg_En_isSettled_0 ?_
  rw [hs]
  refine ⟨hk, fun h => ?_, fun h => ⟨fun h2 => ?_, fun h2 => ?_⟩⟩
  · rw [h]; exact ⟨rfl, rfl⟩
  · refine ⟨?_, rfl⟩
    have : ¬ 3 ≤ s := by
      intro h3
      rw [Int32.le_iff_toInt_le] at h3
      rw [Int32.lt_iff_toInt_lt] at h5
      have e3 : (3 : Int32).toInt = 3 := by decide
      have e5 : (5 : Int32).toInt = 5 := by decide
      rw [e3] at h3
      rw [e5] at h5
      rcases (show s.toInt = 3 ∨ s.toInt = 4 by omega) with z | z
      · exact h (Int32.toInt_inj.mp (z.trans (by decide)))
      · exact h2 (Int32.toInt_inj.mp (z.trans (by decide)))
    rw [decide_eq_false this]; rfl
  · rw [h2]; exact ⟨rfl, rfl⟩
theorem c_En_become (hk : mKd M q = 4) {s : Int32} {o : Option Nat} : EX eL X_En_become 0 [some (.inr (some q)), some (.inl s), some (.inr o)] [] M (fun r N => r = none ∧ N = mSetR (mSetI M 1192 q 0 s) 1193 q 0 o) := by
  refine sg_En_become_0 ⟨hk, ?_⟩
  rintro _ rfl _ rfl
  exact ⟨rfl, rfl⟩
theorem c_En_vote (hk : mKd M q = 4) {s b : Int32} {o : Option Nat} : EX eL X_En_vote 0 [some (.inr (some q)), some (.inl s), some (.inr o), some (.inl b)] [] M (fun r N => r = none ∧ N = mSetR (mSetI (mSetI (mSetI M 1194 q 0 b) 1195 q 0 b) 1192 q 0 s) 1193 q 0 o) := by
  refine sg_En_vote_0 ⟨hk, ?_⟩
  rintro _ rfl _ rfl
  refine EX.mono (c_En_become (M := mSetI (mSetI M 1194 q 0 b) 1195 q 0 b) hk) fun r N hv => ?_
  obtain ⟨rfl, rfl⟩ := hv
  exact ⟨rfl, rfl, rfl⟩
theorem c_Cmd_code {cd vl : Int32} (h : CmdOK M q cd vl) : EX eL X_Cmd_code 0 [some (.inr (some q))] [] M (fun r N => r = some (.inl cd) ∧ N = M) := by
  obtain ⟨hk, key, h4, h1, h2⟩ := h
  refine sg_Cmd_code_0 ⟨hk, ?_⟩
  rcases h2 with ⟨h2, rfl⟩ | ⟨h2, rfl, -⟩ | ⟨h2, rfl⟩ <;> rw [h2]
  · exact ⟨fun _ => ⟨fun _ => ⟨by rw [h1], rfl⟩, fun z => absurd z (by decide)⟩, fun z => absurd z (by decide)⟩
  · exact ⟨fun _ => ⟨fun z => absurd rfl z, fun _ => ⟨by rw [h1, a4], rfl⟩⟩, fun z => absurd z (by decide)⟩
  · exact ⟨fun z => absurd rfl z, fun _ => ⟨rfl, rfl⟩⟩
theorem gi_8l (d : Int32) : g_int 8 d = true := by simp [g_int]
theorem gi_8r (c : Int32) : g_int c 8 = true := by simp [g_int]
theorem gi_gg : ∀ a, a < 4 → ∀ b, b < 4 → g_int (nI a) (nI b) = false := by decide +kernel
theorem gi_pg : ∀ a, a < 4 → ∀ b, b < 4 → g_int (nI (4 + a)) (nI b) = decide (a = b) := by decide +kernel
theorem gi_gp : ∀ a, a < 4 → ∀ b, b < 4 → g_int (nI a) (nI (4 + b)) = decide (a = b) := by decide +kernel
theorem gi_pp : ∀ a, a < 4 → ∀ b, b < 4 → g_int (nI (4 + a)) (nI (4 + b)) = decide (a = b) := by decide +kernel
theorem c_Cmd_interferesWith {p : Nat} {c1 v1 c2 v2 : Int32} (h : CmdOK M q c1 v1) (h' : CmdOK M p c2 v2) : EX eL X_Cmd_interferesWith 0 [some (.inr (some q)), some (.inr (some p))] [] M (fun r N => r = some (.inl (b01 (g_int c1 c2))) ∧ N = M) := by
  obtain ⟨hk, a, ha, h1, h2⟩ := h
  obtain ⟨hk', b, hb, h1', h2'⟩ := h'
  refine sg_Cmd_interferesWith_0 ?_
  have e : nI a = nI b ↔ a = b := neq (by omega) (by omega)
  rcases h2 with ⟨h2, rfl⟩ | ⟨h2, rfl, -⟩ | ⟨h2, rfl⟩ <;> rcases h2' with ⟨h2', rfl⟩ | ⟨h2', rfl, -⟩ | ⟨h2', rfl⟩ <;> simp only [hk, hk', h1, h1', h2, h2', Option.some.injEq, exists_eq_left', true_and, gi_8l, gi_8r, gi_gg a ha b hb, gi_pg a ha b hb, gi_gp a ha b hb, gi_pp a ha b hb, e, and_true] <;> by_cases hab : a = b <;> simp [hab, b01]
theorem c_Or_agreesWith {p : Nat} {c1 v1 s1 d1 c2 v2 s2 d2 : Int32} (h : OrdOK M q c1 v1 s1 d1) (h' : OrdOK M p c2 v2 s2 d2) : EX eL X_Or_agreesWith 0 [some (.inr (some q)), some (.inr (some p))] [] M (fun r N => r = some (.inl (b01 (decide (s1 = s2 ∧ d1 = d2)))) ∧ N = M) := by
  obtain ⟨a1, a2, a3, -⟩ := h
  obtain ⟨b1, b2, b3, -⟩ := h'
  refine sg_Or_agreesWith_0 ⟨a1, p, rfl, b1, ?_⟩
  rw [a2, a3, b2, b3]
  by_cases e1 : s1 = s2 <;> by_cases e2 : d1 = d2 <;> simp [e1, e2, b01]
theorem c_Rt_isFastVote {fr st cd vl sq dp vt o : Int32} (h : RptOK M q fr st cd vl sq dp vt) : EX eL X_Rt_isFastVote 0 [some (.inr (some q)), some (.inl o)] [] M (fun r N => r = some (.inl (b01 (decide (st = 1) && decide (vt = 0) && decide (¬ fr = o)))) ∧ N = M) := by
  obtain ⟨a1, a2, a3, a4, -⟩ := h
  refine sg_Rt_isFastVote_0 ⟨a1, ?_⟩
  rw [a2, a3, a4]
  by_cases e1 : st = 1 <;> by_cases e2 : vt = 0 <;> by_cases e3 : fr = o <;> simp [e1, e2, e3, b01]
theorem c_Ms_asksForVote {K : Int32} (hk : mKd M q = 10) (h : mI M 1576 q 0 = K) : EX eL X_Ms_asksForVote 0 [some (.inr (some q))] [] M (fun r N => r = some (.inl (b01 (decide (K = 0 ∨ K = 2 ∨ K = 5)))) ∧ N = M) := by
  refine sg_Ms_asksForVote_0 ⟨hk, ?_⟩
  rw [h]
  by_cases e1 : K = 0 <;> by_cases e2 : K = 2 <;> by_cases e3 : K = 5 <;> simp [e1, e2, e3, b01]
theorem c_At_enterPhase (hk : mKd M q = 6) {p : Int32} : EX eL X_At_enterPhase 0 [some (.inr (some q)), some (.inl p)] [] M (fun r N => r = none ∧ N = mSetI (mSetI M 1323 q 0 p) 1324 q 0 0) := by
  refine sg_At_enterPhase_0 ⟨hk, ?_⟩
  rintro _ rfl _ rfl
  exact ⟨rfl, rfl⟩
end CC1
