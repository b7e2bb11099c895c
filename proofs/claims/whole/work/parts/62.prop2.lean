section PROP2
variable {c : Nat} {M N : me_M} {b n r i : Nat} {D E : me_D}
theorem mkCmd_ok {k : Nat} (hk : k < 4) {put : Bool} {v : Int32} : CmdOK (mkCmd M (if put = true then 1 else 0) (nI k) v) (mSz M) (nI (if put = true then 4 + k else k)) (if put = true then v else 0) := by
  refine ⟨kd_new (b := 0) (c := 3), k, hk, ?_, ?_⟩
  · simp [mkCmd, mI_SetI]
  · cases put
    · exact Or.inl ⟨by simp [mkCmd, mI_SetI], by simp⟩
    · exact Or.inr (Or.inl ⟨by simp [mkCmd, mI_SetI], by simp, by simp [mkCmd, mI_SetI]⟩)
set_option maxHeartbeats 1000000 in
theorem c_LM_propose_ok (C : cW M b n D) (u40 : uOK D) {key : Nat} (hr : r < n) (hk : key < 4) (hcr : D 1 r = 0) (hs : ∀ j, j < 6 * n → ∃ s, D 7 (30 * r + j) = nI s ∧ s < 2147483647) {p x : Int32} : EX eL X_LM_propose 0 [some (.inr (some b)), some (.inl (nI r)), some (.inl (nI key)), some (.inl p), some (.inl x), none, none] [] M (fun w N => w = some (.inl (oI (g_freeU D r 6 0))) ∧ cW N b n (g_propose D n r key (decide (¬ p = 0)) x) ∧ fr (pC (mdA b n)) 29 M N) := by
  have S := C.sk
  have n5 := C.n5
  refine sg_LM_propose_0 ⟨s_kLM S, EX.mono (c_LM_workingReplica_ok C hr hcr) fun y N hv => ?_⟩
  obtain ⟨rfl, rfl⟩ := hv
  refine ⟨_, rfl, (fun h => by cases h), fun _ => ⟨s_kLM S, EX.mono c_LM_isKey fun y N hv => ?_⟩⟩
  obtain ⟨rfl, rfl⟩ := hv
  refine ⟨_, rfl, fun _ => ⟨_, rfl, s_kRp S hr, EX.mono (c_Rp_freeInstance C hr) fun y N hv => ?_⟩, fun h => absurd h (b01t ⟨nI_pos' (by omega), (nlt (a := key) (b := 4) (by omega) (by decide)).mpr hk⟩)⟩
  obtain ⟨rfl, rfl⟩ := hv
  cases hfree : g_freeU D r 6 0 with
  | none =>
    refine ⟨_, rfl, fun _ => ⟨rfl, ?_, (fr.refl _ _).mono (by omega) (fun _ _ _ z => z)⟩, fun h => absurd m1neg h⟩
    unfold g_propose
    rw [hfree]
    exact C
  | some i =>
    have hi : i < 6 * n := by have := g_freeU_lt hfree; omega
    have hi0 : D 4 (30 * r + i) = 0 := by
      have : ∀ k j, g_freeU D r k j = some i → D 4 (30 * r + i) = 0 := by
        intro k
        induction k with
        | zero => intro j h; cases h
        | succ k ih =>
          intro j h
          rw [g_freeU] at h
          by_cases hx : D 4 (30 * r + (6 * r + j)) = 0 ∧ D 9 (30 * r + (6 * r + j)) = 0
          · rw [if_pos hx] at h; cases h; exact hx.1
          · rw [if_neg hx] at h; exact ih _ h
      exact this 6 0 hfree
    refine ⟨_, rfl, fun h => absurd h (nI_pos (by omega)), fun _ => ?_⟩
    have hP : g_propose D n r key (decide (¬ p = 0)) x = g_begin D n r i key (decide (¬ p = 0)) x := by unfold g_propose; rw [hfree]
    rintro _ _ rfl rfl
    have go : EX eL X_Cmd_init 0 [some (.inr (some (mSz N))), some (.inl (if decide (¬ p = 0) = true then 1 else 0)), some (.inl (nI key)), some (.inl x)] [] (mNew N 7 0 3) (fun y L => y = none ∧ mKd L (aR b n r) = 3 ∧ EX eL X_Rp_startCommand 0 [some (.inr (some (aR b n r))), some (.inl (oI (some i))), some (.inr (some (mSz N))), none, none, none] [] L (fun y L => y = none ∧ some (Sum.inl (oI (some i)) : me_V) = some (.inl (oI (some i))) ∧ cW L b n (g_propose D n r key (decide (¬ p = 0)) x) ∧ fr (pC (mdA b n)) 29 N L)) := by
      refine EX.mono c_Cmd_init fun y L hv => ?_
      obtain ⟨rfl, rfl⟩ := hv
      have f1 : fr (fun _ _ => False) 1 N (mkCmd N (if decide (¬ p = 0) = true then 1 else 0) (nI key) x) := mkCmd_fr
      have C1 := C.alloc f1 (mkCmd_wf C.w)
      refine ⟨rfl, s_kRp C1.sk hr, EX.mono (c_Rp_startCommand C1 u40 hr hi (by rw [hi0]; decide) hs (mkCmd_ok hk)) fun y L hv => ?_⟩
      obtain ⟨rfl, w1, w2⟩ := hv
      refine ⟨rfl, rfl, ?_, ((nilC f1 (Nat.le_refl _)).trans w2).mono (by omega) (fun _ _ _ z => z)⟩
      rw [hP, g_begin]
      exact w1
    refine ⟨fun h => ?_, fun h => ?_⟩
    · have e : (if decide (¬ p = 0) = true then (1 : Int32) else 0) = 0 := if_neg (by simp [h])
      rw [e] at go
      exact go
    · have e : (if decide (¬ p = 0) = true then (1 : Int32) else 0) = 1 := if_pos (by simp [h])
      rw [e] at go
      exact go
theorem c_LM_propose_bad (C : cW M b n D) {v k p x : Int32} (hb : ¬ ∃ r key, r < n ∧ v = nI r ∧ key < 4 ∧ k = nI key ∧ D 1 r = 0) : EX eL X_LM_propose 0 [some (.inr (some b)), some (.inl v), some (.inl k), some (.inl p), some (.inl x), none, none] [] M (fun w N => w = some (.inl (-1)) ∧ N = M) := by
  have S := C.sk
  by_cases hw : ∃ r, r < n ∧ v = nI r ∧ D 1 r = 0
  · obtain ⟨r, hr, rfl, hcr⟩ := hw
    refine sg_LM_propose_0 ⟨s_kLM S, EX.mono (c_LM_workingReplica_ok C hr hcr) fun y N hv => ?_⟩
    obtain ⟨rfl, rfl⟩ := hv
    refine ⟨_, rfl, (fun h => by cases h), fun _ => ⟨s_kLM S, EX.mono c_LM_isKey fun y N hv => ?_⟩⟩
    obtain ⟨rfl, rfl⟩ := hv
    refine ⟨_, rfl, fun h => ?_, fun _ => ⟨rfl, rfl⟩⟩
    have h9 := b01_1 h
    rw [decide_eq_true_eq] at h9
    obtain ⟨key, hk, rfl⟩ := nI_of (x := k) (Int32.not_lt.mpr h9.1)
    exact absurd ⟨r, key, hr, rfl, (nlt (a := key) (b := 4) (by omega) (by decide)).mp h9.2, rfl, hcr⟩ hb
  · refine sg_LM_propose_0 ⟨s_kLM S, EX.mono (c_LM_workingReplica_bad C hw) fun y N hv => ?_⟩
    obtain ⟨rfl, rfl⟩ := hv
    exact ⟨_, rfl, fun _ => ⟨rfl, rfl⟩, fun h => absurd rfl h⟩
theorem many_set {k r : Nat} : ∀ {m : Nat}, k < m → D 1 k = 0 → g_manyU (dU D 1 k 1) m = g_manyU D m + 1 := by
  intro m
  induction m with
  | zero => intro h; omega
  | succ m ih =>
    intro h h0
    rw [g_manyU, g_manyU]
    by_cases hm : m = k
    · subst hm
      rw [g_manyU_congr (D := D) (fun r hr => dU_nei _ (by omega)), dU_eq, h0, if_neg (by decide), if_pos rfl, Int32.add_zero]
    · rw [ih (by omega) h0, dU_nei _ hm, Int32.add_assoc, Int32.add_comm 1, ← Int32.add_assoc]
theorem crash_cW (C : cW M b n D) (hr : r < n) (hcr : D 1 r = 0) : cW (mSetI (mSetI M 1135 (aR b n r) 0 1) 1004 b 0 (g_manyU D n + 1)) b n (dU D 1 r 1) ∧ fr (pC (mdA b n)) 0 M (mSetI (mSetI M 1135 (aR b n r) 0 1) 1004 b 0 (g_manyU D n + 1)) := by
  have S := C.sk
  have l1 := C.w.lt (q := aR b n r) (by rw [s_kRp S hr]; decide)
  have l2 := C.w.lt (q := b) (by rw [s_kLM S]; decide)
  have h : fr (fun x y => (x = 1135 ∧ y = aR b n r) ∨ (x = 1004 ∧ y = b)) 0 M (mSetI (mSetI M 1135 (aR b n r) 0 1) 1004 b 0 (g_manyU D n + 1)) := ((fr.refl _ M).setI (fun _ => Or.inl ⟨rfl, rfl⟩)).setI (fun _ => Or.inr ⟨rfl, rfl⟩)
  have hP : mutP (fun x y => (x = 1135 ∧ y = aR b n r) ∨ (x = 1004 ∧ y = b)) := by
    rintro k q (⟨rfl, -⟩ | ⟨rfl, -⟩) <;> rfl
  have no : ∀ k q, ¬ k = 1135 → ¬ k = 1004 → ¬ ((k = 1135 ∧ q = aR b n r) ∨ (k = 1004 ∧ q = b)) := by
    rintro k q h1 h2 (⟨z, -⟩ | ⟨z, -⟩)
    · exact h1 z
    · exact h2 z
  have hE : ∀ j x, ¬ j = 1 → dU D 1 r 1 j x = D j x := fun j x hj => dU_ne _ hj
  refine ⟨⟨C.1, (C.w.setI l1).setI l2, S.fr h C.w hP, fun r' i' hr' hi' => ?_, fun r' i' hr' hi' => ?_, attD.keep C h (fun _ => no _ _ (by decide) (by decide)), attR.keep C h hP (fun _ => no _ _ (by decide) (by decide)), ?_, fun r' hr' => ?_, fun r' hr' => ?_, ?_⟩, h.toC hP (fun q z => absurd z (no _ _ (by decide) (by decide))) (Nat.le_refl _)⟩
  · exact EntOK.keep h hP C.w (s_kEnt S hr' hi') (fun k h1 h2 => no _ _ (by omega) (by omega)) (fun j h1 h2 => hE j _ (by omega)) (C.ent hr' hi')
  · have l := C.w.lt (q := aR b n r' + 2 + 6 * n) (by rw [s_kAtts S hr']; decide)
    rw [h.r l (no _ _ (by decide) (by decide))]
    exact AttOK.keep h hP C.w (fun _ _ k h1 h2 => no _ _ (by omega) (by omega)) (fun _ _ _ _ => no _ _ (by decide) (by decide)) (fun j h1 h2 => hE j _ (by omega)) (fun j k h1 h2 _ => hE j _ (by omega)) (C.att hr' hi')
  · obtain ⟨e1, e2, e3⟩ := C.net
    have m1 := C.w.lt (q := b + 1) (by rw [s_kNet S]; decide)
    have m2 := C.w.lt (q := b + 2) (by rw [s_kLine S]; decide)
    have hg : g_un (dU D 1 r 1) = g_un D := by unfold g_un; rw [hE _ _ (by decide)]
    refine ⟨by rw [h.i m1 (no _ _ (by decide) (by decide)), hE _ _ (by decide)]; exact e1, by rw [h.i m1 (no _ _ (by decide) (by decide)), hE _ _ (by decide)]; exact e2, fun k hk => ?_⟩
    rw [hg] at hk
    obtain ⟨q, a1, a2⟩ := e3 k hk
    exact ⟨q, (h.r m2 (no _ _ (by decide) (by decide))).trans a1, (MsgOK.fr h hP.imm C.w a2).congr (fun j _ => hE _ _ (by decide))⟩
  · exact StoOK.keep h hP C.w S hr' (no _ _ (by decide) (by decide)) (no _ _ (by decide) (by decide)) (no _ _ (by decide) (by decide)) (fun _ _ => hE _ _ (by decide)) (hE _ _ (by decide)) (fun i' hi' => by rw [hE _ _ (by decide)]) (C.sto hr')
  · rw [mI_SetI, if_neg (fun z => absurd z.1 (by decide)), mI_SetI]
    by_cases hx : r' = r
    · subst hx
      rw [if_pos ⟨rfl, rfl, rfl⟩, dU_eq]
    · have hne : ¬ aR b n r' = aR b n r := fun z => hx (aR_inj (b := b) (r := r') (r' := r) (x := 0) (y := 0) C.1 (by omega) (by omega) (by omega)).1
      rw [if_neg (fun z => hne z.2.1), dU_nei _ hx]
      exact C.cr hr'
  · rw [mI_SetI, if_pos ⟨rfl, rfl, rfl⟩, many_set (r := 0) hr hcr]
theorem c_LM_crash (C : cW M b n D) (hf2 : D 1641 0 = nI (n / 2)) {v : Int32} : EX eL X_LM_crash 0 [some (.inr (some b)), some (.inl v), none] [] M (fun x N => (∃ r, r < n ∧ v = nI r ∧ D 1 r = 0 ∧ g_manyU D n < D 1641 0 ∧ x = some (.inl 1) ∧ cW N b n (dU D 1 r 1) ∧ fr (pC (mdA b n)) 0 M N) ∨ (¬ (∃ r, r < n ∧ v = nI r ∧ D 1 r = 0 ∧ g_manyU D n < D 1641 0) ∧ x = some (.inl 0) ∧ N = M)) := by
  have S := C.sk
  have n5 := C.n5
  by_cases hw : ∃ r, r < n ∧ v = nI r ∧ D 1 r = 0
  · obtain ⟨r, hr, rfl, hcr⟩ := hw
    refine sg_LM_crash_0 ⟨s_kLM S, EX.mono (c_LM_workingReplica_ok C hr hcr) fun y N hv => ?_⟩
    obtain ⟨rfl, rfl⟩ := hv
    refine ⟨_, rfl, (fun h => by cases h), fun _ => ⟨s_kLM S, ?_⟩⟩
    rw [C.many, s_faults S, ← hf2]
    refine ⟨fun h => ⟨_, rfl, s_kRp S hr, ?_⟩, fun h => Or.inr ⟨?_, rfl, rfl⟩⟩
    · rintro _ rfl _ rfl
      rw [mI_SetI, if_neg (fun z => absurd z.1 (by decide)), C.many]
      obtain ⟨w1, w2⟩ := crash_cW C hr hcr
      exact Or.inl ⟨r, hr, rfl, hcr, h, rfl, w1, w2⟩
    · rintro ⟨r', -, -, -, h9⟩
      exact h h9
  · refine sg_LM_crash_0 ⟨s_kLM S, EX.mono (c_LM_workingReplica_bad C hw) fun y N hv => ?_⟩
    obtain ⟨rfl, rfl⟩ := hv
    refine ⟨_, rfl, fun _ => Or.inr ⟨?_, rfl, rfl⟩, fun h => absurd rfl h⟩
    rintro ⟨r, h1, h2, h3, -⟩
    exact hw ⟨r, h1, h2, h3⟩
end PROP2
