section REP
variable {M N : me_M} {b n i a k : Nat} {D E : me_D} {qa w : Nat}
def rO (M : me_M) (w a : Nat) (o : Option Nat) : Option Nat := match o with
  | none => none
  | some x => mR M 106 w (x - a)
theorem g_accU_ge {x : Nat} : ∀ {k : Nat}, g_accU D a k = some x → a ≤ x := by
  intro k
  induction k with
  | zero => intro h; cases h
  | succ k ih =>
    intro h
    rw [g_accU] at h
    split at h <;> split at h <;> first | (cases h; omega) | exact ih h
theorem c_At_lastAccepted (R : rpts M qa w D a k) : EX eL X_At_lastAccepted 0 [some (.inr (some qa)), none, none, none] [] M (fun x N => x = some (.inr (rO M w a (g_accU D a k))) ∧ N = M) := by
  obtain ⟨r1, r2, r3, r4, r5, r6, r7⟩ := R
  refine sg_At_lastAccepted_0 ?_
  have loop : ∀ t j, t + j = k → EX eL X_At_lastAccepted 4 [some (.inr (some qa)), some (.inr (rO M w a (g_accU D a j))), some (.inl (nI j)), none] [] M (fun x N => x = some (.inr (rO M w a (g_accU D a k))) ∧ N = M) := by
    intro t
    induction t with
    | zero =>
      intro j hj
      have hj : j = k := by omega
      subst hj
      refine sg_At_lastAccepted_4 ⟨r1, fun _ => ⟨rfl, rfl⟩, fun h => ?_⟩
      rw [r4] at h
      exact absurd (Int32.le_refl _) h
    | succ t ih =>
      intro j hj
      have go := ih (j + 1) (by omega)
      obtain ⟨p, p1, p2⟩ := r7 j (by omega)
      obtain ⟨s1, s2, s3, s4, s5⟩ := p2
      have er : rO M w a (some (a + j)) = some p := by show mR M 106 w (a + j - a) = some p; rw [show a + j - a = j by omega]; exact p1
      refine sg_At_lastAccepted_4 ⟨r1, fun h => ?_, fun _ => ⟨w, r2, r3, vin (by omega) (by omega), p, by rw [cl (by omega)]; exact p1, s1, fun h => ?_, fun h => ?_⟩⟩
      · rw [r4, nle (by omega) (by omega)] at h; omega
      · rintro _ rfl
        rw [nI_i1]
        rw [s3] at h
        rw [g_accU, if_neg (fun z => h z.1)] at go
        exact go
      · rw [s3] at h
        rw [cl (by omega), p1]
        cases hb : g_accU D a j with
        | none =>
          refine ⟨fun _ x hx => ?_, fun z => absurd rfl z⟩
          subst hx
          rw [nI_i1]
          rw [g_accU, hb, if_pos ⟨h, rfl⟩, er] at go
          exact go
        | some x =>
          have x1 := g_accU_lt hb
          have x2 := g_accU_ge hb
          obtain ⟨p', p1', t1, t2, t3, t4, t5⟩ := r7 (x - a) (by omega)
          rw [show a + (x - a) = x by omega] at t4
          have er' : rO M w a (some x) = some p' := p1'
          rw [er']
          refine ⟨(fun z => by cases z), fun _ => ⟨p', rfl, t1, fun h2 y hy => ?_, fun h2 y hy => ?_⟩⟩
          · subst hy
            rw [nI_i1]
            rw [s4, t4] at h2
            rw [g_accU, hb, if_neg (fun z => by simp only [decide_eq_true_eq] at z; exact z.2 h2), er'] at go
            exact go
          · subst hy
            rw [nI_i1]
            rw [s4, t4] at h2
            rw [g_accU, hb, if_pos ⟨h, by simp only [decide_eq_true_eq]; exact h2⟩, er] at go
            exact go
  exact loop k 0 (by omega)
theorem c_At_firstPreaccepted (R : rpts M qa w D a k) : EX eL X_At_firstPreaccepted 0 [some (.inr (some qa)), none] [] M (fun x N => x = some (.inr (rO M w a (g_pre D a k))) ∧ N = M) := by
  obtain ⟨r1, r2, r3, r4, r5, r6, r7⟩ := R
  refine sg_At_firstPreaccepted_0 ?_
  have loop : ∀ t j, t + j = k → g_pre D a k = g_firstU (fun x => decide (D 18 x = 1)) a t j → EX eL X_At_firstPreaccepted 2 [some (.inr (some qa)), some (.inl (nI j))] [] M (fun x N => x = some (.inr (rO M w a (g_pre D a k))) ∧ N = M) := by
    intro t
    induction t with
    | zero =>
      intro j hj hg
      have hj : j = k := by omega
      subst hj
      refine sg_At_firstPreaccepted_2 ⟨r1, fun _ => ⟨by rw [hg]; rfl, rfl⟩, fun h => ?_⟩
      rw [r4] at h
      exact absurd (Int32.le_refl _) h
    | succ t ih =>
      intro j hj hg
      conv at hg => rhs; rw [g_firstU]
      obtain ⟨p, p1, s1, s2, s3, s4, s5⟩ := r7 j (by omega)
      refine sg_At_firstPreaccepted_2 ⟨r1, fun h => ?_, fun _ => ⟨w, r2, r3, vin (by omega) (by omega), p, by rw [cl (by omega)]; exact p1, s1, fun h => ?_, fun h => ⟨vin (by omega) (by omega), ?_⟩⟩⟩
      · rw [r4, nle (by omega) (by omega)] at h; omega
      · rintro _ rfl
        rw [nI_i1]
        rw [s3] at h
        rw [if_neg (by simp only [decide_eq_true_eq]; exact h)] at hg
        exact ih (j + 1) (by omega) hg
      · rw [s3] at h
        rw [if_pos (by simp only [decide_eq_true_eq]; exact h)] at hg
        rw [hg, cl (by omega)]
        refine ⟨?_, rfl⟩
        show _ = some (Sum.inr (mR M 106 w (a + j - a)))
        rw [show a + j - a = j by omega]
  exact loop k 0 (by omega) rfl
theorem c_At_countSharers (R : rpts M qa w D a k) (hi : i < 30) {x o : Nat} (hx : g_plain D x i = true) {cd vl : Int32} (ho : OrdOK M o cd vl (D 21 x) (D 22 x)) : EX eL X_At_countSharers 0 [some (.inr (some qa)), some (.inr (some o)), some (.inl (nI (i / 6))), none, none] [] M (fun y N => y = some (.inl (g_sameU D a i x k)) ∧ N = M) := by
  obtain ⟨r1, r2, r3, r4, r5, r6, r7⟩ := R
  refine sg_At_countSharers_0 ?_
  have loop : ∀ t j, t + j = k → EX eL X_At_countSharers 5 [some (.inr (some qa)), some (.inr (some o)), some (.inl (nI (i / 6))), some (.inl (g_sameU D a i x j)), some (.inl (nI j))] [] M (fun y N => y = some (.inl (g_sameU D a i x k)) ∧ N = M) := by
    intro t
    induction t with
    | zero =>
      intro j hj
      have hj : j = k := by omega
      subst hj
      refine sg_At_countSharers_5 ⟨r1, fun _ => ⟨rfl, rfl⟩, fun h => ?_⟩
      rw [r4] at h
      exact absurd (Int32.le_refl _) h
    | succ t ih =>
      intro j hj
      have go := ih (j + 1) (by omega)
      rw [g_sameU] at go
      obtain ⟨p, p1, P⟩ := r7 j (by omega)
      have v1 : vp_in (nI j) (mLn M w) := vin (by omega) (by omega)
      have v2 : mR M 106 w (nI j).toNatClampNeg = some p := by rw [cl (by omega)]; exact p1
      refine sg_At_countSharers_5 ⟨r1, fun h => ?_, fun _ => ⟨w, r2, r3, v1, p, v2, P.1, EX.mono (c_Rt_isFastVote P) fun y N hv => ?_⟩⟩
      · rw [r4, nle (by omega) (by omega)] at h; omega
      · obtain ⟨rfl, rfl⟩ := hv
        refine ⟨_, rfl, fun h y hy => ?_, fun h => ?_⟩
        · subst hy
          rw [nI_i1]
          have h9 := b01_0 h
          rw [if_neg (fun z => by have := z.2.1; unfold g_plain at this; rw [h9] at this; cases this)] at go
          exact go
        · have h9 := b01_1 h
          have hst : D 18 (a + j) = 1 := by simp only [Bool.and_eq_true, decide_eq_true_eq] at h9; exact h9.1.1
          obtain ⟨z, z1, z2⟩ := P.2.2.2.2 (by rw [hst]; decide)
          refine ⟨r1, w, r2, r3, v1, p, v2, P.1, z, z1, z2.1, EX.mono (c_Or_agreesWith z2 ho) fun y N hv => ?_⟩
          obtain ⟨rfl, rfl⟩ := hv
          refine ⟨_, rfl, fun h2 y hy => ?_, fun h2 y hy y2 hy2 => ?_⟩
          · subst hy
            rw [nI_i1]
            have h8 := b01_0 h2
            rw [decide_eq_false_iff_not] at h8
            rw [if_neg (fun z => h8 z.2.2)] at go
            exact go
          · subst hy hy2
            rw [nI_i1]
            have h8 := b01_1 h2
            rw [decide_eq_true_eq] at h8
            rw [if_pos ⟨hx, h9, h8.1, h8.2⟩] at go
            exact go
  exact loop k 0 (by omega)
theorem same_np {x : Nat} (h : g_plain D x i = false) : ∀ k, g_sameU D a i x k = 0 := by
  intro k
  induction k with
  | zero => rfl
  | succ k ih => rw [g_sameU, if_neg (fun z => by rw [h] at z; exact absurd z.1 (by decide)), ih]
theorem c_At_sharedFastVote (R : rpts M qa w D a k) (hi : i < 30) {f : Nat} (hf : D 1641 0 = nI f) (hf1 : 1 ≤ f) (hf9 : f < 100) : EX eL X_At_sharedFastVote 0 [some (.inr (some qa)), some (.inl (nI (i / 6))), some (.inl (nI f)), none] [] M (fun y N => y = some (.inr (rO M w a (g_common D a k i))) ∧ N = M) := by
  have R0 := R
  obtain ⟨r1, r2, r3, r4, r5, r6, r7⟩ := R
  refine sg_At_sharedFastVote_0 ?_
  have loop : ∀ t j, t + j = k → g_common D a k i = g_firstU (fun x => decide (D 1641 0 ≤ g_sameU D a i x k)) a t j → EX eL X_At_sharedFastVote 2 [some (.inr (some qa)), some (.inl (nI (i / 6))), some (.inl (nI f)), some (.inl (nI j))] [] M (fun y N => y = some (.inr (rO M w a (g_common D a k i))) ∧ N = M) := by
    intro t
    induction t with
    | zero =>
      intro j hj hg
      have hj : j = k := by omega
      subst hj
      refine sg_At_sharedFastVote_2 ⟨r1, fun _ => ⟨by rw [hg]; rfl, rfl⟩, fun h => ?_⟩
      rw [r4] at h
      exact absurd (Int32.le_refl _) h
    | succ t ih =>
      intro j hj hg
      conv at hg => rhs; rw [g_firstU]
      obtain ⟨p, p1, P⟩ := r7 j (by omega)
      have v1 : vp_in (nI j) (mLn M w) := vin (by omega) (by omega)
      have v2 : mR M 106 w (nI j).toNatClampNeg = some p := by rw [cl (by omega)]; exact p1
      refine sg_At_sharedFastVote_2 ⟨r1, fun h => ?_, fun _ => ⟨w, r2, r3, v1, p, v2, P.1, EX.mono (c_Rt_isFastVote P) fun y N hv => ?_⟩⟩
      · rw [r4, nle (by omega) (by omega)] at h; omega
      · obtain ⟨rfl, rfl⟩ := hv
        refine ⟨_, rfl, fun h y hy => ?_, fun h => ?_⟩
        · subst hy
          rw [nI_i1]
          have h9 : g_plain D (a + j) i = false := b01_0 h
          rw [if_neg (by
            simp only [decide_eq_true_eq]
            rw [hf, same_np h9]
            intro z
            exact nI_nle (by omega) (by omega) z)] at hg
          exact ih (j + 1) (by omega) hg
        · have h9 : g_plain D (a + j) i = true := b01_1 h
          have hst : D 18 (a + j) = 1 := by simp only [g_plain, Bool.and_eq_true, decide_eq_true_eq] at h9; exact h9.1.1
          obtain ⟨z, z1, z2⟩ := P.2.2.2.2 (by rw [hst]; decide)
          refine ⟨r1, w, r2, r3, v1, p, v2, P.1, ?_⟩
          rw [z1]
          refine EX.mono (c_At_countSharers R0 hi h9 z2) fun y N hv => ?_
          obtain ⟨rfl, rfl⟩ := hv
          refine ⟨_, rfl, fun h2 y hy => ?_, fun h2 => ⟨r1, w, r2, r3, v1, ?_⟩⟩
          · subst hy
            rw [nI_i1]
            rw [if_neg (by simp only [decide_eq_true_eq]; rw [hf]; exact Int32.not_le.mpr h2)] at hg
            exact ih (j + 1) (by omega) hg
          · rw [if_pos (by simp only [decide_eq_true_eq]; rw [hf]; exact Int32.not_lt.mp h2)] at hg
            rw [hg, cl (by omega)]
            refine ⟨?_, rfl⟩
            show _ = some (Sum.inr (mR _ 106 w (a + j - a)))
            rw [show a + j - a = j by omega]
  exact loop k 0 (by omega) rfl
end REP
