section PROP
variable {c : Nat} {M N : me_M} {b n r i : Nat} {D E : me_D}
theorem c_LM_prepare_ok (C : cW M b n D) (u40 : uOK D) (hr : r < n) (hi : i < 6 * n) (hcr : D 1 r = 0) (h3 : D 4 (30 * r + i) < 3) {p : Nat} (hp : D 9 (30 * r + i) = nI p) (hp9 : p < 1000000) : EX eL X_LM_prepare 0 [some (.inr (some b)), some (.inl (nI r)), some (.inl (nI i)), none, none] [] M (fun x N => x = some (.inl (g_ballot D n r i)) ∧ cW N b n (g_prepare D n r i) ∧ fr (pC (mdA b n)) 9 M N) := by
  have S := C.sk
  refine sg_LM_prepare_0 ⟨s_kLM S, EX.mono (c_LM_workingReplica_ok C hr hcr) fun x N hv => ?_⟩
  obtain ⟨rfl, rfl⟩ := hv
  refine ⟨_, rfl, s_kLM S, EX.mono (c_LM_entryAt_ok C hr hi) fun x N hv => ?_⟩
  obtain ⟨rfl, rfl⟩ := hv
  refine ⟨_, rfl, (fun h => by cases h), fun _ => ⟨(fun h => by cases h), fun _ => ⟨_, rfl, s_kEnt S hr hi, EX.mono (c_En_isSettled (s_kEnt S hr hi) (C.ent hr hi).1 (Int32.lt_trans h3 (by decide))) fun x N hv => ?_⟩⟩⟩
  obtain ⟨rfl, rfl⟩ := hv
  refine ⟨_, rfl, fun _ => ⟨_, rfl, s_kRp S hr, EX.mono (c_Rp_startPreparing C u40 hr hi hp hp9) fun x N hv => ?_⟩, fun h => absurd (b01f (Int32.not_le.mpr h3)) h⟩
  obtain ⟨rfl, w1, w2⟩ := hv
  exact ⟨_, rfl, rfl, w1, w2⟩
theorem c_LM_prepare_bad (C : cW M b n D) (hst : ∀ r i, r < n → i < 6 * n → D 4 (30 * r + i) < 5) {v w : Int32} (hb : ¬ ∃ r i, r < n ∧ i < 6 * n ∧ v = nI r ∧ w = nI i ∧ D 1 r = 0 ∧ D 4 (30 * r + i) < 3) : EX eL X_LM_prepare 0 [some (.inr (some b)), some (.inl v), some (.inl w), none, none] [] M (fun x N => x = some (.inl (-1)) ∧ N = M) := by
  have S := C.sk
  have n5 := C.n5
  by_cases hw : ∃ r, r < n ∧ v = nI r ∧ D 1 r = 0
  · obtain ⟨r, hr, rfl, hcr⟩ := hw
    refine sg_LM_prepare_0 ⟨s_kLM S, EX.mono (c_LM_workingReplica_ok C hr hcr) fun x N hv => ?_⟩
    obtain ⟨rfl, rfl⟩ := hv
    by_cases hk : 0 ≤ nI r ∧ nI r < nI n ∧ 0 ≤ w ∧ w < nI (6 * n)
    · obtain ⟨r', i, hr', hi, e1, rfl⟩ := kn_of n5 hk
      rw [neq (by omega) (by omega)] at e1
      subst e1
      refine ⟨_, rfl, s_kLM S, EX.mono (c_LM_entryAt_ok C hr hi) fun x N hv => ?_⟩
      obtain ⟨rfl, rfl⟩ := hv
      refine ⟨_, rfl, (fun h => by cases h), fun _ => ⟨(fun h => by cases h), fun _ => ⟨_, rfl, s_kEnt S hr hi, EX.mono (c_En_isSettled (s_kEnt S hr hi) (C.ent hr hi).1 (hst r i hr hi)) fun x N hv => ?_⟩⟩⟩
      obtain ⟨rfl, rfl⟩ := hv
      refine ⟨_, rfl, fun h => ?_, fun _ => ⟨rfl, rfl⟩⟩
      have h9 := b01_0 h
      rw [decide_eq_false_iff_not] at h9
      exact absurd ⟨r, i, hr, hi, rfl, rfl, hcr, Int32.not_le.mp h9⟩ hb
    · refine ⟨_, rfl, s_kLM S, EX.mono (c_LM_entryAt_bad C hk) fun x N hv => ?_⟩
      obtain ⟨rfl, rfl⟩ := hv
      exact ⟨_, rfl, (fun h => by cases h), fun _ => ⟨fun _ => ⟨rfl, rfl⟩, fun h => absurd rfl h⟩⟩
  · refine sg_LM_prepare_0 ⟨s_kLM S, EX.mono (c_LM_workingReplica_bad C hw) fun x N hv => ?_⟩
    obtain ⟨rfl, rfl⟩ := hv
    by_cases hk : 0 ≤ v ∧ v < nI n ∧ 0 ≤ w ∧ w < nI (6 * n)
    · obtain ⟨r', i, hr', hi, rfl, rfl⟩ := kn_of n5 hk
      refine ⟨_, rfl, s_kLM S, EX.mono (c_LM_entryAt_ok C hr' hi) fun x N hv => ?_⟩
      obtain ⟨rfl, rfl⟩ := hv
      exact ⟨_, rfl, fun _ => ⟨rfl, rfl⟩, fun h => absurd rfl h⟩
    · refine ⟨_, rfl, s_kLM S, EX.mono (c_LM_entryAt_bad C hk) fun x N hv => ?_⟩
      obtain ⟨rfl, rfl⟩ := hv
      exact ⟨_, rfl, fun _ => ⟨rfl, rfl⟩, fun h => absurd rfl h⟩
theorem c_Rp_freeInstance (C : cW M b n D) (hr : r < n) : EX eL X_Rp_freeInstance 0 [some (.inr (some (aR b n r))), none, none] [] M (fun x N => x = some (.inl (oI (g_freeU D r 6 0))) ∧ N = M) := by
  have S := C.sk
  have n5 := C.n5
  refine sg_Rp_freeInstance_0 ⟨s_kRp S hr, ?_⟩
  rintro _ rfl
  rw [s_num S hr, m6]
  have loop : ∀ t j, t + j = 6 → g_freeU D r 6 0 = g_freeU D r t j → EX eL X_Rp_freeInstance 10 [some (.inr (some (aR b n r))), some (.inl (nI (6 * r))), some (.inl (nI (6 * r + j)))] [] M (fun x N => x = some (.inl (oI (g_freeU D r 6 0))) ∧ N = M) := by
    intro t
    induction t with
    | zero =>
      intro j hj hg
      have hj : j = 6 := by omega
      subst hj
      refine sg_Rp_freeInstance_10 ⟨fun _ => ⟨by rw [hg]; rfl, rfl⟩, fun h => ?_⟩
      rw [p6] at h
      exact absurd (Int32.le_refl _) h
    | succ t ih =>
      intro j hj hg
      conv at hg => rhs; rw [g_freeU]
      have hi : 6 * r + j < 6 * n := by omega
      have E0 := C.ent hr hi
      have vI : vp_in (nI (6 * r + j)) (mLn M (aR b n r + 1)) := by rw [s_lEnts S hr]; exact vin hi (by omega)
      have nxt : ¬ (D 4 (30 * r + (6 * r + j)) = 0 ∧ D 9 (30 * r + (6 * r + j)) = 0) → EX eL X_Rp_freeInstance 10 [some (.inr (some (aR b n r))), some (.inl (nI (6 * r))), some (.inl (nI (6 * r + j) + Int32.ofInt 1))] [] M (fun x N => x = some (.inl (oI (g_freeU D r 6 0))) ∧ N = M) := by
        intro hx
        rw [if_neg hx] at hg
        rw [nI_i1]
        exact ih (j + 1) (by omega) hg
      refine sg_Rp_freeInstance_10 ⟨fun h => ?_, fun _ => ⟨s_kRp S hr, _, s_ents S hr, s_kEnts S hr, vI, _, by rw [cl (by omega)]; exact s_ent S hr hi, s_kEnt S hr hi, ?_⟩⟩
      · rw [p6, nle (by omega) (by omega)] at h; omega
      · rw [E0.1, E0.2.1]
        refine ⟨fun h x hx => ?_, fun h => ⟨vI, fun h2 x hx => ?_, fun h2 => ?_⟩⟩
        · subst hx; exact nxt (fun z => h z.1)
        · subst hx; exact nxt (fun z => h2 z.2)
        · rw [if_pos ⟨h, h2⟩] at hg
          exact ⟨by rw [hg]; rfl, rfl⟩
  exact loop 6 0 (by omega) rfl
set_option maxHeartbeats 1000000 in
theorem c_Rp_startCommand (C : cW M b n D) (u40 : uOK D) (hr : r < n) (hi : i < 6 * n) (h4 : ¬ D 4 (30 * r + i) = 4) (hs : ∀ j, j < 6 * n → ∃ s, D 7 (30 * r + j) = nI s ∧ s < 2147483647) {z : Nat} {cd vl : Int32} (hz : CmdOK M z cd vl) : EX eL X_Rp_startCommand 0 [some (.inr (some (aR b n r))), some (.inl (nI i)), some (.inr (some z)), none, none, none] [] M (fun x N => x = none ∧ cW N b n (g_firstsU (g_start (g_fit D n r i cd vl 1 0) (30 * r + i) 0 0) n r i (n - 2)) ∧ fr (pC (mdA b n)) 19 M N) := by
  have n5 := C.n5
  have n3 := C.n3
  refine sg_Rp_startCommand_0 ?_
  rintro _ _ rfl rfl
  refine EX.mono c_Or_init fun x M1 hv => ?_
  obtain ⟨rfl, rfl⟩ := hv
  have f1 : fr (fun _ _ => False) 1 M (mkOr M (some z) 1 0) := mkOr_fr
  have C1 := C.alloc f1 (mkOr_wf C.w)
  have o1 := mkOr_ok (s := 1) (d := 0) C.w hz
  refine ⟨rfl, s_kRp C1.sk hr, EX.mono (c_Rp_fitted C1 hr hi hs o1) fun x M2 hv => ?_⟩
  obtain ⟨p, rfl, o2, f2, w2⟩ := hv
  have C2 := C1.alloc f2 w2
  have S2 := C2.sk
  refine ⟨_, rfl, s_kRp S2 hr, _, s_ents S2 hr, s_kEnts S2 hr, by rw [s_lEnts S2 hr]; exact vin hi (by omega), _, by rw [cl (by omega)]; exact s_ent S2 hr hi, s_kEnt S2 hr hi, EX.mono (c_En_become (s_kEnt S2 hr hi)) fun x N hv => ?_⟩
  obtain ⟨rfl, rfl⟩ := hv
  have C3 := become_cW (E := g_fit D n r i cd vl 1 0) (s := 1) C2 hr hi o2 (by decide) (by decide) h4 (fun j x hx => by unfold g_fit g_put; simp (disch := omega) only [dU_out])
    (by unfold g_fit g_put; simp (disch := omega) only [dU_ne, dU_eq]) (by unfold g_fit g_put; simp (disch := omega) only [dU_ne, dU_eq]) (by unfold g_fit g_put; simp (disch := omega) only [dU_ne, dU_eq]) (by unfold g_fit g_put; simp (disch := omega) only [dU_ne, dU_eq]) (by unfold g_fit g_put; simp (disch := omega) only [dU_ne, dU_eq]) (by unfold g_fit g_put; simp (disch := omega) only [dU_ne, dU_eq]) (by unfold g_fit g_put; simp (disch := omega) only [dU_ne, dU_eq]) (by unfold g_fit g_put; simp (disch := omega) only [dU_ne, dU_eq]) (by unfold g_fit g_put; simp (disch := omega) only [dU_ne, dU_eq])
  have f3 := become_fr (M := M2) (e := aR b n r + 2 + i) (s := 1) (o := some p)
  have o3 := OrdOK.fr f3 pE_mut.imm C2.w o2
  generalize mSetR (mSetI M2 1192 (aR b n r + 2 + i) 0 1) 1193 (aR b n r + 2 + i) 0 (some p) = M3 at *
  have S3 := C3.sk
  refine ⟨rfl, s_kRp S3 hr, ?_⟩
  rintro _ _ rfl rfl
  refine EX.mono (c_At_init (M := M3) (k := 0) (Or.inr rfl) (by omega)) fun x L hv => ?_
  obtain ⟨rfl, rfl⟩ := hv
  have f4 : fr (fun _ _ => False) 2 M3 (mkAt M3 0 1 1 0) := mkAt_fr (by omega)
  have kA := f4.kd C3.w (s_kAtts S3 hr) (by decide)
  have lA : mLn (mkAt M3 0 1 1 0) (aR b n r + 2 + 6 * n) = 6 * n := (f4.2.1 _ (C3.w.lt (by rw [s_kAtts S3 hr]; decide))).2.trans (s_lAtts S3 hr)
  refine ⟨rfl, _, s_atts S3 hr, kA, by rw [lA]; exact vin hi (by omega), ?_, ?_⟩
  · show (if mSz M3 = mSz M3 + 1 then 106 else (if mSz M3 = mSz M3 then 6 else mKd M3 (mSz M3))) = 6
    rw [if_neg (by omega), if_pos rfl]
  rintro _ rfl
  rw [cl (by omega)]
  obtain ⟨C4, f5⟩ := att_new (bl := 0) (ph := 1) (fs := 1) (w := 0) (k := 0) C3 hr hi (by omega) (Or.inl ⟨rfl, rfl, rfl⟩)
  have hm5 : mutP (fun x y => x = 105 ∧ y = aR b n r + 2 + 6 * n) := fun k q z => by rw [z.1]; rfl
  have o4 := OrdOK.fr f5 hm5.imm C3.w o3
  have frA : fr (pC (mdA b n)) 4 M (mSetR (mkAt M3 0 1 1 0) 105 (aR b n r + 2 + 6 * n) i (some (mSz M3))) := ((((nilC f1 (Nat.le_refl _)).trans (nilC f2 (Nat.le_refl _))).trans (entC f3 (Nat.le_refl _))).trans (newC f5 (Nat.le_refl _))).mono (by omega) (fun _ _ _ z => z)
  generalize mSetR (mkAt M3 0 1 1 0) 105 (aR b n r + 2 + 6 * n) i (some (mSz M3)) = M4 at *
  have u4 : uOK (g_start (g_fit D n r i cd vl 1 0) (30 * r + i) 0 0) := u40.to (by unfold g_start g_fit g_put; simp (disch := omega) only [dU_ne])
  have e5 : ∀ j, (j = 5 ∨ j = 6 ∨ j = 7 ∨ j = 8) → g_start (g_fit D n r i cd vl 1 0) (30 * r + i) 0 0 j (30 * r + i) = g_fit D n r i cd vl 1 0 j (30 * r + i) := fun j hj => g_start_ne (by omega) (by omega) (by omega) (by omega)
  have loop : ∀ t k L, t + k = n - 2 → cW L b n (g_firstsU (g_start (g_fit D n r i cd vl 1 0) (30 * r + i) 0 0) n r i k) → fr (pNet b) k M4 L → EX eL X_Rp_startCommand 47 [some (.inr (some (aR b n r))), some (.inl (nI i)), none, some (.inr (some p)), some (.inl (nI (k + 1))), none] [] L (fun x N => x = none ∧ cW N b n (g_firstsU (g_start (g_fit D n r i cd vl 1 0) (30 * r + i) 0 0) n r i (n - 2)) ∧ fr (pC (mdA b n)) 19 M N) := by
    intro t
    induction t with
    | zero =>
      intro k L hk CL hf
      have hk : k = n - 2 := by omega
      subst hk
      refine sg_Rp_startCommand_47 ⟨s_kRp CL.sk hr, fun _ => ⟨rfl, CL, (frA.trans (netC hf (Nat.le_refl _))).mono (by omega) (fun _ _ _ z => z)⟩, fun h => ?_⟩
      rw [s_rsz CL.sk hr, n_2 (by omega), nlt (by omega) (by omega)] at h
      omega
    | succ t ih =>
      intro k L hk CL hf
      have S := CL.sk
      refine sg_Rp_startCommand_47 ⟨s_kRp S hr, fun h => ?_, fun _ => ⟨by rw [s_rsz S hr]; exact nne0 (by omega) (by omega), ?_⟩⟩
      · rw [s_rsz S hr, n_2 (by omega), nlt (by omega) (by omega)] at h; omega
      · rintro _ rfl _ _ rfl rfl
        rw [s_rsz S hr, s_num S hr, nI_add, nrem (by omega) (by omega) (by omega)]
        have hkr : mKd (mNew L 10 0 7) (aR b n r) = 3 := by
          rw [mKd_New, if_neg (fun z => by have := CL.w.lt (q := aR b n r) (by rw [s_kRp S hr]; decide); omega)]; exact s_kRp S hr
        refine ⟨hkr, ?_⟩
        rw [mI_New, s_num S hr]
        refine EX.mono c_Ms_init fun x L2 hv => ?_
        obtain ⟨rfl, rfl⟩ := hv
        have hf1 : fr (fun _ _ => False) 1 L (mkMs L 0 (nI r) (nI ((r + (k + 1)) % n)) (nI i) 0 (some p) none) := mkMs_fr
        have C5 := CL.alloc hf1 (mkMs_wf CL.w)
        have hK : MsgOK (mkMs L 0 (nI r) (nI ((r + (k + 1)) % n)) (nI i) 0 (some p) none) (mSz L) (gK (g_firstsU (g_start (g_fit D n r i cd vl 1 0) (30 * r + i) 0 0) n r i k) 0 r ((r + (k + 1)) % n) i 0) := by
          refine mkMs_ok CL.w rfl rfl rfl rfl (fun _ => rfl) (fun z => ⟨p, rfl, ?_⟩) (fun z => absurd z (by decide))
          have := OrdOK.fr hf pNet_mut.imm C4.w o4
          show OrdOK L p (g_firstsU (g_start (g_fit D n r i cd vl 1 0) (30 * r + i) 0 0) n r i k 5 (30 * r + i)) (g_firstsU (g_start (g_fit D n r i cd vl 1 0) (30 * r + i) 0 0) n r i k 6 (30 * r + i)) (g_firstsU (g_start (g_fit D n r i cd vl 1 0) (30 * r + i) 0 0) n r i k 7 (30 * r + i)) (g_firstsU (g_start (g_fit D n r i cd vl 1 0) (30 * r + i) 0 0) n r i k 8 (30 * r + i))
          rw [g_firstsU_ne (by decide) (by decide) (by decide), g_firstsU_ne (by decide) (by decide) (by decide), g_firstsU_ne (by decide) (by decide) (by decide), g_firstsU_ne (by decide) (by decide) (by decide), e5 _ (by omega), e5 _ (by omega), e5 _ (by omega), e5 _ (by omega)]
          unfold g_fit g_put
          simp (disch := omega) only [dU_ne, dU_eq]
          exact this
        refine ⟨rfl, b + 1, s_rnet S hr, s_kNet C5.sk, EX.mono (c_Net_send C5 (uOK_firsts u4 k) hK) fun x L2 hv => ?_⟩
        obtain ⟨rfl, h1, h2⟩ := hv
        refine ⟨rfl, ?_⟩
        rintro _ rfl
        rw [nI_i1]
        exact ih (k + 1) L2 (by omega) h1 (hf.trans ((frn hf1).trans h2))
  exact loop (n - 2) 0 M4 (by omega) C4 (fr.refl _ M4)
end PROP
