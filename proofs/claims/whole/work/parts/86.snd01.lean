theorem le_LM_entryAt {ls : List (Option me_V)} {M N : me_M} {v : Option me_V} (h : RUN eL X_LM_entryAt 0 ls [] M v N) : mSz M ≤ mSz N ∧ mSl M ≤ mSl N := by
  refine RUN.le (fun pc as M r M1 h => ?_) h
  unfold X_LM_entryAt at h
  dsimp only [xCall] at h
  split at h
  · exact le_LM_isReplica h.2.2
  · exact h.elim
theorem snd_LM_entryAt {l : Launch} {B : Nat} {Dd : va_G} {cA : Nat → ClassId} {as : List me_V} {M N : me_M} {v : Option me_V} (hlen : as.length = 3) (hrun : RUN eL X_LM_entryAt 0 (as.map some ++ List.replicate (4 - 3) none) [] M v N) : Met l y_LM_entryAt (Cond.code y_LM_entryAt b_LM_entryAt 4 (some (.object "LeaderlessMap$Entry")) :: LW) { frames := 1, cells := mSz N - mSz M, slots := mSl N - mSl M, locals := 21 } (me_Pc (mG B Dd cA) as M) (me_Qc (mG B Dd cA) v N) (mSz N - mSz M) (mSl N - mSl M) (fun q => B ≤ q) := by
  refine me_met (X := X_LM_entryAt) (el := eL) (G := mG B Dd cA) (cc := b_LM_entryAt) (maxL := 4) (ws' := LW) (ret := (some (.object "LeaderlessMap$Entry"))) (by decide +kernel) rfl rfl (Or.inr (Or.inr (Or.inr ⟨rfl, Or.inl ⟨_, rfl⟩⟩))) (by omega) rfl mG_CL mG_AT (le_LM_entryAt hrun) (fun args s hts hNw => ?_) (fun p e s m args below meth c Q S hK hNw pc as2 M2 r M1 h => ?_) (by rw [hlen]; exact hrun)
  · have ht : ∀ w ∈ LW, w.before args s = true := fun w hw => hts w (List.mem_cons_of_mem _ hw)
    refine ⟨?_, ?_, ?_, ?_, ?_, ?_, ?_, ?_, ?_⟩
    · intro idx ci k key ty h
      unfold X_LM_entryAt at h
      dsimp only [xF] at h
      split at h
      · cases h
        exact tf (r := (R_LM, F_LM, 5)) ht rfl (by decide) (by decide) rfl rfl cl_LM rfl (mT 139 (by decide +kernel) rfl) (fun _ h => h.elim)
      · cases h
        exact tf (r := (R_LM, F_LM, 5)) ht rfl (by decide) (by decide) rfl rfl cl_LM rfl (mT 142 (by decide +kernel) rfl) (fun _ h => h.elim)
      · cases h
        exact tf (r := (R_Rp, F_Rp, 8)) ht rfl (by decide) (by decide) rfl rfl cl_Rp rfl (mT 116 (by decide +kernel) rfl) (fun _ h => h.elim)
      · cases h
    · exact tf_nil
    · exact fun _ _ _ _ _ _ (h : none = some _) => by cases h
    · exact tn_nil
    · exact ta_nil
    · exact fun (h : none = some _) => by cases h
    · exact fun (h : none = some _) => by cases h
    · exact fun _ _ (h : none = some _) => by cases h
    · exact fun h => absurd rfl h
  · unfold X_LM_entryAt at h
    dsimp only [xCall] at h
    split at h
    · obtain ⟨⟨b0, t0, rfl, hk0⟩, hn0, hr0⟩ := h
      exact me_crV S hK mG_NW hNw (snd_LM_isReplica hn0 hr0) (le_LM_isReplica hr0).1 (le_LM_isReplica hr0).2 (cwV (C := R_LM) 1 S.2.2.2.2 (gV cI (mT 166 (by decide +kernel) rfl) (mT 163 (by decide +kernel) rfl) (mT 165 (by decide +kernel) rfl) (mS 1 (by decide +kernel) rfl) (mT 1 (by decide +kernel) rfl)) rfl rfl rfl (by decide +kernel) ⟨Nat.le_of_ble_eq_true rfl, Nat.le_of_ble_eq_true rfl⟩) (by simp only [List.length_cons] at hn0; omega) hk0 (by decide) (q0 := (R_LM, F_LM, 5)) rfl rfl d_LM_entryAt_2
    · exact h.elim
theorem le_En_isSettled {ls : List (Option me_V)} {M N : me_M} {v : Option me_V} (h : RUN eL X_En_isSettled 0 ls [] M v N) : mSz M ≤ mSz N ∧ mSl M ≤ mSl N := by
  refine RUN.le (fun pc as M r M1 h => ?_) h
  exact False.elim h
theorem snd_En_isSettled {l : Launch} {B : Nat} {Dd : va_G} {cA : Nat → ClassId} {as : List me_V} {M N : me_M} {v : Option me_V} (hlen : as.length = 1) (hrun : RUN eL X_En_isSettled 0 (as.map some ++ List.replicate (1 - 1) none) [] M v N) : Met l y_En_isSettled (Cond.code y_En_isSettled b_En_isSettled 1 (some .boolean) :: LW) { frames := 0, cells := mSz N - mSz M, slots := mSl N - mSl M, locals := 0 } (me_Pc (mG B Dd cA) as M) (me_Qc (mG B Dd cA) v N) (mSz N - mSz M) (mSl N - mSl M) (fun q => B ≤ q) := by
  refine me_met (X := X_En_isSettled) (el := eL) (G := mG B Dd cA) (cc := b_En_isSettled) (maxL := 1) (ws' := LW) (ret := (some .boolean)) (by decide +kernel) rfl rfl (Or.inr (Or.inr (Or.inl ⟨rfl, rfl⟩))) (by omega) rfl mG_CL mG_AT (le_En_isSettled hrun) (fun args s hts hNw => ?_) (fun p e s m args below meth c Q S hK hNw pc as2 M2 r M1 h => ?_) (by rw [hlen]; exact hrun)
  · have ht : ∀ w ∈ LW, w.before args s = true := fun w hw => hts w (List.mem_cons_of_mem _ hw)
    refine ⟨?_, ?_, ?_, ?_, ?_, ?_, ?_, ?_, ?_⟩
    · intro idx ci k key ty h
      unfold X_En_isSettled at h
      dsimp only [xF] at h
      split at h
      · cases h
        exact tf (r := (R_En, F_En, 6)) ht rfl (by decide) (by decide) rfl rfl cl_En rfl (mT 56 (by decide +kernel) rfl) (fun _ h => h.elim)
      · cases h
    · exact tf_nil
    · exact fun _ _ _ _ _ _ (h : none = some _) => by cases h
    · exact tn_nil
    · exact ta_nil
    · exact fun (h : none = some _) => by cases h
    · exact fun (h : none = some _) => by cases h
    · exact fun _ _ (h : none = some _) => by cases h
    · exact fun h => absurd rfl h
  · exact False.elim h
theorem le_Rp_nextBallot {ls : List (Option me_V)} {M N : me_M} {v : Option me_V} (h : RUN eL X_Rp_nextBallot 0 ls [] M v N) : mSz M ≤ mSz N ∧ mSl M ≤ mSl N := by
  refine RUN.le (fun pc as M r M1 h => ?_) h
  exact False.elim h
theorem snd_Rp_nextBallot {l : Launch} {B : Nat} {Dd : va_G} {cA : Nat → ClassId} {as : List me_V} {M N : me_M} {v : Option me_V} (hlen : as.length = 2) (hrun : RUN eL X_Rp_nextBallot 0 (as.map some ++ List.replicate (3 - 2) none) [] M v N) : Met l y_Rp_nextBallot (Cond.code y_Rp_nextBallot b_Rp_nextBallot 3 (some .int) :: LW) { frames := 0, cells := mSz N - mSz M, slots := mSl N - mSl M, locals := 0 } (me_Pc (mG B Dd cA) as M) (me_Qc (mG B Dd cA) v N) (mSz N - mSz M) (mSl N - mSl M) (fun q => B ≤ q) := by
  refine me_met (X := X_Rp_nextBallot) (el := eL) (G := mG B Dd cA) (cc := b_Rp_nextBallot) (maxL := 3) (ws' := LW) (ret := (some .int)) (by decide +kernel) rfl rfl (Or.inr (Or.inl ⟨rfl, rfl⟩)) (by omega) rfl mG_CL mG_AT (le_Rp_nextBallot hrun) (fun args s hts hNw => ?_) (fun p e s m args below meth c Q S hK hNw pc as2 M2 r M1 h => ?_) (by rw [hlen]; exact hrun)
  · have ht : ∀ w ∈ LW, w.before args s = true := fun w hw => hts w (List.mem_cons_of_mem _ hw)
    refine ⟨?_, ?_, ?_, ?_, ?_, ?_, ?_, ?_, ?_⟩
    · intro idx ci k key ty h
      unfold X_Rp_nextBallot at h
      dsimp only [xF] at h
      split at h
      · cases h
        exact tf (r := (R_Rp, F_Rp, 8)) ht rfl (by decide) (by decide) rfl rfl cl_Rp rfl (mT 111 (by decide +kernel) rfl) (fun _ h => h.elim)
      · cases h
        exact tf (r := (R_Rp, F_Rp, 8)) ht rfl (by decide) (by decide) rfl rfl cl_Rp rfl (mT 112 (by decide +kernel) rfl) (fun _ h => h.elim)
      · cases h
    · exact tf_nil
    · exact fun _ _ _ _ _ _ (h : none = some _) => by cases h
    · exact tn_nil
    · exact ta_nil
    · exact fun (h : none = some _) => by cases h
    · exact fun (h : none = some _) => by cases h
    · exact fun _ _ (h : none = some _) => by cases h
    · exact fun h => absurd rfl h
  · exact False.elim h
theorem le_Rp_sendToOthers {ls : List (Option me_V)} {M N : me_M} {v : Option me_V} (h : RUN eL X_Rp_sendToOthers 0 ls [] M v N) : mSz M ≤ mSz N ∧ mSl M ≤ mSl N := by
  refine RUN.le (fun pc as M r M1 h => ?_) h
  unfold X_Rp_sendToOthers at h
  dsimp only [xCall] at h
  split at h
  · exact le_Ms_init h.2.2
  · exact le_Net_send h.2.2
  · exact h.elim
theorem snd_Rp_sendToOthers {l : Launch} {B : Nat} {Dd : va_G} {cA : Nat → ClassId} {as : List me_V} {M N : me_M} {v : Option me_V} (hlen : as.length = 5) (hrun : RUN eL X_Rp_sendToOthers 0 (as.map some ++ List.replicate (6 - 5) none) [] M v N) : Met l y_Rp_sendToOthers (Cond.code y_Rp_sendToOthers b_Rp_sendToOthers 6 none :: LW) { frames := 2, cells := mSz N - mSz M, slots := mSl N - mSl M, locals := 47 } (me_Pc (mG B Dd cA) as M) (me_Qc (mG B Dd cA) v N) (mSz N - mSz M) (mSl N - mSl M) (fun q => B ≤ q) := by
  refine me_met (X := X_Rp_sendToOthers) (el := eL) (G := mG B Dd cA) (cc := b_Rp_sendToOthers) (maxL := 6) (ws' := LW) (ret := none) (by decide +kernel) rfl rfl (Or.inl ⟨rfl, rfl⟩) (by omega) rfl mG_CL mG_AT (le_Rp_sendToOthers hrun) (fun args s hts hNw => ?_) (fun p e s m args below meth c Q S hK hNw pc as2 M2 r M1 h => ?_) (by rw [hlen]; exact hrun)
  · have ht : ∀ w ∈ LW, w.before args s = true := fun w hw => hts w (List.mem_cons_of_mem _ hw)
    refine ⟨?_, ?_, ?_, ?_, ?_, ?_, ?_, ?_, ?_⟩
    · intro idx ci k key ty h
      unfold X_Rp_sendToOthers at h
      dsimp only [xF] at h
      split at h
      · cases h
        exact tf (r := (R_Rp, F_Rp, 8)) ht rfl (by decide) (by decide) rfl rfl cl_Rp rfl (mT 111 (by decide +kernel) rfl) (fun _ h => h.elim)
      · cases h
        exact tf (r := (R_Rp, F_Rp, 8)) ht rfl (by decide) (by decide) rfl rfl cl_Rp rfl (mT 112 (by decide +kernel) rfl) (fun _ h => h.elim)
      · cases h
        exact tf (r := (R_Rp, F_Rp, 8)) ht rfl (by decide) (by decide) rfl rfl cl_Rp rfl (mT 114 (by decide +kernel) rfl) (fun _ h => h.elim)
      · cases h
    · exact tf_nil
    · exact fun _ _ _ _ _ _ (h : none = some _) => by cases h
    · intro idx ci n h
      unfold X_Rp_sendToOthers at h
      dsimp only [xN] at h
      split at h
      · cases h
        exact tn (r := (R_Ms, F_Ms, 7)) ht rfl (by decide) rfl cl_Ms (mT 279 (by decide +kernel) rfl) (mT 280 (by decide +kernel) rfl) (mT 11 (by decide +kernel) rfl)
      · cases h
    · exact ta_nil
    · exact fun (h : none = some _) => by cases h
    · exact fun (h : none = some _) => by cases h
    · exact fun _ _ (h : none = some _) => by cases h
    · exact fun h => absurd rfl h
  · unfold X_Rp_sendToOthers at h
    dsimp only [xCall] at h
    split at h
    · obtain ⟨⟨b0, t0, rfl, hk0⟩, hn0, hr0⟩ := h
      exact me_crI S hK mG_NW hNw (snd_Ms_init hn0 hr0) (le_Ms_init hr0).1 (le_Ms_init hr0).2 (cwI 7 S.2.2.2.2 (gI cI (mT 283 (by decide +kernel) rfl)) rfl rfl rfl (S.2.2.2.2 _ (cI _ (mT 11 (by decide +kernel) rfl))) (S.2.2.2.2 _ (cI _ (mT 281 (by decide +kernel) rfl))) (S.2.2.2.2 _ (cI _ (mT 282 (by decide +kernel) rfl))) rfl (by decide +kernel) ⟨Nat.le_of_ble_eq_true rfl, Nat.le_of_ble_eq_true rfl⟩) (by simp only [List.length_cons] at hn0; omega) d_Rp_sendToOthers_41
    · obtain ⟨⟨b0, t0, rfl, hk0⟩, hn0, hr0⟩ := h
      exact me_crV S hK mG_NW hNw (snd_Net_send hn0 hr0) (le_Net_send hr0).1 (le_Net_send hr0).2 (cwV (C := R_Net) 1 S.2.2.2.2 (gV cI (mT 320 (by decide +kernel) rfl) (mT 317 (by decide +kernel) rfl) (mT 318 (by decide +kernel) rfl) (mT 319 (by decide +kernel) rfl) (mT 2 (by decide +kernel) rfl)) rfl rfl rfl (by decide +kernel) ⟨Nat.le_of_ble_eq_true rfl, Nat.le_of_ble_eq_true rfl⟩) (by simp only [List.length_cons] at hn0; omega) hk0 (by decide) (q0 := (R_Net, F_Net, 3)) rfl rfl d_Rp_sendToOthers_44
    · exact h.elim
theorem le_Rp_startPreparing {ls : List (Option me_V)} {M N : me_M} {v : Option me_V} (h : RUN eL X_Rp_startPreparing 0 ls [] M v N) : mSz M ≤ mSz N ∧ mSl M ≤ mSl N := by
  refine RUN.le (fun pc as M r M1 h => ?_) h
  unfold X_Rp_startPreparing at h
  dsimp only [xCall] at h
  split at h
  · exact le_Rp_nextBallot h.2.2
  · exact le_At_init h.2.2
  · exact le_Rp_sendToOthers h.2.2
  · exact h.elim
theorem snd_Rp_startPreparing {l : Launch} {B : Nat} {Dd : va_G} {cA : Nat → ClassId} {as : List me_V} {M N : me_M} {v : Option me_V} (hlen : as.length = 2) (hrun : RUN eL X_Rp_startPreparing 0 (as.map some ++ List.replicate (3 - 2) none) [] M v N) : Met l y_Rp_startPreparing (Cond.code y_Rp_startPreparing b_Rp_startPreparing 3 (some .int) :: LW) { frames := 3, cells := mSz N - mSz M, slots := mSl N - mSl M, locals := 72 } (me_Pc (mG B Dd cA) as M) (me_Qc (mG B Dd cA) v N) (mSz N - mSz M) (mSl N - mSl M) (fun q => B ≤ q) := by
  refine me_met (X := X_Rp_startPreparing) (el := eL) (G := mG B Dd cA) (cc := b_Rp_startPreparing) (maxL := 3) (ws' := LW) (ret := (some .int)) (by decide +kernel) rfl rfl (Or.inr (Or.inl ⟨rfl, rfl⟩)) (by omega) rfl mG_CL mG_AT (le_Rp_startPreparing hrun) (fun args s hts hNw => ?_) (fun p e s m args below meth c Q S hK hNw pc as2 M2 r M1 h => ?_) (by rw [hlen]; exact hrun)
  · have ht : ∀ w ∈ LW, w.before args s = true := fun w hw => hts w (List.mem_cons_of_mem _ hw)
    refine ⟨?_, ?_, ?_, ?_, ?_, ?_, ?_, ?_, ?_⟩
    · intro idx ci k key ty h
      unfold X_Rp_startPreparing at h
      dsimp only [xF] at h
      split at h
      · cases h
        exact tf (r := (R_Rp, F_Rp, 8)) ht rfl (by decide) (by decide) rfl rfl cl_Rp rfl (mT 113 (by decide +kernel) rfl) (fun _ h => h.elim)
      · cases h
        exact tf (r := (R_Rp, F_Rp, 8)) ht rfl (by decide) (by decide) rfl rfl cl_Rp rfl (mT 115 (by decide +kernel) rfl) (fun _ h => h.elim)
      · cases h
        exact tf (r := (R_Rp, F_Rp, 8)) ht rfl (by decide) (by decide) rfl rfl cl_Rp rfl (mT 117 (by decide +kernel) rfl) (fun _ h => h.elim)
      · cases h
        exact tf (r := (R_En, F_En, 6)) ht rfl (by decide) (by decide) rfl rfl cl_En rfl (mT 65 (by decide +kernel) rfl) (fun _ h => h.elim)
      · cases h
    · intro idx ci k key ty h
      unfold X_Rp_startPreparing at h
      dsimp only [xG] at h
      split at h
      · cases h
        exact tf (r := (R_En, F_En, 6)) ht rfl (by decide) (by decide) rfl rfl cl_En rfl (mT 65 (by decide +kernel) rfl) (fun h => absurd h (by decide))
      · cases h
    · intro idx ci k key ty r h hr hf
      unfold X_Rp_startPreparing at h
      dsimp only [xG] at h
      split at h
      · cases h
        cases hr
        exact absurd hf (by decide)
      · cases h
    · intro idx ci n h
      unfold X_Rp_startPreparing at h
      dsimp only [xN] at h
      split at h
      · cases h
        exact tn (r := (R_At, F_At, 8)) ht rfl (by decide) rfl cl_At (mT 88 (by decide +kernel) rfl) (mT 240 (by decide +kernel) rfl) (mT 10 (by decide +kernel) rfl)
      · cases h
    · exact ta_nil
    · exact fun (h : none = some _) => by cases h
    · exact fun (h : none = some _) => by cases h
    · exact fun _ _ (h : none = some _) => by cases h
    · exact fun h => absurd rfl h
  · unfold X_Rp_startPreparing at h
    dsimp only [xCall] at h
    split at h
    · obtain ⟨⟨b0, t0, rfl, hk0⟩, hn0, hr0⟩ := h
      exact me_crV S hK mG_NW hNw (snd_Rp_nextBallot hn0 hr0) (le_Rp_nextBallot hr0).1 (le_Rp_nextBallot hr0).2 (cwV (C := R_Rp) 1 S.2.2.2.2 (gV cI (mT 340 (by decide +kernel) rfl) (mT 337 (by decide +kernel) rfl) (mT 339 (by decide +kernel) rfl) (mS 5 (by decide +kernel) rfl) (mT 3 (by decide +kernel) rfl)) rfl rfl rfl (by decide +kernel) ⟨Nat.le_of_ble_eq_true rfl, Nat.le_of_ble_eq_true rfl⟩) (by simp only [List.length_cons] at hn0; omega) hk0 (by decide) (q0 := (R_Rp, F_Rp, 8)) rfl rfl d_Rp_startPreparing_10
    · obtain ⟨⟨b0, t0, rfl, hk0⟩, hn0, hr0⟩ := h
      exact me_crI S hK mG_NW hNw (snd_At_init hn0 hr0) (le_At_init hr0).1 (le_At_init hr0).2 (cwI 4 S.2.2.2.2 (gI cI (mT 243 (by decide +kernel) rfl)) rfl rfl rfl (S.2.2.2.2 _ (cI _ (mT 10 (by decide +kernel) rfl))) (S.2.2.2.2 _ (cI _ (mT 241 (by decide +kernel) rfl))) (S.2.2.2.2 _ (cI _ (mT 242 (by decide +kernel) rfl))) rfl (by decide +kernel) ⟨Nat.le_of_ble_eq_true rfl, Nat.le_of_ble_eq_true rfl⟩) (by simp only [List.length_cons] at hn0; omega) d_Rp_startPreparing_42
    · obtain ⟨⟨b0, t0, rfl, hk0⟩, hn0, hr0⟩ := h
      exact me_crV S hK mG_NW hNw (snd_Rp_sendToOthers hn0 hr0) (le_Rp_sendToOthers hr0).1 (le_Rp_sendToOthers hr0).2 (cwV (C := R_Rp) 4 S.2.2.2.2 (gV cI (mT 344 (by decide +kernel) rfl) (mT 341 (by decide +kernel) rfl) (mT 343 (by decide +kernel) rfl) (mS 6 (by decide +kernel) rfl) (mT 3 (by decide +kernel) rfl)) rfl rfl rfl (by decide +kernel) ⟨Nat.le_of_ble_eq_true rfl, Nat.le_of_ble_eq_true rfl⟩) (by simp only [List.length_cons] at hn0; omega) hk0 (by decide) (q0 := (R_Rp, F_Rp, 8)) rfl rfl d_Rp_startPreparing_51
    · exact h.elim
theorem le_LM_prepare {ls : List (Option me_V)} {M N : me_M} {v : Option me_V} (h : RUN eL X_LM_prepare 0 ls [] M v N) : mSz M ≤ mSz N ∧ mSl M ≤ mSl N := by
  refine RUN.le (fun pc as M r M1 h => ?_) h
  unfold X_LM_prepare at h
  dsimp only [xCall] at h
  split at h
  · exact le_LM_workingReplica h.2.2
  · exact le_LM_entryAt h.2.2
  · exact le_En_isSettled h.2.2
  · exact le_Rp_startPreparing h.2.2
  · exact h.elim
theorem snd_LM_prepare {l : Launch} {B : Nat} {Dd : va_G} {cA : Nat → ClassId} {as : List me_V} {M N : me_M} {v : Option me_V} (hlen : as.length = 3) (hrun : RUN eL X_LM_prepare 0 (as.map some ++ List.replicate (5 - 3) none) [] M v N) : Met l y_LM_prepare (Cond.code y_LM_prepare b_LM_prepare 5 (some .int) :: LW) { frames := 4, cells := mSz N - mSz M, slots := mSl N - mSl M, locals := 94 } (me_Pc (mG B Dd cA) as M) (me_Qc (mG B Dd cA) v N) (mSz N - mSz M) (mSl N - mSl M) (fun q => B ≤ q) := by
  refine me_met (X := X_LM_prepare) (el := eL) (G := mG B Dd cA) (cc := b_LM_prepare) (maxL := 5) (ws' := LW) (ret := (some .int)) (by decide +kernel) rfl rfl (Or.inr (Or.inl ⟨rfl, rfl⟩)) (by omega) rfl mG_CL mG_AT (le_LM_prepare hrun) (fun args s hts hNw => ?_) (fun p e s m args below meth c Q S hK hNw pc as2 M2 r M1 h => ?_) (by rw [hlen]; exact hrun)
  · have ht : ∀ w ∈ LW, w.before args s = true := fun w hw => hts w (List.mem_cons_of_mem _ hw)
    refine ⟨?_, ?_, ?_, ?_, ?_, ?_, ?_, ?_, ?_⟩
    · exact tf_nil
    · exact tf_nil
    · exact fun _ _ _ _ _ _ (h : none = some _) => by cases h
    · exact tn_nil
    · exact ta_nil
    · exact fun (h : none = some _) => by cases h
    · exact fun (h : none = some _) => by cases h
    · exact fun _ _ (h : none = some _) => by cases h
    · exact fun h => absurd rfl h
  · unfold X_LM_prepare at h
    dsimp only [xCall] at h
    split at h
    · obtain ⟨⟨b0, t0, rfl, hk0⟩, hn0, hr0⟩ := h
      exact me_crV S hK mG_NW hNw (snd_LM_workingReplica hn0 hr0) (le_LM_workingReplica hr0).1 (le_LM_workingReplica hr0).2 (cwV (C := R_LM) 1 S.2.2.2.2 (gV cI (mT 162 (by decide +kernel) rfl) (mT 159 (by decide +kernel) rfl) (mT 161 (by decide +kernel) rfl) (mS 0 (by decide +kernel) rfl) (mT 1 (by decide +kernel) rfl)) rfl rfl rfl (by decide +kernel) ⟨Nat.le_of_ble_eq_true rfl, Nat.le_of_ble_eq_true rfl⟩) (by simp only [List.length_cons] at hn0; omega) hk0 (by decide) (q0 := (R_LM, F_LM, 5)) rfl rfl d_LM_prepare_2
    · obtain ⟨⟨b0, t0, rfl, hk0⟩, hn0, hr0⟩ := h
      exact me_crV S hK mG_NW hNw (snd_LM_entryAt hn0 hr0) (le_LM_entryAt hr0).1 (le_LM_entryAt hr0).2 (cwV (C := R_LM) 2 S.2.2.2.2 (gV cI (mT 328 (by decide +kernel) rfl) (mT 325 (by decide +kernel) rfl) (mT 327 (by decide +kernel) rfl) (mS 4 (by decide +kernel) rfl) (mT 1 (by decide +kernel) rfl)) rfl rfl rfl (by decide +kernel) ⟨Nat.le_of_ble_eq_true rfl, Nat.le_of_ble_eq_true rfl⟩) (by simp only [List.length_cons] at hn0; omega) hk0 (by decide) (q0 := (R_LM, F_LM, 5)) rfl rfl d_LM_prepare_9
    · obtain ⟨⟨b0, t0, rfl, hk0⟩, hn0, hr0⟩ := h
      exact me_crV S hK mG_NW hNw (snd_En_isSettled hn0 hr0) (le_En_isSettled hr0).1 (le_En_isSettled hr0).2 (cwV (C := R_En) 0 S.2.2.2.2 (gV cI (mT 332 (by decide +kernel) rfl) (mT 329 (by decide +kernel) rfl) (mT 330 (by decide +kernel) rfl) (mT 331 (by decide +kernel) rfl) (mT 4 (by decide +kernel) rfl)) rfl rfl rfl (by decide +kernel) ⟨Nat.le_of_ble_eq_true rfl, Nat.le_of_ble_eq_true rfl⟩) (by simp only [List.length_cons] at hn0; omega) hk0 (by decide) (q0 := (R_En, F_En, 6)) rfl rfl d_LM_prepare_25
    · obtain ⟨⟨b0, t0, rfl, hk0⟩, hn0, hr0⟩ := h
      exact me_crV S hK mG_NW hNw (snd_Rp_startPreparing hn0 hr0) (le_Rp_startPreparing hr0).1 (le_Rp_startPreparing hr0).2 (cwV (C := R_Rp) 1 S.2.2.2.2 (gV cI (mT 336 (by decide +kernel) rfl) (mT 333 (by decide +kernel) rfl) (mT 334 (by decide +kernel) rfl) (mT 335 (by decide +kernel) rfl) (mT 3 (by decide +kernel) rfl)) rfl rfl rfl (by decide +kernel) ⟨Nat.le_of_ble_eq_true rfl, Nat.le_of_ble_eq_true rfl⟩) (by simp only [List.length_cons] at hn0; omega) hk0 (by decide) (q0 := (R_Rp, F_Rp, 8)) rfl rfl d_LM_prepare_35
    · exact h.elim
theorem le_Net_at {ls : List (Option me_V)} {M N : me_M} {v : Option me_V} (h : RUN eL X_Net_at 0 ls [] M v N) : mSz M ≤ mSz N ∧ mSl M ≤ mSl N := by
  refine RUN.le (fun pc as M r M1 h => ?_) h
  exact False.elim h
theorem snd_Net_at {l : Launch} {B : Nat} {Dd : va_G} {cA : Nat → ClassId} {as : List me_V} {M N : me_M} {v : Option me_V} (hlen : as.length = 2) (hrun : RUN eL X_Net_at 0 (as.map some ++ List.replicate (2 - 2) none) [] M v N) : Met l y_Net_at (Cond.code y_Net_at b_Net_at 2 (some (.object "LeaderlessMap$Message")) :: LW) { frames := 0, cells := mSz N - mSz M, slots := mSl N - mSl M, locals := 0 } (me_Pc (mG B Dd cA) as M) (me_Qc (mG B Dd cA) v N) (mSz N - mSz M) (mSl N - mSl M) (fun q => B ≤ q) := by
  refine me_met (X := X_Net_at) (el := eL) (G := mG B Dd cA) (cc := b_Net_at) (maxL := 2) (ws' := LW) (ret := (some (.object "LeaderlessMap$Message"))) (by decide +kernel) rfl rfl (Or.inr (Or.inr (Or.inr ⟨rfl, Or.inl ⟨_, rfl⟩⟩))) (by omega) rfl mG_CL mG_AT (le_Net_at hrun) (fun args s hts hNw => ?_) (fun p e s m args below meth c Q S hK hNw pc as2 M2 r M1 h => ?_) (by rw [hlen]; exact hrun)
  · have ht : ∀ w ∈ LW, w.before args s = true := fun w hw => hts w (List.mem_cons_of_mem _ hw)
    refine ⟨?_, ?_, ?_, ?_, ?_, ?_, ?_, ?_, ?_⟩
    · intro idx ci k key ty h
      unfold X_Net_at at h
      dsimp only [xF] at h
      split at h
      · cases h
        exact tf (r := (R_Net, F_Net, 3)) ht rfl (by decide) (by decide) rfl rfl cl_Net rfl (mT 29 (by decide +kernel) rfl) (fun _ h => h.elim)
      · cases h
        exact tf (r := (R_Net, F_Net, 3)) ht rfl (by decide) (by decide) rfl rfl cl_Net rfl (mT 30 (by decide +kernel) rfl) (fun _ h => h.elim)
      · cases h
    · exact tf_nil
    · exact fun _ _ _ _ _ _ (h : none = some _) => by cases h
    · exact tn_nil
    · exact ta_nil
    · exact fun (h : none = some _) => by cases h
    · exact fun (h : none = some _) => by cases h
    · exact fun _ _ (h : none = some _) => by cases h
    · exact fun h => absurd rfl h
  · exact False.elim h
theorem le_Net_take {ls : List (Option me_V)} {M N : me_M} {v : Option me_V} (h : RUN eL X_Net_take 0 ls [] M v N) : mSz M ≤ mSz N ∧ mSl M ≤ mSl N := by
  refine RUN.le (fun pc as M r M1 h => ?_) h
  unfold X_Net_take at h
  dsimp only [xCall] at h
  split at h
  · exact le_Net_at h.2.2
  · exact h.elim
theorem snd_Net_take {l : Launch} {B : Nat} {Dd : va_G} {cA : Nat → ClassId} {as : List me_V} {M N : me_M} {v : Option me_V} (hlen : as.length = 2) (hrun : RUN eL X_Net_take 0 (as.map some ++ List.replicate (4 - 2) none) [] M v N) : Met l y_Net_take (Cond.code y_Net_take b_Net_take 4 (some (.object "LeaderlessMap$Message")) :: LW) { frames := 1, cells := mSz N - mSz M, slots := mSl N - mSl M, locals := 21 } (me_Pc (mG B Dd cA) as M) (me_Qc (mG B Dd cA) v N) (mSz N - mSz M) (mSl N - mSl M) (fun q => B ≤ q) := by
  refine me_met (X := X_Net_take) (el := eL) (G := mG B Dd cA) (cc := b_Net_take) (maxL := 4) (ws' := LW) (ret := (some (.object "LeaderlessMap$Message"))) (by decide +kernel) rfl rfl (Or.inr (Or.inr (Or.inr ⟨rfl, Or.inl ⟨_, rfl⟩⟩))) (by omega) rfl mG_CL mG_AT (le_Net_take hrun) (fun args s hts hNw => ?_) (fun p e s m args below meth c Q S hK hNw pc as2 M2 r M1 h => ?_) (by rw [hlen]; exact hrun)
  · have ht : ∀ w ∈ LW, w.before args s = true := fun w hw => hts w (List.mem_cons_of_mem _ hw)
    refine ⟨?_, ?_, ?_, ?_, ?_, ?_, ?_, ?_, ?_⟩
    · intro idx ci k key ty h
      unfold X_Net_take at h
      dsimp only [xF] at h
      split at h
      · cases h
        exact tf (r := (R_Net, F_Net, 3)) ht rfl (by decide) (by decide) rfl rfl cl_Net rfl (mT 29 (by decide +kernel) rfl) (fun _ h => h.elim)
      · cases h
        exact tf (r := (R_Net, F_Net, 3)) ht rfl (by decide) (by decide) rfl rfl cl_Net rfl (mT 30 (by decide +kernel) rfl) (fun _ h => h.elim)
      · cases h
    · intro idx ci k key ty h
      unfold X_Net_take at h
      dsimp only [xG] at h
      split at h
      · cases h
        exact tf (r := (R_Net, F_Net, 3)) ht rfl (by decide) (by decide) rfl rfl cl_Net rfl (mT 30 (by decide +kernel) rfl) (fun _ _ => rfl)
      · cases h
    · intro idx ci k key ty r h hr hf
      unfold X_Net_take at h
      dsimp only [xG] at h
      split at h
      · cases h
        cases hr
        exact absurd hf (by decide)
      · cases h
    · exact tn_nil
    · exact ta_nil
    · exact fun (h : none = some _) => by cases h
    · exact fun (h : none = some _) => by cases h
    · exact fun _ _ (h : none = some _) => by cases h
    · exact fun h => absurd rfl h
  · unfold X_Net_take at h
    dsimp only [xCall] at h
    split at h
    · obtain ⟨⟨b0, t0, rfl, hk0⟩, hn0, hr0⟩ := h
      exact me_crV S hK mG_NW hNw (snd_Net_at hn0 hr0) (le_Net_at hr0).1 (le_Net_at hr0).2 (cwV (C := R_Net) 1 S.2.2.2.2 (gV cI (mT 356 (by decide +kernel) rfl) (mT 353 (by decide +kernel) rfl) (mT 354 (by decide +kernel) rfl) (mT 355 (by decide +kernel) rfl) (mT 2 (by decide +kernel) rfl)) rfl rfl rfl (by decide +kernel) ⟨Nat.le_of_ble_eq_true rfl, Nat.le_of_ble_eq_true rfl⟩) (by simp only [List.length_cons] at hn0; omega) hk0 (by decide) (q0 := (R_Net, F_Net, 3)) rfl rfl d_Net_take_2
    · exact h.elim
theorem le_Ms_asksForVote {ls : List (Option me_V)} {M N : me_M} {v : Option me_V} (h : RUN eL X_Ms_asksForVote 0 ls [] M v N) : mSz M ≤ mSz N ∧ mSl M ≤ mSl N := by
  refine RUN.le (fun pc as M r M1 h => ?_) h
  exact False.elim h
theorem snd_Ms_asksForVote {l : Launch} {B : Nat} {Dd : va_G} {cA : Nat → ClassId} {as : List me_V} {M N : me_M} {v : Option me_V} (hlen : as.length = 1) (hrun : RUN eL X_Ms_asksForVote 0 (as.map some ++ List.replicate (1 - 1) none) [] M v N) : Met l y_Ms_asksForVote (Cond.code y_Ms_asksForVote b_Ms_asksForVote 1 (some .boolean) :: LW) { frames := 0, cells := mSz N - mSz M, slots := mSl N - mSl M, locals := 0 } (me_Pc (mG B Dd cA) as M) (me_Qc (mG B Dd cA) v N) (mSz N - mSz M) (mSl N - mSl M) (fun q => B ≤ q) := by
  refine me_met (X := X_Ms_asksForVote) (el := eL) (G := mG B Dd cA) (cc := b_Ms_asksForVote) (maxL := 1) (ws' := LW) (ret := (some .boolean)) (by decide +kernel) rfl rfl (Or.inr (Or.inr (Or.inl ⟨rfl, rfl⟩))) (by omega) rfl mG_CL mG_AT (le_Ms_asksForVote hrun) (fun args s hts hNw => ?_) (fun p e s m args below meth c Q S hK hNw pc as2 M2 r M1 h => ?_) (by rw [hlen]; exact hrun)
  · have ht : ∀ w ∈ LW, w.before args s = true := fun w hw => hts w (List.mem_cons_of_mem _ hw)
    refine ⟨?_, ?_, ?_, ?_, ?_, ?_, ?_, ?_, ?_⟩
    · intro idx ci k key ty h
      unfold X_Ms_asksForVote at h
      dsimp only [xF] at h
      split at h
      · cases h
        exact tf (r := (R_Ms, F_Ms, 7)) ht rfl (by decide) (by decide) rfl rfl cl_Ms rfl (mT 285 (by decide +kernel) rfl) (fun _ h => h.elim)
      · cases h
    · exact tf_nil
    · exact fun _ _ _ _ _ _ (h : none = some _) => by cases h
    · exact tn_nil
    · exact ta_nil
    · exact fun (h : none = some _) => by cases h
    · exact fun (h : none = some _) => by cases h
    · exact fun _ _ (h : none = some _) => by cases h
    · exact fun h => absurd rfl h
  · exact False.elim h
theorem le_Rp_sendBack {ls : List (Option me_V)} {M N : me_M} {v : Option me_V} (h : RUN eL X_Rp_sendBack 0 ls [] M v N) : mSz M ≤ mSz N ∧ mSl M ≤ mSl N := by
  refine RUN.le (fun pc as M r M1 h => ?_) h
  unfold X_Rp_sendBack at h
  dsimp only [xCall] at h
  split at h
  · exact le_Ms_init h.2.2
  · exact le_Net_send h.2.2
  · exact h.elim
theorem snd_Rp_sendBack {l : Launch} {B : Nat} {Dd : va_G} {cA : Nat → ClassId} {as : List me_V} {M N : me_M} {v : Option me_V} (hlen : as.length = 5) (hrun : RUN eL X_Rp_sendBack 0 (as.map some ++ List.replicate (5 - 5) none) [] M v N) : Met l y_Rp_sendBack (Cond.code y_Rp_sendBack b_Rp_sendBack 5 none :: LW) { frames := 2, cells := mSz N - mSz M, slots := mSl N - mSl M, locals := 47 } (me_Pc (mG B Dd cA) as M) (me_Qc (mG B Dd cA) v N) (mSz N - mSz M) (mSl N - mSl M) (fun q => B ≤ q) := by
  refine me_met (X := X_Rp_sendBack) (el := eL) (G := mG B Dd cA) (cc := b_Rp_sendBack) (maxL := 5) (ws' := LW) (ret := none) (by decide +kernel) rfl rfl (Or.inl ⟨rfl, rfl⟩) (by omega) rfl mG_CL mG_AT (le_Rp_sendBack hrun) (fun args s hts hNw => ?_) (fun p e s m args below meth c Q S hK hNw pc as2 M2 r M1 h => ?_) (by rw [hlen]; exact hrun)
  · have ht : ∀ w ∈ LW, w.before args s = true := fun w hw => hts w (List.mem_cons_of_mem _ hw)
    refine ⟨?_, ?_, ?_, ?_, ?_, ?_, ?_, ?_, ?_⟩
    · intro idx ci k key ty h
      unfold X_Rp_sendBack at h
      dsimp only [xF] at h
      split at h
      · cases h
        exact tf (r := (R_Rp, F_Rp, 8)) ht rfl (by decide) (by decide) rfl rfl cl_Rp rfl (mT 111 (by decide +kernel) rfl) (fun _ h => h.elim)
      · cases h
        exact tf (r := (R_Rp, F_Rp, 8)) ht rfl (by decide) (by decide) rfl rfl cl_Rp rfl (mT 114 (by decide +kernel) rfl) (fun _ h => h.elim)
      · cases h
        exact tf (r := (R_Ms, F_Ms, 7)) ht rfl (by decide) (by decide) rfl rfl cl_Ms rfl (mT 294 (by decide +kernel) rfl) (fun _ h => h.elim)
      · cases h
        exact tf (r := (R_Ms, F_Ms, 7)) ht rfl (by decide) (by decide) rfl rfl cl_Ms rfl (mT 297 (by decide +kernel) rfl) (fun _ h => h.elim)
      · cases h
        exact tf (r := (R_Ms, F_Ms, 7)) ht rfl (by decide) (by decide) rfl rfl cl_Ms rfl (mT 290 (by decide +kernel) rfl) (fun _ h => h.elim)
      · cases h
    · exact tf_nil
    · exact fun _ _ _ _ _ _ (h : none = some _) => by cases h
    · intro idx ci n h
      unfold X_Rp_sendBack at h
      dsimp only [xN] at h
      split at h
      · cases h
        exact tn (r := (R_Ms, F_Ms, 7)) ht rfl (by decide) rfl cl_Ms (mT 279 (by decide +kernel) rfl) (mT 280 (by decide +kernel) rfl) (mT 11 (by decide +kernel) rfl)
      · cases h
    · exact ta_nil
    · exact fun (h : none = some _) => by cases h
    · exact fun (h : none = some _) => by cases h
    · exact fun _ _ (h : none = some _) => by cases h
    · exact fun h => absurd rfl h
  · unfold X_Rp_sendBack at h
    dsimp only [xCall] at h
    split at h
    · obtain ⟨⟨b0, t0, rfl, hk0⟩, hn0, hr0⟩ := h
      exact me_crI S hK mG_NW hNw (snd_Ms_init hn0 hr0) (le_Ms_init hr0).1 (le_Ms_init hr0).2 (cwI 7 S.2.2.2.2 (gI cI (mT 283 (by decide +kernel) rfl)) rfl rfl rfl (S.2.2.2.2 _ (cI _ (mT 11 (by decide +kernel) rfl))) (S.2.2.2.2 _ (cI _ (mT 281 (by decide +kernel) rfl))) (S.2.2.2.2 _ (cI _ (mT 282 (by decide +kernel) rfl))) rfl (by decide +kernel) ⟨Nat.le_of_ble_eq_true rfl, Nat.le_of_ble_eq_true rfl⟩) (by simp only [List.length_cons] at hn0; omega) d_Rp_sendBack_28
    · obtain ⟨⟨b0, t0, rfl, hk0⟩, hn0, hr0⟩ := h
      exact me_crV S hK mG_NW hNw (snd_Net_send hn0 hr0) (le_Net_send hr0).1 (le_Net_send hr0).2 (cwV (C := R_Net) 1 S.2.2.2.2 (gV cI (mT 320 (by decide +kernel) rfl) (mT 317 (by decide +kernel) rfl) (mT 318 (by decide +kernel) rfl) (mT 319 (by decide +kernel) rfl) (mT 2 (by decide +kernel) rfl)) rfl rfl rfl (by decide +kernel) ⟨Nat.le_of_ble_eq_true rfl, Nat.le_of_ble_eq_true rfl⟩) (by simp only [List.length_cons] at hn0; omega) hk0 (by decide) (q0 := (R_Net, F_Net, 3)) rfl rfl d_Rp_sendBack_31
    · exact h.elim
theorem le_En_vote {ls : List (Option me_V)} {M N : me_M} {v : Option me_V} (h : RUN eL X_En_vote 0 ls [] M v N) : mSz M ≤ mSz N ∧ mSl M ≤ mSl N := by
  refine RUN.le (fun pc as M r M1 h => ?_) h
  unfold X_En_vote at h
  dsimp only [xCall] at h
  split at h
  · exact le_En_become h.2.2
  · exact h.elim
theorem snd_En_vote {l : Launch} {B : Nat} {Dd : va_G} {cA : Nat → ClassId} {as : List me_V} {M N : me_M} {v : Option me_V} (hlen : as.length = 4) (hrun : RUN eL X_En_vote 0 (as.map some ++ List.replicate (4 - 4) none) [] M v N) : Met l y_En_vote (Cond.code y_En_vote b_En_vote 4 none :: LW) { frames := 1, cells := mSz N - mSz M, slots := mSl N - mSl M, locals := 22 } (me_Pc (mG B Dd cA) as M) (me_Qc (mG B Dd cA) v N) (mSz N - mSz M) (mSl N - mSl M) (fun q => B ≤ q) := by
  refine me_met (X := X_En_vote) (el := eL) (G := mG B Dd cA) (cc := b_En_vote) (maxL := 4) (ws' := LW) (ret := none) (by decide +kernel) rfl rfl (Or.inl ⟨rfl, rfl⟩) (by omega) rfl mG_CL mG_AT (le_En_vote hrun) (fun args s hts hNw => ?_) (fun p e s m args below meth c Q S hK hNw pc as2 M2 r M1 h => ?_) (by rw [hlen]; exact hrun)
  · have ht : ∀ w ∈ LW, w.before args s = true := fun w hw => hts w (List.mem_cons_of_mem _ hw)
    refine ⟨?_, ?_, ?_, ?_, ?_, ?_, ?_, ?_, ?_⟩
    · exact tf_nil
    · intro idx ci k key ty h
      unfold X_En_vote at h
      dsimp only [xG] at h
      split at h
      · cases h
        exact tf (r := (R_En, F_En, 6)) ht rfl (by decide) (by decide) rfl rfl cl_En rfl (mT 66 (by decide +kernel) rfl) (fun _ _ => rfl)
      · cases h
        exact tf (r := (R_En, F_En, 6)) ht rfl (by decide) (by decide) rfl rfl cl_En rfl (mT 69 (by decide +kernel) rfl) (fun _ _ => rfl)
      · cases h
    · intro idx ci k key ty r h hr hf
      unfold X_En_vote at h
      dsimp only [xG] at h
      split at h
      · cases h
        cases hr
        exact absurd hf (by decide)
      · cases h
        cases hr
        exact absurd hf (by decide)
      · cases h
    · exact tn_nil
    · exact ta_nil
    · exact fun (h : none = some _) => by cases h
    · exact fun (h : none = some _) => by cases h
    · exact fun _ _ (h : none = some _) => by cases h
    · exact fun h => absurd rfl h
  · unfold X_En_vote at h
    dsimp only [xCall] at h
    split at h
    · obtain ⟨⟨b0, t0, rfl, hk0⟩, hn0, hr0⟩ := h
      exact me_crV S hK mG_NW hNw (snd_En_become hn0 hr0) (le_En_become hr0).1 (le_En_become hr0).2 (cwV (C := R_En) 2 S.2.2.2.2 (gV cI (mT 239 (by decide +kernel) rfl) (mT 378 (by decide +kernel) rfl) (mT 237 (by decide +kernel) rfl) (mT 238 (by decide +kernel) rfl) (mT 4 (by decide +kernel) rfl)) rfl rfl rfl (by decide +kernel) ⟨Nat.le_of_ble_eq_true rfl, Nat.le_of_ble_eq_true rfl⟩) (by simp only [List.length_cons] at hn0; omega) hk0 (by decide) (q0 := (R_En, F_En, 6)) rfl rfl d_En_vote_13
    · exact h.elim
theorem le_Rp_onPreaccept {ls : List (Option me_V)} {M N : me_M} {v : Option me_V} (h : RUN eL X_Rp_onPreaccept 0 ls [] M v N) : mSz M ≤ mSz N ∧ mSl M ≤ mSl N := by
  refine RUN.le (fun pc as M r M1 h => ?_) h
  unfold X_Rp_onPreaccept at h
  dsimp only [xCall] at h
  split at h
  · exact le_Rp_fitted h.2.2
  · exact le_En_vote h.2.2
  · exact le_Rp_sendBack h.2.2
  · exact h.elim
theorem snd_Rp_onPreaccept {l : Launch} {B : Nat} {Dd : va_G} {cA : Nat → ClassId} {as : List me_V} {M N : me_M} {v : Option me_V} (hlen : as.length = 3) (hrun : RUN eL X_Rp_onPreaccept 0 (as.map some ++ List.replicate (4 - 3) none) [] M v N) : Met l y_Rp_onPreaccept (Cond.code y_Rp_onPreaccept b_Rp_onPreaccept 4 none :: LW) { frames := 3, cells := mSz N - mSz M, slots := mSl N - mSl M, locals := 71 } (me_Pc (mG B Dd cA) as M) (me_Qc (mG B Dd cA) v N) (mSz N - mSz M) (mSl N - mSl M) (fun q => B ≤ q) := by
  refine me_met (X := X_Rp_onPreaccept) (el := eL) (G := mG B Dd cA) (cc := b_Rp_onPreaccept) (maxL := 4) (ws' := LW) (ret := none) (by decide +kernel) rfl rfl (Or.inl ⟨rfl, rfl⟩) (by omega) rfl mG_CL mG_AT (le_Rp_onPreaccept hrun) (fun args s hts hNw => ?_) (fun p e s m args below meth c Q S hK hNw pc as2 M2 r M1 h => ?_) (by rw [hlen]; exact hrun)
  · have ht : ∀ w ∈ LW, w.before args s = true := fun w hw => hts w (List.mem_cons_of_mem _ hw)
    refine ⟨?_, ?_, ?_, ?_, ?_, ?_, ?_, ?_, ?_⟩
    · intro idx ci k key ty h
      unfold X_Rp_onPreaccept at h
      dsimp only [xF] at h
      split at h
      · cases h
        exact tf (r := (R_En, F_En, 6)) ht rfl (by decide) (by decide) rfl rfl cl_En rfl (mT 57 (by decide +kernel) rfl) (fun _ h => h.elim)
      · cases h
        exact tf (r := (R_En, F_En, 6)) ht rfl (by decide) (by decide) rfl rfl cl_En rfl (mT 65 (by decide +kernel) rfl) (fun _ h => h.elim)
      · cases h
        exact tf (r := (R_Ms, F_Ms, 7)) ht rfl (by decide) (by decide) rfl rfl cl_Ms rfl (mT 294 (by decide +kernel) rfl) (fun _ h => h.elim)
      · cases h
        exact tf (r := (R_En, F_En, 6)) ht rfl (by decide) (by decide) rfl rfl cl_En rfl (mT 63 (by decide +kernel) rfl) (fun _ h => h.elim)
      · cases h
        exact tf (r := (R_En, F_En, 6)) ht rfl (by decide) (by decide) rfl rfl cl_En rfl (mT 70 (by decide +kernel) rfl) (fun _ h => h.elim)
      · cases h
        exact tf (r := (R_Ms, F_Ms, 7)) ht rfl (by decide) (by decide) rfl rfl cl_Ms rfl (mT 297 (by decide +kernel) rfl) (fun _ h => h.elim)
      · cases h
        exact tf (r := (R_Ms, F_Ms, 7)) ht rfl (by decide) (by decide) rfl rfl cl_Ms rfl (mT 299 (by decide +kernel) rfl) (fun _ h => h.elim)
      · cases h
    · exact tf_nil
    · exact fun _ _ _ _ _ _ (h : none = some _) => by cases h
    · exact tn_nil
    · exact ta_nil
    · exact fun (h : none = some _) => by cases h
    · exact fun (h : none = some _) => by cases h
    · exact fun _ _ (h : none = some _) => by cases h
    · exact fun h => absurd rfl h
  · unfold X_Rp_onPreaccept at h
    dsimp only [xCall] at h
    split at h
    · obtain ⟨⟨b0, t0, rfl, hk0⟩, hn0, hr0⟩ := h
      exact me_crV S hK mG_NW hNw (snd_Rp_fitted hn0 hr0) (le_Rp_fitted hr0).1 (le_Rp_fitted hr0).2 (cwV (C := R_Rp) 2 S.2.2.2.2 (gV cI (mT 228 (by decide +kernel) rfl) (mT 225 (by decide +kernel) rfl) (mT 227 (by decide +kernel) rfl) (mS 3 (by decide +kernel) rfl) (mT 3 (by decide +kernel) rfl)) rfl rfl rfl (by decide +kernel) ⟨Nat.le_of_ble_eq_true rfl, Nat.le_of_ble_eq_true rfl⟩) (by simp only [List.length_cons] at hn0; omega) hk0 (by decide) (q0 := (R_Rp, F_Rp, 8)) rfl rfl d_Rp_onPreaccept_52
    · obtain ⟨⟨b0, t0, rfl, hk0⟩, hn0, hr0⟩ := h
      exact me_crV S hK mG_NW hNw (snd_En_vote hn0 hr0) (le_En_vote hr0).1 (le_En_vote hr0).2 (cwV (C := R_En) 3 S.2.2.2.2 (gV cI (mT 377 (by decide +kernel) rfl) (mT 374 (by decide +kernel) rfl) (mT 375 (by decide +kernel) rfl) (mT 376 (by decide +kernel) rfl) (mT 4 (by decide +kernel) rfl)) rfl rfl rfl (by decide +kernel) ⟨Nat.le_of_ble_eq_true rfl, Nat.le_of_ble_eq_true rfl⟩) (by simp only [List.length_cons] at hn0; omega) hk0 (by decide) (q0 := (R_En, F_En, 6)) rfl rfl d_Rp_onPreaccept_59
    · obtain ⟨⟨b0, t0, rfl, hk0⟩, hn0, hr0⟩ := h
      exact me_crV S hK mG_NW hNw (snd_Rp_sendBack hn0 hr0) (le_Rp_sendBack hr0).1 (le_Rp_sendBack hr0).2 (cwV (C := R_Rp) 4 S.2.2.2.2 (gV cI (mT 369 (by decide +kernel) rfl) (mT 366 (by decide +kernel) rfl) (mT 368 (by decide +kernel) rfl) (mS 7 (by decide +kernel) rfl) (mT 3 (by decide +kernel) rfl)) rfl rfl rfl (by decide +kernel) ⟨Nat.le_of_ble_eq_true rfl, Nat.le_of_ble_eq_true rfl⟩) (by simp only [List.length_cons] at hn0; omega) hk0 (by decide) (q0 := (R_Rp, F_Rp, 8)) rfl rfl d_Rp_onPreaccept_70
    · exact h.elim
theorem le_Rp_liveAttempt {ls : List (Option me_V)} {M N : me_M} {v : Option me_V} (h : RUN eL X_Rp_liveAttempt 0 ls [] M v N) : mSz M ≤ mSz N ∧ mSl M ≤ mSl N := by
  refine RUN.le (fun pc as M r M1 h => ?_) h
  unfold X_Rp_liveAttempt at h
  dsimp only [xCall] at h
  split at h
  · exact le_En_isSettled h.2.2
  · exact h.elim
theorem snd_Rp_liveAttempt {l : Launch} {B : Nat} {Dd : va_G} {cA : Nat → ClassId} {as : List me_V} {M N : me_M} {v : Option me_V} (hlen : as.length = 3) (hrun : RUN eL X_Rp_liveAttempt 0 (as.map some ++ List.replicate (5 - 3) none) [] M v N) : Met l y_Rp_liveAttempt (Cond.code y_Rp_liveAttempt b_Rp_liveAttempt 5 (some (.object "LeaderlessMap$Attempt")) :: LW) { frames := 1, cells := mSz N - mSz M, slots := mSl N - mSl M, locals := 20 } (me_Pc (mG B Dd cA) as M) (me_Qc (mG B Dd cA) v N) (mSz N - mSz M) (mSl N - mSl M) (fun q => B ≤ q) := by
  refine me_met (X := X_Rp_liveAttempt) (el := eL) (G := mG B Dd cA) (cc := b_Rp_liveAttempt) (maxL := 5) (ws' := LW) (ret := (some (.object "LeaderlessMap$Attempt"))) (by decide +kernel) rfl rfl (Or.inr (Or.inr (Or.inr ⟨rfl, Or.inl ⟨_, rfl⟩⟩))) (by omega) rfl mG_CL mG_AT (le_Rp_liveAttempt hrun) (fun args s hts hNw => ?_) (fun p e s m args below meth c Q S hK hNw pc as2 M2 r M1 h => ?_) (by rw [hlen]; exact hrun)
  · have ht : ∀ w ∈ LW, w.before args s = true := fun w hw => hts w (List.mem_cons_of_mem _ hw)
    refine ⟨?_, ?_, ?_, ?_, ?_, ?_, ?_, ?_, ?_⟩
    · intro idx ci k key ty h
      unfold X_Rp_liveAttempt at h
      dsimp only [xF] at h
      split at h
      · cases h
        exact tf (r := (R_Rp, F_Rp, 8)) ht rfl (by decide) (by decide) rfl rfl cl_Rp rfl (mT 115 (by decide +kernel) rfl) (fun _ h => h.elim)
      · cases h
        exact tf (r := (R_Rp, F_Rp, 8)) ht rfl (by decide) (by decide) rfl rfl cl_Rp rfl (mT 117 (by decide +kernel) rfl) (fun _ h => h.elim)
      · cases h
        exact tf (r := (R_En, F_En, 6)) ht rfl (by decide) (by decide) rfl rfl cl_En rfl (mT 65 (by decide +kernel) rfl) (fun _ h => h.elim)
      · cases h
        exact tf (r := (R_Ms, F_Ms, 7)) ht rfl (by decide) (by decide) rfl rfl cl_Ms rfl (mT 294 (by decide +kernel) rfl) (fun _ h => h.elim)
      · cases h
        exact tf (r := (R_Ms, F_Ms, 7)) ht rfl (by decide) (by decide) rfl rfl cl_Ms rfl (mT 297 (by decide +kernel) rfl) (fun _ h => h.elim)
      · cases h
        exact tf (r := (R_At, F_At, 8)) ht rfl (by decide) (by decide) rfl rfl cl_At rfl (mT 248 (by decide +kernel) rfl) (fun _ h => h.elim)
      · cases h
        exact tf (r := (R_At, F_At, 8)) ht rfl (by decide) (by decide) rfl rfl cl_At rfl (mT 253 (by decide +kernel) rfl) (fun _ h => h.elim)
      · cases h
    · exact tf_nil
    · exact fun _ _ _ _ _ _ (h : none = some _) => by cases h
    · exact tn_nil
    · exact ta_nil
    · exact fun (h : none = some _) => by cases h
    · exact fun (h : none = some _) => by cases h
    · exact fun _ _ (h : none = some _) => by cases h
    · exact fun h => absurd rfl h
  · unfold X_Rp_liveAttempt at h
    dsimp only [xCall] at h
    split at h
    · obtain ⟨⟨b0, t0, rfl, hk0⟩, hn0, hr0⟩ := h
      exact me_crV S hK mG_NW hNw (snd_En_isSettled hn0 hr0) (le_En_isSettled hr0).1 (le_En_isSettled hr0).2 (cwV (C := R_En) 0 S.2.2.2.2 (gV cI (mT 332 (by decide +kernel) rfl) (mT 365 (by decide +kernel) rfl) (mT 330 (by decide +kernel) rfl) (mT 331 (by decide +kernel) rfl) (mT 4 (by decide +kernel) rfl)) rfl rfl rfl (by decide +kernel) ⟨Nat.le_of_ble_eq_true rfl, Nat.le_of_ble_eq_true rfl⟩) (by simp only [List.length_cons] at hn0; omega) hk0 (by decide) (q0 := (R_En, F_En, 6)) rfl rfl d_Rp_liveAttempt_60
    · exact h.elim
theorem le_At_countOrder {ls : List (Option me_V)} {M N : me_M} {v : Option me_V} (h : RUN eL X_At_countOrder 0 ls [] M v N) : mSz M ≤ mSz N ∧ mSl M ≤ mSl N := by
  refine RUN.le (fun pc as M r M1 h => ?_) h
  unfold X_At_countOrder at h
  dsimp only [xCall] at h
  split at h
  · obtain ⟨_, _, _, _, e⟩ := h
    rw [e]; exact ⟨Nat.le_refl _, Nat.le_refl _⟩
  · exact h.elim
theorem snd_At_countOrder {l : Launch} {B : Nat} {Dd : va_G} {cA : Nat → ClassId} {as : List me_V} {M N : me_M} {v : Option me_V} (hlen : as.length = 2) (hrun : RUN eL X_At_countOrder 0 (as.map some ++ List.replicate (2 - 2) none) [] M v N) : Met l y_At_countOrder (Cond.code y_At_countOrder b_At_countOrder 2 none :: LW) { frames := 1, cells := mSz N - mSz M, slots := mSl N - mSl M, locals := 21 } (me_Pc (mG B Dd cA) as M) (me_Qc (mG B Dd cA) v N) (mSz N - mSz M) (mSl N - mSl M) (fun q => B ≤ q) := by
  refine me_met (X := X_At_countOrder) (el := eL) (G := mG B Dd cA) (cc := b_At_countOrder) (maxL := 2) (ws' := LW) (ret := none) (by decide +kernel) rfl rfl (Or.inl ⟨rfl, rfl⟩) (by omega) rfl mG_CL mG_AT (le_At_countOrder hrun) (fun args s hts hNw => ?_) (fun p e s m args below meth c Q S hK hNw pc as2 M2 r M1 h => ?_) (by rw [hlen]; exact hrun)
  · have ht : ∀ w ∈ LW, w.before args s = true := fun w hw => hts w (List.mem_cons_of_mem _ hw)
    refine ⟨?_, ?_, ?_, ?_, ?_, ?_, ?_, ?_, ?_⟩
    · intro idx ci k key ty h
      unfold X_At_countOrder at h
      dsimp only [xF] at h
      split at h
      · cases h
        exact tf (r := (R_At, F_At, 8)) ht rfl (by decide) (by decide) rfl rfl cl_At rfl (mT 254 (by decide +kernel) rfl) (fun _ h => h.elim)
      · cases h
        exact tf (r := (R_At, F_At, 8)) ht rfl (by decide) (by decide) rfl rfl cl_At rfl (mT 256 (by decide +kernel) rfl) (fun _ h => h.elim)
      · cases h
        exact tf (r := (R_Or, F_Or, 3)) ht rfl (by decide) (by decide) rfl rfl cl_Or rfl (mT 209 (by decide +kernel) rfl) (fun _ h => h.elim)
      · cases h
        exact tf (r := (R_At, F_At, 8)) ht rfl (by decide) (by decide) rfl rfl cl_At rfl (mT 258 (by decide +kernel) rfl) (fun _ h => h.elim)
      · cases h
        exact tf (r := (R_Or, F_Or, 3)) ht rfl (by decide) (by decide) rfl rfl cl_Or rfl (mT 214 (by decide +kernel) rfl) (fun _ h => h.elim)
      · cases h
        exact tf (r := (R_At, F_At, 8)) ht rfl (by decide) (by decide) rfl rfl cl_At rfl (mT 260 (by decide +kernel) rfl) (fun _ h => h.elim)
      · cases h
    · intro idx ci k key ty h
      unfold X_At_countOrder at h
      dsimp only [xG] at h
      split at h
      · cases h
        exact tf (r := (R_At, F_At, 8)) ht rfl (by decide) (by decide) rfl rfl cl_At rfl (mT 254 (by decide +kernel) rfl) (fun _ _ => rfl)
      · cases h
        exact tf (r := (R_At, F_At, 8)) ht rfl (by decide) (by decide) rfl rfl cl_At rfl (mT 256 (by decide +kernel) rfl) (fun _ _ => rfl)
      · cases h
        exact tf (r := (R_At, F_At, 8)) ht rfl (by decide) (by decide) rfl rfl cl_At rfl (mT 258 (by decide +kernel) rfl) (fun _ _ => rfl)
      · cases h
        exact tf (r := (R_At, F_At, 8)) ht rfl (by decide) (by decide) rfl rfl cl_At rfl (mT 260 (by decide +kernel) rfl) (fun _ _ => rfl)
      · cases h
    · intro idx ci k key ty r h hr hf
      unfold X_At_countOrder at h
      dsimp only [xG] at h
      split at h
      · cases h
        cases hr
        exact absurd hf (by decide)
      · cases h
        cases hr
        exact absurd hf (by decide)
      · cases h
        cases hr
        exact absurd hf (by decide)
      · cases h
        cases hr
        exact absurd hf (by decide)
      · cases h
    · exact tn_nil
    · exact ta_nil
    · exact fun (h : none = some _) => by cases h
    · exact fun (h : none = some _) => by cases h
    · exact fun _ _ (h : none = some _) => by cases h
    · exact fun h => absurd rfl h
  · unfold X_At_countOrder at h
    dsimp only [xCall] at h
    split at h
    · exact me_crMax S cI (mT 391 (by decide +kernel) rfl) (mT 234 (by decide +kernel) rfl) (mT 9 (by decide +kernel) rfl) (mT 235 (by decide +kernel) rfl) (Nat.le_of_ble_eq_true rfl) (Nat.le_of_ble_eq_true rfl) d_At_countOrder_68 h
    · exact h.elim
theorem le_Rp_commitHere {ls : List (Option me_V)} {M N : me_M} {v : Option me_V} (h : RUN eL X_Rp_commitHere 0 ls [] M v N) : mSz M ≤ mSz N ∧ mSl M ≤ mSl N := by
  refine RUN.le (fun pc as M r M1 h => ?_) h
  unfold X_Rp_commitHere at h
  dsimp only [xCall] at h
  split at h
  · exact le_En_become h.2.2
  · exact le_Rp_sendToOthers h.2.2
  · exact h.elim
theorem snd_Rp_commitHere {l : Launch} {B : Nat} {Dd : va_G} {cA : Nat → ClassId} {as : List me_V} {M N : me_M} {v : Option me_V} (hlen : as.length = 3) (hrun : RUN eL X_Rp_commitHere 0 (as.map some ++ List.replicate (3 - 3) none) [] M v N) : Met l y_Rp_commitHere (Cond.code y_Rp_commitHere b_Rp_commitHere 3 none :: LW) { frames := 3, cells := mSz N - mSz M, slots := mSl N - mSl M, locals := 72 } (me_Pc (mG B Dd cA) as M) (me_Qc (mG B Dd cA) v N) (mSz N - mSz M) (mSl N - mSl M) (fun q => B ≤ q) := by
  refine me_met (X := X_Rp_commitHere) (el := eL) (G := mG B Dd cA) (cc := b_Rp_commitHere) (maxL := 3) (ws' := LW) (ret := none) (by decide +kernel) rfl rfl (Or.inl ⟨rfl, rfl⟩) (by omega) rfl mG_CL mG_AT (le_Rp_commitHere hrun) (fun args s hts hNw => ?_) (fun p e s m args below meth c Q S hK hNw pc as2 M2 r M1 h => ?_) (by rw [hlen]; exact hrun)
  · have ht : ∀ w ∈ LW, w.before args s = true := fun w hw => hts w (List.mem_cons_of_mem _ hw)
    refine ⟨?_, ?_, ?_, ?_, ?_, ?_, ?_, ?_, ?_⟩
    · intro idx ci k key ty h
      unfold X_Rp_commitHere at h
      dsimp only [xF] at h
      split at h
      · cases h
        exact tf (r := (R_Rp, F_Rp, 8)) ht rfl (by decide) (by decide) rfl rfl cl_Rp rfl (mT 115 (by decide +kernel) rfl) (fun _ h => h.elim)
      · cases h
    · exact tf_nil
    · exact fun _ _ _ _ _ _ (h : none = some _) => by cases h
    · exact tn_nil
    · exact ta_nil
    · exact fun (h : none = some _) => by cases h
    · exact fun (h : none = some _) => by cases h
    · exact fun _ _ (h : none = some _) => by cases h
    · exact fun h => absurd rfl h
  · unfold X_Rp_commitHere at h
    dsimp only [xCall] at h
    split at h
    · obtain ⟨⟨b0, t0, rfl, hk0⟩, hn0, hr0⟩ := h
      exact me_crV S hK mG_NW hNw (snd_En_become hn0 hr0) (le_En_become hr0).1 (le_En_become hr0).2 (cwV (C := R_En) 2 S.2.2.2.2 (gV cI (mT 239 (by decide +kernel) rfl) (mT 236 (by decide +kernel) rfl) (mT 237 (by decide +kernel) rfl) (mT 238 (by decide +kernel) rfl) (mT 4 (by decide +kernel) rfl)) rfl rfl rfl (by decide +kernel) ⟨Nat.le_of_ble_eq_true rfl, Nat.le_of_ble_eq_true rfl⟩) (by simp only [List.length_cons] at hn0; omega) hk0 (by decide) (q0 := (R_En, F_En, 6)) rfl rfl d_Rp_commitHere_8
    · obtain ⟨⟨b0, t0, rfl, hk0⟩, hn0, hr0⟩ := h
      exact me_crV S hK mG_NW hNw (snd_Rp_sendToOthers hn0 hr0) (le_Rp_sendToOthers hr0).1 (le_Rp_sendToOthers hr0).2 (cwV (C := R_Rp) 4 S.2.2.2.2 (gV cI (mT 344 (by decide +kernel) rfl) (mT 341 (by decide +kernel) rfl) (mT 343 (by decide +kernel) rfl) (mS 6 (by decide +kernel) rfl) (mT 3 (by decide +kernel) rfl)) rfl rfl rfl (by decide +kernel) ⟨Nat.le_of_ble_eq_true rfl, Nat.le_of_ble_eq_true rfl⟩) (by simp only [List.length_cons] at hn0; omega) hk0 (by decide) (q0 := (R_Rp, F_Rp, 8)) rfl rfl d_Rp_commitHere_16
    · exact h.elim
theorem le_At_enterPhase {ls : List (Option me_V)} {M N : me_M} {v : Option me_V} (h : RUN eL X_At_enterPhase 0 ls [] M v N) : mSz M ≤ mSz N ∧ mSl M ≤ mSl N := by
  refine RUN.le (fun pc as M r M1 h => ?_) h
  exact False.elim h
theorem snd_At_enterPhase {l : Launch} {B : Nat} {Dd : va_G} {cA : Nat → ClassId} {as : List me_V} {M N : me_M} {v : Option me_V} (hlen : as.length = 2) (hrun : RUN eL X_At_enterPhase 0 (as.map some ++ List.replicate (2 - 2) none) [] M v N) : Met l y_At_enterPhase (Cond.code y_At_enterPhase b_At_enterPhase 2 none :: LW) { frames := 0, cells := mSz N - mSz M, slots := mSl N - mSl M, locals := 0 } (me_Pc (mG B Dd cA) as M) (me_Qc (mG B Dd cA) v N) (mSz N - mSz M) (mSl N - mSl M) (fun q => B ≤ q) := by
  refine me_met (X := X_At_enterPhase) (el := eL) (G := mG B Dd cA) (cc := b_At_enterPhase) (maxL := 2) (ws' := LW) (ret := none) (by decide +kernel) rfl rfl (Or.inl ⟨rfl, rfl⟩) (by omega) rfl mG_CL mG_AT (le_At_enterPhase hrun) (fun args s hts hNw => ?_) (fun p e s m args below meth c Q S hK hNw pc as2 M2 r M1 h => ?_) (by rw [hlen]; exact hrun)
  · have ht : ∀ w ∈ LW, w.before args s = true := fun w hw => hts w (List.mem_cons_of_mem _ hw)
    refine ⟨?_, ?_, ?_, ?_, ?_, ?_, ?_, ?_, ?_⟩
    · exact tf_nil
    · intro idx ci k key ty h
      unfold X_At_enterPhase at h
      dsimp only [xG] at h
      split at h
      · cases h
        exact tf (r := (R_At, F_At, 8)) ht rfl (by decide) (by decide) rfl rfl cl_At rfl (mT 252 (by decide +kernel) rfl) (fun _ _ => rfl)
      · cases h
        exact tf (r := (R_At, F_At, 8)) ht rfl (by decide) (by decide) rfl rfl cl_At rfl (mT 254 (by decide +kernel) rfl) (fun _ _ => rfl)
      · cases h
    · intro idx ci k key ty r h hr hf
      unfold X_At_enterPhase at h
      dsimp only [xG] at h
      split at h
      · cases h
        cases hr
        exact absurd hf (by decide)
      · cases h
        cases hr
        exact absurd hf (by decide)
      · cases h
    · exact tn_nil
    · exact ta_nil
    · exact fun (h : none = some _) => by cases h
    · exact fun (h : none = some _) => by cases h
    · exact fun _ _ (h : none = some _) => by cases h
    · exact fun h => absurd rfl h
  · exact False.elim h
theorem le_Rp_beginAccepting {ls : List (Option me_V)} {M N : me_M} {v : Option me_V} (h : RUN eL X_Rp_beginAccepting 0 ls [] M v N) : mSz M ≤ mSz N ∧ mSl M ≤ mSl N := by
  refine RUN.le (fun pc as M r M1 h => ?_) h
  unfold X_Rp_beginAccepting at h
  dsimp only [xCall] at h
  split at h
  · exact le_En_vote h.2.2
  · exact le_At_enterPhase h.2.2
  · exact le_Rp_sendToOthers h.2.2
  · exact h.elim
theorem snd_Rp_beginAccepting {l : Launch} {B : Nat} {Dd : va_G} {cA : Nat → ClassId} {as : List me_V} {M N : me_M} {v : Option me_V} (hlen : as.length = 4) (hrun : RUN eL X_Rp_beginAccepting 0 (as.map some ++ List.replicate (4 - 4) none) [] M v N) : Met l y_Rp_beginAccepting (Cond.code y_Rp_beginAccepting b_Rp_beginAccepting 4 none :: LW) { frames := 3, cells := mSz N - mSz M, slots := mSl N - mSl M, locals := 72 } (me_Pc (mG B Dd cA) as M) (me_Qc (mG B Dd cA) v N) (mSz N - mSz M) (mSl N - mSl M) (fun q => B ≤ q) := by
  refine me_met (X := X_Rp_beginAccepting) (el := eL) (G := mG B Dd cA) (cc := b_Rp_beginAccepting) (maxL := 4) (ws' := LW) (ret := none) (by decide +kernel) rfl rfl (Or.inl ⟨rfl, rfl⟩) (by omega) rfl mG_CL mG_AT (le_Rp_beginAccepting hrun) (fun args s hts hNw => ?_) (fun p e s m args below meth c Q S hK hNw pc as2 M2 r M1 h => ?_) (by rw [hlen]; exact hrun)
  · have ht : ∀ w ∈ LW, w.before args s = true := fun w hw => hts w (List.mem_cons_of_mem _ hw)
    refine ⟨?_, ?_, ?_, ?_, ?_, ?_, ?_, ?_, ?_⟩
    · intro idx ci k key ty h
      unfold X_Rp_beginAccepting at h
      dsimp only [xF] at h
      split at h
      · cases h
        exact tf (r := (R_Rp, F_Rp, 8)) ht rfl (by decide) (by decide) rfl rfl cl_Rp rfl (mT 115 (by decide +kernel) rfl) (fun _ h => h.elim)
      · cases h
        exact tf (r := (R_At, F_At, 8)) ht rfl (by decide) (by decide) rfl rfl cl_At rfl (mT 248 (by decide +kernel) rfl) (fun _ h => h.elim)
      · cases h
    · exact tf_nil
    · exact fun _ _ _ _ _ _ (h : none = some _) => by cases h
    · exact tn_nil
    · exact ta_nil
    · exact fun (h : none = some _) => by cases h
    · exact fun (h : none = some _) => by cases h
    · exact fun _ _ (h : none = some _) => by cases h
    · exact fun h => absurd rfl h
  · unfold X_Rp_beginAccepting at h
    dsimp only [xCall] at h
    split at h
    · obtain ⟨⟨b0, t0, rfl, hk0⟩, hn0, hr0⟩ := h
      exact me_crV S hK mG_NW hNw (snd_En_vote hn0 hr0) (le_En_vote hr0).1 (le_En_vote hr0).2 (cwV (C := R_En) 3 S.2.2.2.2 (gV cI (mT 377 (by decide +kernel) rfl) (mT 374 (by decide +kernel) rfl) (mT 375 (by decide +kernel) rfl) (mT 376 (by decide +kernel) rfl) (mT 4 (by decide +kernel) rfl)) rfl rfl rfl (by decide +kernel) ⟨Nat.le_of_ble_eq_true rfl, Nat.le_of_ble_eq_true rfl⟩) (by simp only [List.length_cons] at hn0; omega) hk0 (by decide) (q0 := (R_En, F_En, 6)) rfl rfl d_Rp_beginAccepting_12
    · obtain ⟨⟨b0, t0, rfl, hk0⟩, hn0, hr0⟩ := h
      exact me_crV S hK mG_NW hNw (snd_At_enterPhase hn0 hr0) (le_At_enterPhase hr0).1 (le_At_enterPhase hr0).2 (cwV (C := R_At) 1 S.2.2.2.2 (gV cI (mT 403 (by decide +kernel) rfl) (mT 400 (by decide +kernel) rfl) (mT 401 (by decide +kernel) rfl) (mT 402 (by decide +kernel) rfl) (mT 10 (by decide +kernel) rfl)) rfl rfl rfl (by decide +kernel) ⟨Nat.le_of_ble_eq_true rfl, Nat.le_of_ble_eq_true rfl⟩) (by simp only [List.length_cons] at hn0; omega) hk0 (by decide) (q0 := (R_At, F_At, 8)) rfl rfl d_Rp_beginAccepting_17
    · obtain ⟨⟨b0, t0, rfl, hk0⟩, hn0, hr0⟩ := h
      exact me_crV S hK mG_NW hNw (snd_Rp_sendToOthers hn0 hr0) (le_Rp_sendToOthers hr0).1 (le_Rp_sendToOthers hr0).2 (cwV (C := R_Rp) 4 S.2.2.2.2 (gV cI (mT 344 (by decide +kernel) rfl) (mT 341 (by decide +kernel) rfl) (mT 343 (by decide +kernel) rfl) (mS 6 (by decide +kernel) rfl) (mT 3 (by decide +kernel) rfl)) rfl rfl rfl (by decide +kernel) ⟨Nat.le_of_ble_eq_true rfl, Nat.le_of_ble_eq_true rfl⟩) (by simp only [List.length_cons] at hn0; omega) hk0 (by decide) (q0 := (R_Rp, F_Rp, 8)) rfl rfl d_Rp_beginAccepting_28
    · exact h.elim
