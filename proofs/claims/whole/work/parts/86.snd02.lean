theorem le_Rp_onPreacceptOk {ls : List (Option me_V)} {M N : me_M} {v : Option me_V} (h : RUN eL X_Rp_onPreacceptOk 0 ls [] M v N) : mSz M ≤ mSz N ∧ mSl M ≤ mSl N := by
  refine RUN.le (fun pc as M r M1 h => ?_) h
  unfold X_Rp_onPreacceptOk at h
  dsimp only [xCall] at h
  split at h
  · exact le_Rp_liveAttempt h.2.2
  · exact le_At_countOrder h.2.2
  · exact le_Or_init h.2.2
  · exact le_Rp_commitHere h.2.2
  · exact le_Rp_beginAccepting h.2.2
  · exact h.elim
theorem snd_Rp_onPreacceptOk {l : Launch} {B : Nat} {Dd : va_G} {cA : Nat → ClassId} {as : List me_V} {M N : me_M} {v : Option me_V} (hlen : as.length = 2) (hrun : RUN eL X_Rp_onPreacceptOk 0 (as.map some ++ List.replicate (6 - 2) none) [] M v N) : Met l y_Rp_onPreacceptOk (Cond.code y_Rp_onPreacceptOk b_Rp_onPreacceptOk 6 none :: LW) { frames := 4, cells := mSz N - mSz M, slots := mSl N - mSl M, locals := 95 } (me_Pc (mG B Dd cA) as M) (me_Qc (mG B Dd cA) v N) (mSz N - mSz M) (mSl N - mSl M) (fun q => B ≤ q) := by
  refine me_met (X := X_Rp_onPreacceptOk) (el := eL) (G := mG B Dd cA) (cc := b_Rp_onPreacceptOk) (maxL := 6) (ws' := LW) (ret := none) (by decide +kernel) rfl rfl (Or.inl ⟨rfl, rfl⟩) (by omega) rfl mG_CL mG_AT (le_Rp_onPreacceptOk hrun) (fun args s hts hNw => ?_) (fun p e s m args below meth c Q S hK hNw pc as2 M2 r M1 h => ?_) (by rw [hlen]; exact hrun)
  · have ht : ∀ w ∈ LW, w.before args s = true := fun w hw => hts w (List.mem_cons_of_mem _ hw)
    refine ⟨?_, ?_, ?_, ?_, ?_, ?_, ?_, ?_, ?_⟩
    · intro idx ci k key ty h
      unfold X_Rp_onPreacceptOk at h
      dsimp only [xF] at h
      split at h
      · cases h
        exact tf (r := (R_Rp, F_Rp, 8)) ht rfl (by decide) (by decide) rfl rfl cl_Rp rfl (mT 112 (by decide +kernel) rfl) (fun _ h => h.elim)
      · cases h
        exact tf (r := (R_Rp, F_Rp, 8)) ht rfl (by decide) (by decide) rfl rfl cl_Rp rfl (mT 113 (by decide +kernel) rfl) (fun _ h => h.elim)
      · cases h
        exact tf (r := (R_Rp, F_Rp, 8)) ht rfl (by decide) (by decide) rfl rfl cl_Rp rfl (mT 115 (by decide +kernel) rfl) (fun _ h => h.elim)
      · cases h
        exact tf (r := (R_Ms, F_Ms, 7)) ht rfl (by decide) (by decide) rfl rfl cl_Ms rfl (mT 294 (by decide +kernel) rfl) (fun _ h => h.elim)
      · cases h
        exact tf (r := (R_En, F_En, 6)) ht rfl (by decide) (by decide) rfl rfl cl_En rfl (mT 63 (by decide +kernel) rfl) (fun _ h => h.elim)
      · cases h
        exact tf (r := (R_Ms, F_Ms, 7)) ht rfl (by decide) (by decide) rfl rfl cl_Ms rfl (mT 299 (by decide +kernel) rfl) (fun _ h => h.elim)
      · cases h
        exact tf (r := (R_Or, F_Or, 3)) ht rfl (by decide) (by decide) rfl rfl cl_Or rfl (mT 205 (by decide +kernel) rfl) (fun _ h => h.elim)
      · cases h
        exact tf (r := (R_At, F_At, 8)) ht rfl (by decide) (by decide) rfl rfl cl_At rfl (mT 259 (by decide +kernel) rfl) (fun _ h => h.elim)
      · cases h
        exact tf (r := (R_At, F_At, 8)) ht rfl (by decide) (by decide) rfl rfl cl_At rfl (mT 261 (by decide +kernel) rfl) (fun _ h => h.elim)
      · cases h
        exact tf (r := (R_At, F_At, 8)) ht rfl (by decide) (by decide) rfl rfl cl_At rfl (mT 250 (by decide +kernel) rfl) (fun _ h => h.elim)
      · cases h
        exact tf (r := (R_At, F_At, 8)) ht rfl (by decide) (by decide) rfl rfl cl_At rfl (mT 257 (by decide +kernel) rfl) (fun _ h => h.elim)
      · cases h
        exact tf (r := (R_At, F_At, 8)) ht rfl (by decide) (by decide) rfl rfl cl_At rfl (mT 255 (by decide +kernel) rfl) (fun _ h => h.elim)
      · cases h
    · exact tf_nil
    · exact fun _ _ _ _ _ _ (h : none = some _) => by cases h
    · intro idx ci n h
      unfold X_Rp_onPreacceptOk at h
      dsimp only [xN] at h
      split at h
      · cases h
        exact tn (r := (R_Or, F_Or, 3)) ht rfl (by decide) rfl cl_Or (mT 198 (by decide +kernel) rfl) (mT 199 (by decide +kernel) rfl) (mT 8 (by decide +kernel) rfl)
      · cases h
    · exact ta_nil
    · exact fun (h : none = some _) => by cases h
    · exact fun (h : none = some _) => by cases h
    · exact fun _ _ (h : none = some _) => by cases h
    · exact fun h => absurd rfl h
  · unfold X_Rp_onPreacceptOk at h
    dsimp only [xCall] at h
    split at h
    · obtain ⟨⟨b0, t0, rfl, hk0⟩, hn0, hr0⟩ := h
      exact me_crV S hK mG_NW hNw (snd_Rp_liveAttempt hn0 hr0) (le_Rp_liveAttempt hr0).1 (le_Rp_liveAttempt hr0).2 (cwV (C := R_Rp) 2 S.2.2.2.2 (gV cI (mT 386 (by decide +kernel) rfl) (mT 383 (by decide +kernel) rfl) (mT 385 (by decide +kernel) rfl) (mS 10 (by decide +kernel) rfl) (mT 3 (by decide +kernel) rfl)) rfl rfl rfl (by decide +kernel) ⟨Nat.le_of_ble_eq_true rfl, Nat.le_of_ble_eq_true rfl⟩) (by simp only [List.length_cons] at hn0; omega) hk0 (by decide) (q0 := (R_Rp, F_Rp, 8)) rfl rfl d_Rp_onPreacceptOk_3
    · obtain ⟨⟨b0, t0, rfl, hk0⟩, hn0, hr0⟩ := h
      exact me_crV S hK mG_NW hNw (snd_At_countOrder hn0 hr0) (le_At_countOrder hr0).1 (le_At_countOrder hr0).2 (cwV (C := R_At) 1 S.2.2.2.2 (gV cI (mT 390 (by decide +kernel) rfl) (mT 387 (by decide +kernel) rfl) (mT 388 (by decide +kernel) rfl) (mT 389 (by decide +kernel) rfl) (mT 10 (by decide +kernel) rfl)) rfl rfl rfl (by decide +kernel) ⟨Nat.le_of_ble_eq_true rfl, Nat.le_of_ble_eq_true rfl⟩) (by simp only [List.length_cons] at hn0; omega) hk0 (by decide) (q0 := (R_At, F_At, 8)) rfl rfl d_Rp_onPreacceptOk_17
    · obtain ⟨⟨b0, t0, rfl, hk0⟩, hn0, hr0⟩ := h
      exact me_crI S hK mG_NW hNw (snd_Or_init hn0 hr0) (le_Or_init hr0).1 (le_Or_init hr0).2 (cwI 3 S.2.2.2.2 (gI cI (mT 202 (by decide +kernel) rfl)) rfl rfl rfl (S.2.2.2.2 _ (cI _ (mT 8 (by decide +kernel) rfl))) (S.2.2.2.2 _ (cI _ (mT 200 (by decide +kernel) rfl))) (S.2.2.2.2 _ (cI _ (mT 201 (by decide +kernel) rfl))) rfl (by decide +kernel) ⟨Nat.le_of_ble_eq_true rfl, Nat.le_of_ble_eq_true rfl⟩) (by simp only [List.length_cons] at hn0; omega) d_Rp_onPreacceptOk_49
    · obtain ⟨⟨b0, t0, rfl, hk0⟩, hn0, hr0⟩ := h
      exact me_crV S hK mG_NW hNw (snd_Rp_commitHere hn0 hr0) (le_Rp_commitHere hr0).1 (le_Rp_commitHere hr0).2 (cwV (C := R_Rp) 2 S.2.2.2.2 (gV cI (mT 395 (by decide +kernel) rfl) (mT 392 (by decide +kernel) rfl) (mT 394 (by decide +kernel) rfl) (mS 11 (by decide +kernel) rfl) (mT 3 (by decide +kernel) rfl)) rfl rfl rfl (by decide +kernel) ⟨Nat.le_of_ble_eq_true rfl, Nat.le_of_ble_eq_true rfl⟩) (by simp only [List.length_cons] at hn0; omega) hk0 (by decide) (q0 := (R_Rp, F_Rp, 8)) rfl rfl d_Rp_onPreacceptOk_100
    · obtain ⟨⟨b0, t0, rfl, hk0⟩, hn0, hr0⟩ := h
      exact me_crV S hK mG_NW hNw (snd_Rp_beginAccepting hn0 hr0) (le_Rp_beginAccepting hr0).1 (le_Rp_beginAccepting hr0).2 (cwV (C := R_Rp) 3 S.2.2.2.2 (gV cI (mT 399 (by decide +kernel) rfl) (mT 396 (by decide +kernel) rfl) (mT 398 (by decide +kernel) rfl) (mS 12 (by decide +kernel) rfl) (mT 3 (by decide +kernel) rfl)) rfl rfl rfl (by decide +kernel) ⟨Nat.le_of_ble_eq_true rfl, Nat.le_of_ble_eq_true rfl⟩) (by simp only [List.length_cons] at hn0; omega) hk0 (by decide) (q0 := (R_Rp, F_Rp, 8)) rfl rfl d_Rp_onPreacceptOk_130
    · exact h.elim
theorem le_Rp_onAccept {ls : List (Option me_V)} {M N : me_M} {v : Option me_V} (h : RUN eL X_Rp_onAccept 0 ls [] M v N) : mSz M ≤ mSz N ∧ mSl M ≤ mSl N := by
  refine RUN.le (fun pc as M r M1 h => ?_) h
  unfold X_Rp_onAccept at h
  dsimp only [xCall] at h
  split at h
  · exact le_En_vote h.2.2
  · exact le_Rp_sendBack h.2.2
  · exact h.elim
theorem snd_Rp_onAccept {l : Launch} {B : Nat} {Dd : va_G} {cA : Nat → ClassId} {as : List me_V} {M N : me_M} {v : Option me_V} (hlen : as.length = 3) (hrun : RUN eL X_Rp_onAccept 0 (as.map some ++ List.replicate (3 - 3) none) [] M v N) : Met l y_Rp_onAccept (Cond.code y_Rp_onAccept b_Rp_onAccept 3 none :: LW) { frames := 3, cells := mSz N - mSz M, slots := mSl N - mSl M, locals := 71 } (me_Pc (mG B Dd cA) as M) (me_Qc (mG B Dd cA) v N) (mSz N - mSz M) (mSl N - mSl M) (fun q => B ≤ q) := by
  refine me_met (X := X_Rp_onAccept) (el := eL) (G := mG B Dd cA) (cc := b_Rp_onAccept) (maxL := 3) (ws' := LW) (ret := none) (by decide +kernel) rfl rfl (Or.inl ⟨rfl, rfl⟩) (by omega) rfl mG_CL mG_AT (le_Rp_onAccept hrun) (fun args s hts hNw => ?_) (fun p e s m args below meth c Q S hK hNw pc as2 M2 r M1 h => ?_) (by rw [hlen]; exact hrun)
  · have ht : ∀ w ∈ LW, w.before args s = true := fun w hw => hts w (List.mem_cons_of_mem _ hw)
    refine ⟨?_, ?_, ?_, ?_, ?_, ?_, ?_, ?_, ?_⟩
    · intro idx ci k key ty h
      unfold X_Rp_onAccept at h
      dsimp only [xF] at h
      split at h
      · cases h
        exact tf (r := (R_En, F_En, 6)) ht rfl (by decide) (by decide) rfl rfl cl_En rfl (mT 65 (by decide +kernel) rfl) (fun _ h => h.elim)
      · cases h
        exact tf (r := (R_Ms, F_Ms, 7)) ht rfl (by decide) (by decide) rfl rfl cl_Ms rfl (mT 297 (by decide +kernel) rfl) (fun _ h => h.elim)
      · cases h
        exact tf (r := (R_Ms, F_Ms, 7)) ht rfl (by decide) (by decide) rfl rfl cl_Ms rfl (mT 299 (by decide +kernel) rfl) (fun _ h => h.elim)
      · cases h
    · exact tf_nil
    · exact fun _ _ _ _ _ _ (h : none = some _) => by cases h
    · exact tn_nil
    · exact ta_nil
    · exact fun (h : none = some _) => by cases h
    · exact fun (h : none = some _) => by cases h
    · exact fun _ _ (h : none = some _) => by cases h
    · exact fun h => absurd rfl h
  · unfold X_Rp_onAccept at h
    dsimp only [xCall] at h
    split at h
    · obtain ⟨⟨b0, t0, rfl, hk0⟩, hn0, hr0⟩ := h
      exact me_crV S hK mG_NW hNw (snd_En_vote hn0 hr0) (le_En_vote hr0).1 (le_En_vote hr0).2 (cwV (C := R_En) 3 S.2.2.2.2 (gV cI (mT 377 (by decide +kernel) rfl) (mT 374 (by decide +kernel) rfl) (mT 375 (by decide +kernel) rfl) (mT 376 (by decide +kernel) rfl) (mT 4 (by decide +kernel) rfl)) rfl rfl rfl (by decide +kernel) ⟨Nat.le_of_ble_eq_true rfl, Nat.le_of_ble_eq_true rfl⟩) (by simp only [List.length_cons] at hn0; omega) hk0 (by decide) (q0 := (R_En, F_En, 6)) rfl rfl d_Rp_onAccept_22
    · obtain ⟨⟨b0, t0, rfl, hk0⟩, hn0, hr0⟩ := h
      exact me_crV S hK mG_NW hNw (snd_Rp_sendBack hn0 hr0) (le_Rp_sendBack hr0).1 (le_Rp_sendBack hr0).2 (cwV (C := R_Rp) 4 S.2.2.2.2 (gV cI (mT 369 (by decide +kernel) rfl) (mT 366 (by decide +kernel) rfl) (mT 368 (by decide +kernel) rfl) (mS 7 (by decide +kernel) rfl) (mT 3 (by decide +kernel) rfl)) rfl rfl rfl (by decide +kernel) ⟨Nat.le_of_ble_eq_true rfl, Nat.le_of_ble_eq_true rfl⟩) (by simp only [List.length_cons] at hn0; omega) hk0 (by decide) (q0 := (R_Rp, F_Rp, 8)) rfl rfl d_Rp_onAccept_30
    · exact h.elim
theorem le_Rp_onAcceptOk {ls : List (Option me_V)} {M N : me_M} {v : Option me_V} (h : RUN eL X_Rp_onAcceptOk 0 ls [] M v N) : mSz M ≤ mSz N ∧ mSl M ≤ mSl N := by
  refine RUN.le (fun pc as M r M1 h => ?_) h
  unfold X_Rp_onAcceptOk at h
  dsimp only [xCall] at h
  split at h
  · exact le_Rp_liveAttempt h.2.2
  · exact le_Rp_commitHere h.2.2
  · exact h.elim
theorem snd_Rp_onAcceptOk {l : Launch} {B : Nat} {Dd : va_G} {cA : Nat → ClassId} {as : List me_V} {M N : me_M} {v : Option me_V} (hlen : as.length = 2) (hrun : RUN eL X_Rp_onAcceptOk 0 (as.map some ++ List.replicate (3 - 2) none) [] M v N) : Met l y_Rp_onAcceptOk (Cond.code y_Rp_onAcceptOk b_Rp_onAcceptOk 3 none :: LW) { frames := 4, cells := mSz N - mSz M, slots := mSl N - mSl M, locals := 94 } (me_Pc (mG B Dd cA) as M) (me_Qc (mG B Dd cA) v N) (mSz N - mSz M) (mSl N - mSl M) (fun q => B ≤ q) := by
  refine me_met (X := X_Rp_onAcceptOk) (el := eL) (G := mG B Dd cA) (cc := b_Rp_onAcceptOk) (maxL := 3) (ws' := LW) (ret := none) (by decide +kernel) rfl rfl (Or.inl ⟨rfl, rfl⟩) (by omega) rfl mG_CL mG_AT (le_Rp_onAcceptOk hrun) (fun args s hts hNw => ?_) (fun p e s m args below meth c Q S hK hNw pc as2 M2 r M1 h => ?_) (by rw [hlen]; exact hrun)
  · have ht : ∀ w ∈ LW, w.before args s = true := fun w hw => hts w (List.mem_cons_of_mem _ hw)
    refine ⟨?_, ?_, ?_, ?_, ?_, ?_, ?_, ?_, ?_⟩
    · intro idx ci k key ty h
      unfold X_Rp_onAcceptOk at h
      dsimp only [xF] at h
      split at h
      · cases h
        exact tf (r := (R_Rp, F_Rp, 8)) ht rfl (by decide) (by decide) rfl rfl cl_Rp rfl (mT 113 (by decide +kernel) rfl) (fun _ h => h.elim)
      · cases h
        exact tf (r := (R_Rp, F_Rp, 8)) ht rfl (by decide) (by decide) rfl rfl cl_Rp rfl (mT 115 (by decide +kernel) rfl) (fun _ h => h.elim)
      · cases h
        exact tf (r := (R_Ms, F_Ms, 7)) ht rfl (by decide) (by decide) rfl rfl cl_Ms rfl (mT 294 (by decide +kernel) rfl) (fun _ h => h.elim)
      · cases h
        exact tf (r := (R_En, F_En, 6)) ht rfl (by decide) (by decide) rfl rfl cl_En rfl (mT 63 (by decide +kernel) rfl) (fun _ h => h.elim)
      · cases h
        exact tf (r := (R_At, F_At, 8)) ht rfl (by decide) (by decide) rfl rfl cl_At rfl (mT 255 (by decide +kernel) rfl) (fun _ h => h.elim)
      · cases h
    · intro idx ci k key ty h
      unfold X_Rp_onAcceptOk at h
      dsimp only [xG] at h
      split at h
      · cases h
        exact tf (r := (R_At, F_At, 8)) ht rfl (by decide) (by decide) rfl rfl cl_At rfl (mT 255 (by decide +kernel) rfl) (fun h => absurd h (by decide))
      · cases h
    · intro idx ci k key ty r h hr hf
      unfold X_Rp_onAcceptOk at h
      dsimp only [xG] at h
      split at h
      · cases h
        cases hr
        exact absurd hf (by decide)
      · cases h
    · exact tn_nil
    · exact ta_nil
    · exact fun (h : none = some _) => by cases h
    · exact fun (h : none = some _) => by cases h
    · exact fun _ _ (h : none = some _) => by cases h
    · exact fun h => absurd rfl h
  · unfold X_Rp_onAcceptOk at h
    dsimp only [xCall] at h
    split at h
    · obtain ⟨⟨b0, t0, rfl, hk0⟩, hn0, hr0⟩ := h
      exact me_crV S hK mG_NW hNw (snd_Rp_liveAttempt hn0 hr0) (le_Rp_liveAttempt hr0).1 (le_Rp_liveAttempt hr0).2 (cwV (C := R_Rp) 2 S.2.2.2.2 (gV cI (mT 386 (by decide +kernel) rfl) (mT 383 (by decide +kernel) rfl) (mT 385 (by decide +kernel) rfl) (mS 10 (by decide +kernel) rfl) (mT 3 (by decide +kernel) rfl)) rfl rfl rfl (by decide +kernel) ⟨Nat.le_of_ble_eq_true rfl, Nat.le_of_ble_eq_true rfl⟩) (by simp only [List.length_cons] at hn0; omega) hk0 (by decide) (q0 := (R_Rp, F_Rp, 8)) rfl rfl d_Rp_onAcceptOk_3
    · obtain ⟨⟨b0, t0, rfl, hk0⟩, hn0, hr0⟩ := h
      exact me_crV S hK mG_NW hNw (snd_Rp_commitHere hn0 hr0) (le_Rp_commitHere hr0).1 (le_Rp_commitHere hr0).2 (cwV (C := R_Rp) 2 S.2.2.2.2 (gV cI (mT 395 (by decide +kernel) rfl) (mT 392 (by decide +kernel) rfl) (mT 394 (by decide +kernel) rfl) (mS 11 (by decide +kernel) rfl) (mT 3 (by decide +kernel) rfl)) rfl rfl rfl (by decide +kernel) ⟨Nat.le_of_ble_eq_true rfl, Nat.le_of_ble_eq_true rfl⟩) (by simp only [List.length_cons] at hn0; omega) hk0 (by decide) (q0 := (R_Rp, F_Rp, 8)) rfl rfl d_Rp_onAcceptOk_50
    · exact h.elim
theorem le_Rp_onCommit {ls : List (Option me_V)} {M N : me_M} {v : Option me_V} (h : RUN eL X_Rp_onCommit 0 ls [] M v N) : mSz M ≤ mSz N ∧ mSl M ≤ mSl N := by
  refine RUN.le (fun pc as M r M1 h => ?_) h
  unfold X_Rp_onCommit at h
  dsimp only [xCall] at h
  split at h
  · exact le_En_isSettled h.2.2
  · exact le_En_become h.2.2
  · exact h.elim
theorem snd_Rp_onCommit {l : Launch} {B : Nat} {Dd : va_G} {cA : Nat → ClassId} {as : List me_V} {M N : me_M} {v : Option me_V} (hlen : as.length = 3) (hrun : RUN eL X_Rp_onCommit 0 (as.map some ++ List.replicate (3 - 3) none) [] M v N) : Met l y_Rp_onCommit (Cond.code y_Rp_onCommit b_Rp_onCommit 3 none :: LW) { frames := 1, cells := mSz N - mSz M, slots := mSl N - mSl M, locals := 22 } (me_Pc (mG B Dd cA) as M) (me_Qc (mG B Dd cA) v N) (mSz N - mSz M) (mSl N - mSl M) (fun q => B ≤ q) := by
  refine me_met (X := X_Rp_onCommit) (el := eL) (G := mG B Dd cA) (cc := b_Rp_onCommit) (maxL := 3) (ws' := LW) (ret := none) (by decide +kernel) rfl rfl (Or.inl ⟨rfl, rfl⟩) (by omega) rfl mG_CL mG_AT (le_Rp_onCommit hrun) (fun args s hts hNw => ?_) (fun p e s m args below meth c Q S hK hNw pc as2 M2 r M1 h => ?_) (by rw [hlen]; exact hrun)
  · have ht : ∀ w ∈ LW, w.before args s = true := fun w hw => hts w (List.mem_cons_of_mem _ hw)
    refine ⟨?_, ?_, ?_, ?_, ?_, ?_, ?_, ?_, ?_⟩
    · intro idx ci k key ty h
      unfold X_Rp_onCommit at h
      dsimp only [xF] at h
      split at h
      · cases h
        exact tf (r := (R_Ms, F_Ms, 7)) ht rfl (by decide) (by decide) rfl rfl cl_Ms rfl (mT 299 (by decide +kernel) rfl) (fun _ h => h.elim)
      · cases h
    · exact tf_nil
    · exact fun _ _ _ _ _ _ (h : none = some _) => by cases h
    · exact tn_nil
    · exact ta_nil
    · exact fun (h : none = some _) => by cases h
    · exact fun (h : none = some _) => by cases h
    · exact fun _ _ (h : none = some _) => by cases h
    · exact fun h => absurd rfl h
  · unfold X_Rp_onCommit at h
    dsimp only [xCall] at h
    split at h
    · obtain ⟨⟨b0, t0, rfl, hk0⟩, hn0, hr0⟩ := h
      exact me_crV S hK mG_NW hNw (snd_En_isSettled hn0 hr0) (le_En_isSettled hr0).1 (le_En_isSettled hr0).2 (cwV (C := R_En) 0 S.2.2.2.2 (gV cI (mT 332 (by decide +kernel) rfl) (mT 365 (by decide +kernel) rfl) (mT 330 (by decide +kernel) rfl) (mT 331 (by decide +kernel) rfl) (mT 4 (by decide +kernel) rfl)) rfl rfl rfl (by decide +kernel) ⟨Nat.le_of_ble_eq_true rfl, Nat.le_of_ble_eq_true rfl⟩) (by simp only [List.length_cons] at hn0; omega) hk0 (by decide) (q0 := (R_En, F_En, 6)) rfl rfl d_Rp_onCommit_1
    · obtain ⟨⟨b0, t0, rfl, hk0⟩, hn0, hr0⟩ := h
      exact me_crV S hK mG_NW hNw (snd_En_become hn0 hr0) (le_En_become hr0).1 (le_En_become hr0).2 (cwV (C := R_En) 2 S.2.2.2.2 (gV cI (mT 239 (by decide +kernel) rfl) (mT 236 (by decide +kernel) rfl) (mT 237 (by decide +kernel) rfl) (mT 238 (by decide +kernel) rfl) (mT 4 (by decide +kernel) rfl)) rfl rfl rfl (by decide +kernel) ⟨Nat.le_of_ble_eq_true rfl, Nat.le_of_ble_eq_true rfl⟩) (by simp only [List.length_cons] at hn0; omega) hk0 (by decide) (q0 := (R_En, F_En, 6)) rfl rfl d_Rp_onCommit_13
    · exact h.elim
theorem le_Rt_init {ls : List (Option me_V)} {M N : me_M} {v : Option me_V} (h : RUN eL X_Rt_init 0 ls [] M v N) : mSz M ≤ mSz N ∧ mSl M ≤ mSl N := by
  refine RUN.le (fun pc as M r M1 h => ?_) h
  exact False.elim h
theorem snd_Rt_init {l : Launch} {B : Nat} {Dd : va_G} {cA : Nat → ClassId} {as : List me_V} {M N : me_M} {v : Option me_V} (hlen : as.length = 3) (hrun : RUN eL X_Rt_init 0 (as.map some ++ List.replicate (3 - 3) none) [] M v N) : Met l y_Rt_init (Cond.code y_Rt_init b_Rt_init 3 none :: LW) { frames := 1, cells := mSz N - mSz M, slots := mSl N - mSl M, locals := 20 } (me_Pc (mG B Dd cA) as M) (me_Qc (mG B Dd cA) v N) (mSz N - mSz M) (mSl N - mSl M) (fun q => B ≤ q) := by
  refine me_met (X := X_Rt_init) (el := eL) (G := mG B Dd cA) (cc := b_Rt_init) (maxL := 3) (ws' := LW) (ret := none) (by decide +kernel) rfl rfl (Or.inl ⟨rfl, rfl⟩) (by omega) rfl mG_CL mG_AT (le_Rt_init hrun) (fun args s hts hNw => ?_) (fun p e s m args below meth c Q S hK hNw pc as2 M2 r M1 h => ?_) (by rw [hlen]; exact hrun)
  · have ht : ∀ w ∈ LW, w.before args s = true := fun w hw => hts w (List.mem_cons_of_mem _ hw)
    refine ⟨?_, ?_, ?_, ?_, ?_, ?_, ?_, ?_, ?_⟩
    · intro idx ci k key ty h
      unfold X_Rt_init at h
      dsimp only [xF] at h
      split at h
      · cases h
        exact tf (r := (R_En, F_En, 6)) ht rfl (by decide) (by decide) rfl rfl cl_En rfl (mT 55 (by decide +kernel) rfl) (fun _ h => h.elim)
      · cases h
        exact tf (r := (R_En, F_En, 6)) ht rfl (by decide) (by decide) rfl rfl cl_En rfl (mT 60 (by decide +kernel) rfl) (fun _ h => h.elim)
      · cases h
        exact tf (r := (R_En, F_En, 6)) ht rfl (by decide) (by decide) rfl rfl cl_En rfl (mT 68 (by decide +kernel) rfl) (fun _ h => h.elim)
      · cases h
    · intro idx ci k key ty h
      unfold X_Rt_init at h
      dsimp only [xG] at h
      split at h
      · cases h
        exact tf (r := (R_Rt, F_Rt, 4)) ht rfl (by decide) (by decide) rfl rfl cl_Rt rfl (mT 426 (by decide +kernel) rfl) (fun _ _ => rfl)
      · cases h
        exact tf (r := (R_Rt, F_Rt, 4)) ht rfl (by decide) (by decide) rfl rfl cl_Rt rfl (mT 427 (by decide +kernel) rfl) (fun _ _ => rfl)
      · cases h
        exact tf (r := (R_Rt, F_Rt, 4)) ht rfl (by decide) (by decide) rfl rfl cl_Rt rfl (mT 429 (by decide +kernel) rfl) (fun _ _ => rfl)
      · cases h
        exact tf (r := (R_Rt, F_Rt, 4)) ht rfl (by decide) (by decide) rfl rfl cl_Rt rfl (mT 432 (by decide +kernel) rfl) (fun _ _ => rfl)
      · cases h
    · exact fun _ _ _ _ _ _ _ _ _ => rfl
    · exact tn_nil
    · exact ta_nil
    · exact fun (h : none = some _) => by cases h
    · exact fun (h : none = some _) => by cases h
    · exact fun _ _ (h : none = some _) => by cases h
    · exact fun _ => ⟨ht _ (mT 425 (by decide +kernel) rfl), ht _ (mT 19 (by decide +kernel) rfl), ht _ (mT 20 (by decide +kernel) rfl), Nat.le_of_ble_eq_true rfl, Nat.le_of_ble_eq_true rfl⟩
  · exact False.elim h
theorem le_Rp_onPrepare {ls : List (Option me_V)} {M N : me_M} {v : Option me_V} (h : RUN eL X_Rp_onPrepare 0 ls [] M v N) : mSz M ≤ mSz N ∧ mSl M ≤ mSl N := by
  refine RUN.le (fun pc as M r M1 h => ?_) h
  unfold X_Rp_onPrepare at h
  dsimp only [xCall] at h
  split at h
  · exact le_Rt_init h.2.2
  · exact le_Rp_sendBack h.2.2
  · exact h.elim
theorem snd_Rp_onPrepare {l : Launch} {B : Nat} {Dd : va_G} {cA : Nat → ClassId} {as : List me_V} {M N : me_M} {v : Option me_V} (hlen : as.length = 3) (hrun : RUN eL X_Rp_onPrepare 0 (as.map some ++ List.replicate (3 - 3) none) [] M v N) : Met l y_Rp_onPrepare (Cond.code y_Rp_onPrepare b_Rp_onPrepare 3 none :: LW) { frames := 3, cells := mSz N - mSz M, slots := mSl N - mSl M, locals := 71 } (me_Pc (mG B Dd cA) as M) (me_Qc (mG B Dd cA) v N) (mSz N - mSz M) (mSl N - mSl M) (fun q => B ≤ q) := by
  refine me_met (X := X_Rp_onPrepare) (el := eL) (G := mG B Dd cA) (cc := b_Rp_onPrepare) (maxL := 3) (ws' := LW) (ret := none) (by decide +kernel) rfl rfl (Or.inl ⟨rfl, rfl⟩) (by omega) rfl mG_CL mG_AT (le_Rp_onPrepare hrun) (fun args s hts hNw => ?_) (fun p e s m args below meth c Q S hK hNw pc as2 M2 r M1 h => ?_) (by rw [hlen]; exact hrun)
  · have ht : ∀ w ∈ LW, w.before args s = true := fun w hw => hts w (List.mem_cons_of_mem _ hw)
    refine ⟨?_, ?_, ?_, ?_, ?_, ?_, ?_, ?_, ?_⟩
    · intro idx ci k key ty h
      unfold X_Rp_onPrepare at h
      dsimp only [xF] at h
      split at h
      · cases h
        exact tf (r := (R_Rp, F_Rp, 8)) ht rfl (by decide) (by decide) rfl rfl cl_Rp rfl (mT 111 (by decide +kernel) rfl) (fun _ h => h.elim)
      · cases h
        exact tf (r := (R_En, F_En, 6)) ht rfl (by decide) (by decide) rfl rfl cl_En rfl (mT 65 (by decide +kernel) rfl) (fun _ h => h.elim)
      · cases h
        exact tf (r := (R_Ms, F_Ms, 7)) ht rfl (by decide) (by decide) rfl rfl cl_Ms rfl (mT 297 (by decide +kernel) rfl) (fun _ h => h.elim)
      · cases h
    · intro idx ci k key ty h
      unfold X_Rp_onPrepare at h
      dsimp only [xG] at h
      split at h
      · cases h
        exact tf (r := (R_En, F_En, 6)) ht rfl (by decide) (by decide) rfl rfl cl_En rfl (mT 65 (by decide +kernel) rfl) (fun h => absurd h (by decide))
      · cases h
    · intro idx ci k key ty r h hr hf
      unfold X_Rp_onPrepare at h
      dsimp only [xG] at h
      split at h
      · cases h
        cases hr
        exact absurd hf (by decide)
      · cases h
    · intro idx ci n h
      unfold X_Rp_onPrepare at h
      dsimp only [xN] at h
      split at h
      · cases h
        exact tn (r := (R_Rt, F_Rt, 4)) ht rfl (by decide) rfl cl_Rt (mT 420 (by decide +kernel) rfl) (mT 421 (by decide +kernel) rfl) (mT 12 (by decide +kernel) rfl)
      · cases h
    · exact ta_nil
    · exact fun (h : none = some _) => by cases h
    · exact fun (h : none = some _) => by cases h
    · exact fun _ _ (h : none = some _) => by cases h
    · exact fun h => absurd rfl h
  · unfold X_Rp_onPrepare at h
    dsimp only [xCall] at h
    split at h
    · obtain ⟨⟨b0, t0, rfl, hk0⟩, hn0, hr0⟩ := h
      exact me_crI S hK mG_NW hNw (snd_Rt_init hn0 hr0) (le_Rt_init hr0).1 (le_Rt_init hr0).2 (cwI 2 S.2.2.2.2 (gI cI (mT 424 (by decide +kernel) rfl)) rfl rfl rfl (S.2.2.2.2 _ (cI _ (mT 12 (by decide +kernel) rfl))) (S.2.2.2.2 _ (cI _ (mT 422 (by decide +kernel) rfl))) (S.2.2.2.2 _ (cI _ (mT 423 (by decide +kernel) rfl))) rfl (by decide +kernel) ⟨Nat.le_of_ble_eq_true rfl, Nat.le_of_ble_eq_true rfl⟩) (by simp only [List.length_cons] at hn0; omega) d_Rp_onPrepare_34
    · obtain ⟨⟨b0, t0, rfl, hk0⟩, hn0, hr0⟩ := h
      exact me_crV S hK mG_NW hNw (snd_Rp_sendBack hn0 hr0) (le_Rp_sendBack hr0).1 (le_Rp_sendBack hr0).2 (cwV (C := R_Rp) 4 S.2.2.2.2 (gV cI (mT 369 (by decide +kernel) rfl) (mT 366 (by decide +kernel) rfl) (mT 368 (by decide +kernel) rfl) (mS 7 (by decide +kernel) rfl) (mT 3 (by decide +kernel) rfl)) rfl rfl rfl (by decide +kernel) ⟨Nat.le_of_ble_eq_true rfl, Nat.le_of_ble_eq_true rfl⟩) (by simp only [List.length_cons] at hn0; omega) hk0 (by decide) (q0 := (R_Rp, F_Rp, 8)) rfl rfl d_Rp_onPrepare_37
    · exact h.elim
theorem le_At_countReport {ls : List (Option me_V)} {M N : me_M} {v : Option me_V} (h : RUN eL X_At_countReport 0 ls [] M v N) : mSz M ≤ mSz N ∧ mSl M ≤ mSl N := by
  refine RUN.le (fun pc as M r M1 h => ?_) h
  exact False.elim h
theorem snd_At_countReport {l : Launch} {B : Nat} {Dd : va_G} {cA : Nat → ClassId} {as : List me_V} {M N : me_M} {v : Option me_V} (hlen : as.length = 2) (hrun : RUN eL X_At_countReport 0 (as.map some ++ List.replicate (2 - 2) none) [] M v N) : Met l y_At_countReport (Cond.code y_At_countReport b_At_countReport 2 none :: LW) { frames := 0, cells := mSz N - mSz M, slots := mSl N - mSl M, locals := 0 } (me_Pc (mG B Dd cA) as M) (me_Qc (mG B Dd cA) v N) (mSz N - mSz M) (mSl N - mSl M) (fun q => B ≤ q) := by
  refine me_met (X := X_At_countReport) (el := eL) (G := mG B Dd cA) (cc := b_At_countReport) (maxL := 2) (ws' := LW) (ret := none) (by decide +kernel) rfl rfl (Or.inl ⟨rfl, rfl⟩) (by omega) rfl mG_CL mG_AT (le_At_countReport hrun) (fun args s hts hNw => ?_) (fun p e s m args below meth c Q S hK hNw pc as2 M2 r M1 h => ?_) (by rw [hlen]; exact hrun)
  · have ht : ∀ w ∈ LW, w.before args s = true := fun w hw => hts w (List.mem_cons_of_mem _ hw)
    refine ⟨?_, ?_, ?_, ?_, ?_, ?_, ?_, ?_, ?_⟩
    · intro idx ci k key ty h
      unfold X_At_countReport at h
      dsimp only [xF] at h
      split at h
      · cases h
        exact tf (r := (R_At, F_At, 8)) ht rfl (by decide) (by decide) rfl rfl cl_At rfl (mT 251 (by decide +kernel) rfl) (fun _ h => h.elim)
      · cases h
        exact tf (r := (R_At, F_At, 8)) ht rfl (by decide) (by decide) rfl rfl cl_At rfl (mT 254 (by decide +kernel) rfl) (fun _ h => h.elim)
      · cases h
    · intro idx ci k key ty h
      unfold X_At_countReport at h
      dsimp only [xG] at h
      split at h
      · cases h
        exact tf (r := (R_At, F_At, 8)) ht rfl (by decide) (by decide) rfl rfl cl_At rfl (mT 254 (by decide +kernel) rfl) (fun _ _ => rfl)
      · cases h
    · intro idx ci k key ty r h hr hf
      unfold X_At_countReport at h
      dsimp only [xG] at h
      split at h
      · cases h
        cases hr
        exact absurd hf (by decide)
      · cases h
    · exact tn_nil
    · exact ta_nil
    · exact fun (h : none = some _) => by cases h
    · exact fun (h : none = some _) => by cases h
    · exact fun _ _ (h : none = some _) => by cases h
    · exact fun h => absurd rfl h
  · exact False.elim h
theorem le_At_lastAccepted {ls : List (Option me_V)} {M N : me_M} {v : Option me_V} (h : RUN eL X_At_lastAccepted 0 ls [] M v N) : mSz M ≤ mSz N ∧ mSl M ≤ mSl N := by
  refine RUN.le (fun pc as M r M1 h => ?_) h
  exact False.elim h
theorem snd_At_lastAccepted {l : Launch} {B : Nat} {Dd : va_G} {cA : Nat → ClassId} {as : List me_V} {M N : me_M} {v : Option me_V} (hlen : as.length = 1) (hrun : RUN eL X_At_lastAccepted 0 (as.map some ++ List.replicate (4 - 1) none) [] M v N) : Met l y_At_lastAccepted (Cond.code y_At_lastAccepted b_At_lastAccepted 4 (some (.object "LeaderlessMap$Report")) :: LW) { frames := 0, cells := mSz N - mSz M, slots := mSl N - mSl M, locals := 0 } (me_Pc (mG B Dd cA) as M) (me_Qc (mG B Dd cA) v N) (mSz N - mSz M) (mSl N - mSl M) (fun q => B ≤ q) := by
  refine me_met (X := X_At_lastAccepted) (el := eL) (G := mG B Dd cA) (cc := b_At_lastAccepted) (maxL := 4) (ws' := LW) (ret := (some (.object "LeaderlessMap$Report"))) (by decide +kernel) rfl rfl (Or.inr (Or.inr (Or.inr ⟨rfl, Or.inl ⟨_, rfl⟩⟩))) (by omega) rfl mG_CL mG_AT (le_At_lastAccepted hrun) (fun args s hts hNw => ?_) (fun p e s m args below meth c Q S hK hNw pc as2 M2 r M1 h => ?_) (by rw [hlen]; exact hrun)
  · have ht : ∀ w ∈ LW, w.before args s = true := fun w hw => hts w (List.mem_cons_of_mem _ hw)
    refine ⟨?_, ?_, ?_, ?_, ?_, ?_, ?_, ?_, ?_⟩
    · intro idx ci k key ty h
      unfold X_At_lastAccepted at h
      dsimp only [xF] at h
      split at h
      · cases h
        exact tf (r := (R_At, F_At, 8)) ht rfl (by decide) (by decide) rfl rfl cl_At rfl (mT 251 (by decide +kernel) rfl) (fun _ h => h.elim)
      · cases h
        exact tf (r := (R_At, F_At, 8)) ht rfl (by decide) (by decide) rfl rfl cl_At rfl (mT 254 (by decide +kernel) rfl) (fun _ h => h.elim)
      · cases h
        exact tf (r := (R_Rt, F_Rt, 4)) ht rfl (by decide) (by decide) rfl rfl cl_Rt rfl (mT 428 (by decide +kernel) rfl) (fun _ h => h.elim)
      · cases h
        exact tf (r := (R_Rt, F_Rt, 4)) ht rfl (by decide) (by decide) rfl rfl cl_Rt rfl (mT 433 (by decide +kernel) rfl) (fun _ h => h.elim)
      · cases h
    · exact tf_nil
    · exact fun _ _ _ _ _ _ (h : none = some _) => by cases h
    · exact tn_nil
    · exact ta_nil
    · exact fun (h : none = some _) => by cases h
    · exact fun (h : none = some _) => by cases h
    · exact fun _ _ (h : none = some _) => by cases h
    · exact fun h => absurd rfl h
  · exact False.elim h
theorem le_Rt_isFastVote {ls : List (Option me_V)} {M N : me_M} {v : Option me_V} (h : RUN eL X_Rt_isFastVote 0 ls [] M v N) : mSz M ≤ mSz N ∧ mSl M ≤ mSl N := by
  refine RUN.le (fun pc as M r M1 h => ?_) h
  exact False.elim h
theorem snd_Rt_isFastVote {l : Launch} {B : Nat} {Dd : va_G} {cA : Nat → ClassId} {as : List me_V} {M N : me_M} {v : Option me_V} (hlen : as.length = 2) (hrun : RUN eL X_Rt_isFastVote 0 (as.map some ++ List.replicate (2 - 2) none) [] M v N) : Met l y_Rt_isFastVote (Cond.code y_Rt_isFastVote b_Rt_isFastVote 2 (some .boolean) :: LW) { frames := 0, cells := mSz N - mSz M, slots := mSl N - mSl M, locals := 0 } (me_Pc (mG B Dd cA) as M) (me_Qc (mG B Dd cA) v N) (mSz N - mSz M) (mSl N - mSl M) (fun q => B ≤ q) := by
  refine me_met (X := X_Rt_isFastVote) (el := eL) (G := mG B Dd cA) (cc := b_Rt_isFastVote) (maxL := 2) (ws' := LW) (ret := (some .boolean)) (by decide +kernel) rfl rfl (Or.inr (Or.inr (Or.inl ⟨rfl, rfl⟩))) (by omega) rfl mG_CL mG_AT (le_Rt_isFastVote hrun) (fun args s hts hNw => ?_) (fun p e s m args below meth c Q S hK hNw pc as2 M2 r M1 h => ?_) (by rw [hlen]; exact hrun)
  · have ht : ∀ w ∈ LW, w.before args s = true := fun w hw => hts w (List.mem_cons_of_mem _ hw)
    refine ⟨?_, ?_, ?_, ?_, ?_, ?_, ?_, ?_, ?_⟩
    · intro idx ci k key ty h
      unfold X_Rt_isFastVote at h
      dsimp only [xF] at h
      split at h
      · cases h
        exact tf (r := (R_Rt, F_Rt, 4)) ht rfl (by decide) (by decide) rfl rfl cl_Rt rfl (mT 426 (by decide +kernel) rfl) (fun _ h => h.elim)
      · cases h
        exact tf (r := (R_Rt, F_Rt, 4)) ht rfl (by decide) (by decide) rfl rfl cl_Rt rfl (mT 427 (by decide +kernel) rfl) (fun _ h => h.elim)
      · cases h
        exact tf (r := (R_Rt, F_Rt, 4)) ht rfl (by decide) (by decide) rfl rfl cl_Rt rfl (mT 432 (by decide +kernel) rfl) (fun _ h => h.elim)
      · cases h
    · exact tf_nil
    · exact fun _ _ _ _ _ _ (h : none = some _) => by cases h
    · exact tn_nil
    · exact ta_nil
    · exact fun (h : none = some _) => by cases h
    · exact fun (h : none = some _) => by cases h
    · exact fun _ _ (h : none = some _) => by cases h
    · exact fun h => absurd rfl h
  · exact False.elim h
theorem le_Or_agreesWith {ls : List (Option me_V)} {M N : me_M} {v : Option me_V} (h : RUN eL X_Or_agreesWith 0 ls [] M v N) : mSz M ≤ mSz N ∧ mSl M ≤ mSl N := by
  refine RUN.le (fun pc as M r M1 h => ?_) h
  exact False.elim h
theorem snd_Or_agreesWith {l : Launch} {B : Nat} {Dd : va_G} {cA : Nat → ClassId} {as : List me_V} {M N : me_M} {v : Option me_V} (hlen : as.length = 2) (hrun : RUN eL X_Or_agreesWith 0 (as.map some ++ List.replicate (2 - 2) none) [] M v N) : Met l y_Or_agreesWith (Cond.code y_Or_agreesWith b_Or_agreesWith 2 (some .boolean) :: LW) { frames := 0, cells := mSz N - mSz M, slots := mSl N - mSl M, locals := 0 } (me_Pc (mG B Dd cA) as M) (me_Qc (mG B Dd cA) v N) (mSz N - mSz M) (mSl N - mSl M) (fun q => B ≤ q) := by
  refine me_met (X := X_Or_agreesWith) (el := eL) (G := mG B Dd cA) (cc := b_Or_agreesWith) (maxL := 2) (ws' := LW) (ret := (some .boolean)) (by decide +kernel) rfl rfl (Or.inr (Or.inr (Or.inl ⟨rfl, rfl⟩))) (by omega) rfl mG_CL mG_AT (le_Or_agreesWith hrun) (fun args s hts hNw => ?_) (fun p e s m args below meth c Q S hK hNw pc as2 M2 r M1 h => ?_) (by rw [hlen]; exact hrun)
  · have ht : ∀ w ∈ LW, w.before args s = true := fun w hw => hts w (List.mem_cons_of_mem _ hw)
    refine ⟨?_, ?_, ?_, ?_, ?_, ?_, ?_, ?_, ?_⟩
    · intro idx ci k key ty h
      unfold X_Or_agreesWith at h
      dsimp only [xF] at h
      split at h
      · cases h
        exact tf (r := (R_Or, F_Or, 3)) ht rfl (by decide) (by decide) rfl rfl cl_Or rfl (mT 208 (by decide +kernel) rfl) (fun _ h => h.elim)
      · cases h
        exact tf (r := (R_Or, F_Or, 3)) ht rfl (by decide) (by decide) rfl rfl cl_Or rfl (mT 213 (by decide +kernel) rfl) (fun _ h => h.elim)
      · cases h
    · exact tf_nil
    · exact fun _ _ _ _ _ _ (h : none = some _) => by cases h
    · exact tn_nil
    · exact ta_nil
    · exact fun (h : none = some _) => by cases h
    · exact fun (h : none = some _) => by cases h
    · exact fun _ _ (h : none = some _) => by cases h
    · exact fun h => absurd rfl h
  · exact False.elim h
theorem le_At_countSharers {ls : List (Option me_V)} {M N : me_M} {v : Option me_V} (h : RUN eL X_At_countSharers 0 ls [] M v N) : mSz M ≤ mSz N ∧ mSl M ≤ mSl N := by
  refine RUN.le (fun pc as M r M1 h => ?_) h
  unfold X_At_countSharers at h
  dsimp only [xCall] at h
  split at h
  · exact le_Rt_isFastVote h.2.2
  · exact le_Or_agreesWith h.2.2
  · exact h.elim
theorem snd_At_countSharers {l : Launch} {B : Nat} {Dd : va_G} {cA : Nat → ClassId} {as : List me_V} {M N : me_M} {v : Option me_V} (hlen : as.length = 3) (hrun : RUN eL X_At_countSharers 0 (as.map some ++ List.replicate (5 - 3) none) [] M v N) : Met l y_At_countSharers (Cond.code y_At_countSharers b_At_countSharers 5 (some .int) :: LW) { frames := 1, cells := mSz N - mSz M, slots := mSl N - mSl M, locals := 21 } (me_Pc (mG B Dd cA) as M) (me_Qc (mG B Dd cA) v N) (mSz N - mSz M) (mSl N - mSl M) (fun q => B ≤ q) := by
  refine me_met (X := X_At_countSharers) (el := eL) (G := mG B Dd cA) (cc := b_At_countSharers) (maxL := 5) (ws' := LW) (ret := (some .int)) (by decide +kernel) rfl rfl (Or.inr (Or.inl ⟨rfl, rfl⟩)) (by omega) rfl mG_CL mG_AT (le_At_countSharers hrun) (fun args s hts hNw => ?_) (fun p e s m args below meth c Q S hK hNw pc as2 M2 r M1 h => ?_) (by rw [hlen]; exact hrun)
  · have ht : ∀ w ∈ LW, w.before args s = true := fun w hw => hts w (List.mem_cons_of_mem _ hw)
    refine ⟨?_, ?_, ?_, ?_, ?_, ?_, ?_, ?_, ?_⟩
    · intro idx ci k key ty h
      unfold X_At_countSharers at h
      dsimp only [xF] at h
      split at h
      · cases h
        exact tf (r := (R_At, F_At, 8)) ht rfl (by decide) (by decide) rfl rfl cl_At rfl (mT 251 (by decide +kernel) rfl) (fun _ h => h.elim)
      · cases h
        exact tf (r := (R_At, F_At, 8)) ht rfl (by decide) (by decide) rfl rfl cl_At rfl (mT 254 (by decide +kernel) rfl) (fun _ h => h.elim)
      · cases h
        exact tf (r := (R_Rt, F_Rt, 4)) ht rfl (by decide) (by decide) rfl rfl cl_Rt rfl (mT 430 (by decide +kernel) rfl) (fun _ h => h.elim)
      · cases h
    · exact tf_nil
    · exact fun _ _ _ _ _ _ (h : none = some _) => by cases h
    · exact tn_nil
    · exact ta_nil
    · exact fun (h : none = some _) => by cases h
    · exact fun (h : none = some _) => by cases h
    · exact fun _ _ (h : none = some _) => by cases h
    · exact fun h => absurd rfl h
  · unfold X_At_countSharers at h
    dsimp only [xCall] at h
    split at h
    · obtain ⟨⟨b0, t0, rfl, hk0⟩, hn0, hr0⟩ := h
      exact me_crV S hK mG_NW hNw (snd_Rt_isFastVote hn0 hr0) (le_Rt_isFastVote hr0).1 (le_Rt_isFastVote hr0).2 (cwV (C := R_Rt) 1 S.2.2.2.2 (gV cI (mT 466 (by decide +kernel) rfl) (mT 463 (by decide +kernel) rfl) (mT 464 (by decide +kernel) rfl) (mT 465 (by decide +kernel) rfl) (mT 12 (by decide +kernel) rfl)) rfl rfl rfl (by decide +kernel) ⟨Nat.le_of_ble_eq_true rfl, Nat.le_of_ble_eq_true rfl⟩) (by simp only [List.length_cons] at hn0; omega) hk0 (by decide) (q0 := (R_Rt, F_Rt, 4)) rfl rfl d_At_countSharers_22
    · obtain ⟨⟨b0, t0, rfl, hk0⟩, hn0, hr0⟩ := h
      exact me_crV S hK mG_NW hNw (snd_Or_agreesWith hn0 hr0) (le_Or_agreesWith hr0).1 (le_Or_agreesWith hr0).2 (cwV (C := R_Or) 1 S.2.2.2.2 (gV cI (mT 474 (by decide +kernel) rfl) (mT 471 (by decide +kernel) rfl) (mT 472 (by decide +kernel) rfl) (mT 473 (by decide +kernel) rfl) (mT 8 (by decide +kernel) rfl)) rfl rfl rfl (by decide +kernel) ⟨Nat.le_of_ble_eq_true rfl, Nat.le_of_ble_eq_true rfl⟩) (by simp only [List.length_cons] at hn0; omega) hk0 (by decide) (q0 := (R_Or, F_Or, 3)) rfl rfl d_At_countSharers_39
    · exact h.elim
theorem le_At_sharedFastVote {ls : List (Option me_V)} {M N : me_M} {v : Option me_V} (h : RUN eL X_At_sharedFastVote 0 ls [] M v N) : mSz M ≤ mSz N ∧ mSl M ≤ mSl N := by
  refine RUN.le (fun pc as M r M1 h => ?_) h
  unfold X_At_sharedFastVote at h
  dsimp only [xCall] at h
  split at h
  · exact le_Rt_isFastVote h.2.2
  · exact le_At_countSharers h.2.2
  · exact h.elim
theorem snd_At_sharedFastVote {l : Launch} {B : Nat} {Dd : va_G} {cA : Nat → ClassId} {as : List me_V} {M N : me_M} {v : Option me_V} (hlen : as.length = 3) (hrun : RUN eL X_At_sharedFastVote 0 (as.map some ++ List.replicate (4 - 3) none) [] M v N) : Met l y_At_sharedFastVote (Cond.code y_At_sharedFastVote b_At_sharedFastVote 4 (some (.object "LeaderlessMap$Report")) :: LW) { frames := 2, cells := mSz N - mSz M, slots := mSl N - mSl M, locals := 45 } (me_Pc (mG B Dd cA) as M) (me_Qc (mG B Dd cA) v N) (mSz N - mSz M) (mSl N - mSl M) (fun q => B ≤ q) := by
  refine me_met (X := X_At_sharedFastVote) (el := eL) (G := mG B Dd cA) (cc := b_At_sharedFastVote) (maxL := 4) (ws' := LW) (ret := (some (.object "LeaderlessMap$Report"))) (by decide +kernel) rfl rfl (Or.inr (Or.inr (Or.inr ⟨rfl, Or.inl ⟨_, rfl⟩⟩))) (by omega) rfl mG_CL mG_AT (le_At_sharedFastVote hrun) (fun args s hts hNw => ?_) (fun p e s m args below meth c Q S hK hNw pc as2 M2 r M1 h => ?_) (by rw [hlen]; exact hrun)
  · have ht : ∀ w ∈ LW, w.before args s = true := fun w hw => hts w (List.mem_cons_of_mem _ hw)
    refine ⟨?_, ?_, ?_, ?_, ?_, ?_, ?_, ?_, ?_⟩
    · intro idx ci k key ty h
      unfold X_At_sharedFastVote at h
      dsimp only [xF] at h
      split at h
      · cases h
        exact tf (r := (R_At, F_At, 8)) ht rfl (by decide) (by decide) rfl rfl cl_At rfl (mT 251 (by decide +kernel) rfl) (fun _ h => h.elim)
      · cases h
        exact tf (r := (R_At, F_At, 8)) ht rfl (by decide) (by decide) rfl rfl cl_At rfl (mT 254 (by decide +kernel) rfl) (fun _ h => h.elim)
      · cases h
        exact tf (r := (R_Rt, F_Rt, 4)) ht rfl (by decide) (by decide) rfl rfl cl_Rt rfl (mT 430 (by decide +kernel) rfl) (fun _ h => h.elim)
      · cases h
    · exact tf_nil
    · exact fun _ _ _ _ _ _ (h : none = some _) => by cases h
    · exact tn_nil
    · exact ta_nil
    · exact fun (h : none = some _) => by cases h
    · exact fun (h : none = some _) => by cases h
    · exact fun _ _ (h : none = some _) => by cases h
    · exact fun h => absurd rfl h
  · unfold X_At_sharedFastVote at h
    dsimp only [xCall] at h
    split at h
    · obtain ⟨⟨b0, t0, rfl, hk0⟩, hn0, hr0⟩ := h
      exact me_crV S hK mG_NW hNw (snd_Rt_isFastVote hn0 hr0) (le_Rt_isFastVote hr0).1 (le_Rt_isFastVote hr0).2 (cwV (C := R_Rt) 1 S.2.2.2.2 (gV cI (mT 466 (by decide +kernel) rfl) (mT 463 (by decide +kernel) rfl) (mT 464 (by decide +kernel) rfl) (mT 465 (by decide +kernel) rfl) (mT 12 (by decide +kernel) rfl)) rfl rfl rfl (by decide +kernel) ⟨Nat.le_of_ble_eq_true rfl, Nat.le_of_ble_eq_true rfl⟩) (by simp only [List.length_cons] at hn0; omega) hk0 (by decide) (q0 := (R_Rt, F_Rt, 4)) rfl rfl d_At_sharedFastVote_17
    · obtain ⟨⟨b0, t0, rfl, hk0⟩, hn0, hr0⟩ := h
      exact me_crV S hK mG_NW hNw (snd_At_countSharers hn0 hr0) (le_At_countSharers hr0).1 (le_At_countSharers hr0).2 (cwV (C := R_At) 2 S.2.2.2.2 (gV cI (mT 470 (by decide +kernel) rfl) (mT 467 (by decide +kernel) rfl) (mT 469 (by decide +kernel) rfl) (mS 19 (by decide +kernel) rfl) (mT 10 (by decide +kernel) rfl)) rfl rfl rfl (by decide +kernel) ⟨Nat.le_of_ble_eq_true rfl, Nat.le_of_ble_eq_true rfl⟩) (by simp only [List.length_cons] at hn0; omega) hk0 (by decide) (q0 := (R_At, F_At, 8)) rfl rfl d_At_sharedFastVote_34
    · exact h.elim
theorem le_At_firstPreaccepted {ls : List (Option me_V)} {M N : me_M} {v : Option me_V} (h : RUN eL X_At_firstPreaccepted 0 ls [] M v N) : mSz M ≤ mSz N ∧ mSl M ≤ mSl N := by
  refine RUN.le (fun pc as M r M1 h => ?_) h
  exact False.elim h
theorem snd_At_firstPreaccepted {l : Launch} {B : Nat} {Dd : va_G} {cA : Nat → ClassId} {as : List me_V} {M N : me_M} {v : Option me_V} (hlen : as.length = 1) (hrun : RUN eL X_At_firstPreaccepted 0 (as.map some ++ List.replicate (2 - 1) none) [] M v N) : Met l y_At_firstPreaccepted (Cond.code y_At_firstPreaccepted b_At_firstPreaccepted 2 (some (.object "LeaderlessMap$Report")) :: LW) { frames := 0, cells := mSz N - mSz M, slots := mSl N - mSl M, locals := 0 } (me_Pc (mG B Dd cA) as M) (me_Qc (mG B Dd cA) v N) (mSz N - mSz M) (mSl N - mSl M) (fun q => B ≤ q) := by
  refine me_met (X := X_At_firstPreaccepted) (el := eL) (G := mG B Dd cA) (cc := b_At_firstPreaccepted) (maxL := 2) (ws' := LW) (ret := (some (.object "LeaderlessMap$Report"))) (by decide +kernel) rfl rfl (Or.inr (Or.inr (Or.inr ⟨rfl, Or.inl ⟨_, rfl⟩⟩))) (by omega) rfl mG_CL mG_AT (le_At_firstPreaccepted hrun) (fun args s hts hNw => ?_) (fun p e s m args below meth c Q S hK hNw pc as2 M2 r M1 h => ?_) (by rw [hlen]; exact hrun)
  · have ht : ∀ w ∈ LW, w.before args s = true := fun w hw => hts w (List.mem_cons_of_mem _ hw)
    refine ⟨?_, ?_, ?_, ?_, ?_, ?_, ?_, ?_, ?_⟩
    · intro idx ci k key ty h
      unfold X_At_firstPreaccepted at h
      dsimp only [xF] at h
      split at h
      · cases h
        exact tf (r := (R_At, F_At, 8)) ht rfl (by decide) (by decide) rfl rfl cl_At rfl (mT 251 (by decide +kernel) rfl) (fun _ h => h.elim)
      · cases h
        exact tf (r := (R_At, F_At, 8)) ht rfl (by decide) (by decide) rfl rfl cl_At rfl (mT 254 (by decide +kernel) rfl) (fun _ h => h.elim)
      · cases h
        exact tf (r := (R_Rt, F_Rt, 4)) ht rfl (by decide) (by decide) rfl rfl cl_Rt rfl (mT 428 (by decide +kernel) rfl) (fun _ h => h.elim)
      · cases h
    · exact tf_nil
    · exact fun _ _ _ _ _ _ (h : none = some _) => by cases h
    · exact tn_nil
    · exact ta_nil
    · exact fun (h : none = some _) => by cases h
    · exact fun (h : none = some _) => by cases h
    · exact fun _ _ (h : none = some _) => by cases h
    · exact fun h => absurd rfl h
  · exact False.elim h
theorem le_Rp_preacceptAgain {ls : List (Option me_V)} {M N : me_M} {v : Option me_V} (h : RUN eL X_Rp_preacceptAgain 0 ls [] M v N) : mSz M ≤ mSz N ∧ mSl M ≤ mSl N := by
  refine RUN.le (fun pc as M r M1 h => ?_) h
  unfold X_Rp_preacceptAgain at h
  dsimp only [xCall] at h
  split at h
  · exact le_Or_init h.2.2
  · exact le_Rp_fitted h.2.2
  · exact le_En_vote h.2.2
  · exact le_At_enterPhase h.2.2
  · exact le_Rp_sendToOthers h.2.2
  · exact h.elim
theorem snd_Rp_preacceptAgain {l : Launch} {B : Nat} {Dd : va_G} {cA : Nat → ClassId} {as : List me_V} {M N : me_M} {v : Option me_V} (hlen : as.length = 4) (hrun : RUN eL X_Rp_preacceptAgain 0 (as.map some ++ List.replicate (5 - 4) none) [] M v N) : Met l y_Rp_preacceptAgain (Cond.code y_Rp_preacceptAgain b_Rp_preacceptAgain 5 none :: LW) { frames := 3, cells := mSz N - mSz M, slots := mSl N - mSl M, locals := 72 } (me_Pc (mG B Dd cA) as M) (me_Qc (mG B Dd cA) v N) (mSz N - mSz M) (mSl N - mSl M) (fun q => B ≤ q) := by
  refine me_met (X := X_Rp_preacceptAgain) (el := eL) (G := mG B Dd cA) (cc := b_Rp_preacceptAgain) (maxL := 5) (ws' := LW) (ret := none) (by decide +kernel) rfl rfl (Or.inl ⟨rfl, rfl⟩) (by omega) rfl mG_CL mG_AT (le_Rp_preacceptAgain hrun) (fun args s hts hNw => ?_) (fun p e s m args below meth c Q S hK hNw pc as2 M2 r M1 h => ?_) (by rw [hlen]; exact hrun)
  · have ht : ∀ w ∈ LW, w.before args s = true := fun w hw => hts w (List.mem_cons_of_mem _ hw)
    refine ⟨?_, ?_, ?_, ?_, ?_, ?_, ?_, ?_, ?_⟩
    · intro idx ci k key ty h
      unfold X_Rp_preacceptAgain at h
      dsimp only [xF] at h
      split at h
      · cases h
        exact tf (r := (R_Rp, F_Rp, 8)) ht rfl (by decide) (by decide) rfl rfl cl_Rp rfl (mT 115 (by decide +kernel) rfl) (fun _ h => h.elim)
      · cases h
        exact tf (r := (R_At, F_At, 8)) ht rfl (by decide) (by decide) rfl rfl cl_At rfl (mT 248 (by decide +kernel) rfl) (fun _ h => h.elim)
      · cases h
    · exact tf_nil
    · exact fun _ _ _ _ _ _ (h : none = some _) => by cases h
    · intro idx ci n h
      unfold X_Rp_preacceptAgain at h
      dsimp only [xN] at h
      split at h
      · cases h
        exact tn (r := (R_Or, F_Or, 3)) ht rfl (by decide) rfl cl_Or (mT 198 (by decide +kernel) rfl) (mT 199 (by decide +kernel) rfl) (mT 8 (by decide +kernel) rfl)
      · cases h
    · exact ta_nil
    · exact fun (h : none = some _) => by cases h
    · exact fun (h : none = some _) => by cases h
    · exact fun _ _ (h : none = some _) => by cases h
    · exact fun h => absurd rfl h
  · unfold X_Rp_preacceptAgain at h
    dsimp only [xCall] at h
    split at h
    · obtain ⟨⟨b0, t0, rfl, hk0⟩, hn0, hr0⟩ := h
      exact me_crI S hK mG_NW hNw (snd_Or_init hn0 hr0) (le_Or_init hr0).1 (le_Or_init hr0).2 (cwI 3 S.2.2.2.2 (gI cI (mT 202 (by decide +kernel) rfl)) rfl rfl rfl (S.2.2.2.2 _ (cI _ (mT 8 (by decide +kernel) rfl))) (S.2.2.2.2 _ (cI _ (mT 200 (by decide +kernel) rfl))) (S.2.2.2.2 _ (cI _ (mT 201 (by decide +kernel) rfl))) rfl (by decide +kernel) ⟨Nat.le_of_ble_eq_true rfl, Nat.le_of_ble_eq_true rfl⟩) (by simp only [List.length_cons] at hn0; omega) d_Rp_preacceptAgain_9
    · obtain ⟨⟨b0, t0, rfl, hk0⟩, hn0, hr0⟩ := h
      exact me_crV S hK mG_NW hNw (snd_Rp_fitted hn0 hr0) (le_Rp_fitted hr0).1 (le_Rp_fitted hr0).2 (cwV (C := R_Rp) 2 S.2.2.2.2 (gV cI (mT 228 (by decide +kernel) rfl) (mT 225 (by decide +kernel) rfl) (mT 227 (by decide +kernel) rfl) (mS 3 (by decide +kernel) rfl) (mT 3 (by decide +kernel) rfl)) rfl rfl rfl (by decide +kernel) ⟨Nat.le_of_ble_eq_true rfl, Nat.le_of_ble_eq_true rfl⟩) (by simp only [List.length_cons] at hn0; omega) hk0 (by decide) (q0 := (R_Rp, F_Rp, 8)) rfl rfl d_Rp_preacceptAgain_12
    · obtain ⟨⟨b0, t0, rfl, hk0⟩, hn0, hr0⟩ := h
      exact me_crV S hK mG_NW hNw (snd_En_vote hn0 hr0) (le_En_vote hr0).1 (le_En_vote hr0).2 (cwV (C := R_En) 3 S.2.2.2.2 (gV cI (mT 377 (by decide +kernel) rfl) (mT 374 (by decide +kernel) rfl) (mT 375 (by decide +kernel) rfl) (mT 376 (by decide +kernel) rfl) (mT 4 (by decide +kernel) rfl)) rfl rfl rfl (by decide +kernel) ⟨Nat.le_of_ble_eq_true rfl, Nat.le_of_ble_eq_true rfl⟩) (by simp only [List.length_cons] at hn0; omega) hk0 (by decide) (q0 := (R_En, F_En, 6)) rfl rfl d_Rp_preacceptAgain_30
    · obtain ⟨⟨b0, t0, rfl, hk0⟩, hn0, hr0⟩ := h
      exact me_crV S hK mG_NW hNw (snd_At_enterPhase hn0 hr0) (le_At_enterPhase hr0).1 (le_At_enterPhase hr0).2 (cwV (C := R_At) 1 S.2.2.2.2 (gV cI (mT 403 (by decide +kernel) rfl) (mT 400 (by decide +kernel) rfl) (mT 401 (by decide +kernel) rfl) (mT 402 (by decide +kernel) rfl) (mT 10 (by decide +kernel) rfl)) rfl rfl rfl (by decide +kernel) ⟨Nat.le_of_ble_eq_true rfl, Nat.le_of_ble_eq_true rfl⟩) (by simp only [List.length_cons] at hn0; omega) hk0 (by decide) (q0 := (R_At, F_At, 8)) rfl rfl d_Rp_preacceptAgain_35
    · obtain ⟨⟨b0, t0, rfl, hk0⟩, hn0, hr0⟩ := h
      exact me_crV S hK mG_NW hNw (snd_Rp_sendToOthers hn0 hr0) (le_Rp_sendToOthers hr0).1 (le_Rp_sendToOthers hr0).2 (cwV (C := R_Rp) 4 S.2.2.2.2 (gV cI (mT 344 (by decide +kernel) rfl) (mT 341 (by decide +kernel) rfl) (mT 343 (by decide +kernel) rfl) (mS 6 (by decide +kernel) rfl) (mT 3 (by decide +kernel) rfl)) rfl rfl rfl (by decide +kernel) ⟨Nat.le_of_ble_eq_true rfl, Nat.le_of_ble_eq_true rfl⟩) (by simp only [List.length_cons] at hn0; omega) hk0 (by decide) (q0 := (R_Rp, F_Rp, 8)) rfl rfl d_Rp_preacceptAgain_47
    · exact h.elim
theorem le_Rp_finishOpen {ls : List (Option me_V)} {M N : me_M} {v : Option me_V} (h : RUN eL X_Rp_finishOpen 0 ls [] M v N) : mSz M ≤ mSz N ∧ mSl M ≤ mSl N := by
  refine RUN.le (fun pc as M r M1 h => ?_) h
  unfold X_Rp_finishOpen at h
  dsimp only [xCall] at h
  split at h
  · exact le_At_lastAccepted h.2.2
  · exact le_At_sharedFastVote h.2.2
  · exact le_At_firstPreaccepted h.2.2
  · exact le_Rp_beginAccepting h.2.2
  · exact le_Rp_beginAccepting h.2.2
  · exact le_Rp_preacceptAgain h.2.2
  · exact le_Cmd_init h.2.2
  · exact le_Or_init h.2.2
  · exact le_Rp_beginAccepting h.2.2
  · exact h.elim
theorem snd_Rp_finishOpen {l : Launch} {B : Nat} {Dd : va_G} {cA : Nat → ClassId} {as : List me_V} {M N : me_M} {v : Option me_V} (hlen : as.length = 3) (hrun : RUN eL X_Rp_finishOpen 0 (as.map some ++ List.replicate (6 - 3) none) [] M v N) : Met l y_Rp_finishOpen (Cond.code y_Rp_finishOpen b_Rp_finishOpen 6 none :: LW) { frames := 4, cells := mSz N - mSz M, slots := mSl N - mSl M, locals := 96 } (me_Pc (mG B Dd cA) as M) (me_Qc (mG B Dd cA) v N) (mSz N - mSz M) (mSl N - mSl M) (fun q => B ≤ q) := by
  refine me_met (X := X_Rp_finishOpen) (el := eL) (G := mG B Dd cA) (cc := b_Rp_finishOpen) (maxL := 6) (ws' := LW) (ret := none) (by decide +kernel) rfl rfl (Or.inl ⟨rfl, rfl⟩) (by omega) rfl mG_CL mG_AT (le_Rp_finishOpen hrun) (fun args s hts hNw => ?_) (fun p e s m args below meth c Q S hK hNw pc as2 M2 r M1 h => ?_) (by rw [hlen]; exact hrun)
  · have ht : ∀ w ∈ LW, w.before args s = true := fun w hw => hts w (List.mem_cons_of_mem _ hw)
    refine ⟨?_, ?_, ?_, ?_, ?_, ?_, ?_, ?_, ?_⟩
    · intro idx ci k key ty h
      unfold X_Rp_finishOpen at h
      dsimp only [xF] at h
      split at h
      · cases h
        exact tf (r := (R_Rp, F_Rp, 8)) ht rfl (by decide) (by decide) rfl rfl cl_Rp rfl (mT 113 (by decide +kernel) rfl) (fun _ h => h.elim)
      · cases h
        exact tf (r := (R_Or, F_Or, 3)) ht rfl (by decide) (by decide) rfl rfl cl_Or rfl (mT 205 (by decide +kernel) rfl) (fun _ h => h.elim)
      · cases h
        exact tf (r := (R_Rt, F_Rt, 4)) ht rfl (by decide) (by decide) rfl rfl cl_Rt rfl (mT 431 (by decide +kernel) rfl) (fun _ h => h.elim)
      · cases h
    · exact tf_nil
    · exact fun _ _ _ _ _ _ (h : none = some _) => by cases h
    · intro idx ci n h
      unfold X_Rp_finishOpen at h
      dsimp only [xN] at h
      split at h
      · cases h
        exact tn (r := (R_Or, F_Or, 3)) ht rfl (by decide) rfl cl_Or (mT 198 (by decide +kernel) rfl) (mT 199 (by decide +kernel) rfl) (mT 8 (by decide +kernel) rfl)
      · cases h
        exact tn (r := (R_Cmd, F_Cmd, 3)) ht rfl (by decide) rfl cl_Cmd (mT 483 (by decide +kernel) rfl) (mT 176 (by decide +kernel) rfl) (mT 7 (by decide +kernel) rfl)
      · cases h
    · exact ta_nil
    · exact fun (h : none = some _) => by cases h
    · exact fun (h : none = some _) => by cases h
    · exact fun _ _ (h : none = some _) => by cases h
    · exact fun h => absurd rfl h
  · unfold X_Rp_finishOpen at h
    dsimp only [xCall] at h
    split at h
    · obtain ⟨⟨b0, t0, rfl, hk0⟩, hn0, hr0⟩ := h
      exact me_crV S hK mG_NW hNw (snd_At_lastAccepted hn0 hr0) (le_At_lastAccepted hr0).1 (le_At_lastAccepted hr0).2 (cwV (C := R_At) 0 S.2.2.2.2 (gV cI (mT 458 (by decide +kernel) rfl) (mT 455 (by decide +kernel) rfl) (mT 456 (by decide +kernel) rfl) (mT 457 (by decide +kernel) rfl) (mT 10 (by decide +kernel) rfl)) rfl rfl rfl (by decide +kernel) ⟨Nat.le_of_ble_eq_true rfl, Nat.le_of_ble_eq_true rfl⟩) (by simp only [List.length_cons] at hn0; omega) hk0 (by decide) (q0 := (R_At, F_At, 8)) rfl rfl d_Rp_finishOpen_1
    · obtain ⟨⟨b0, t0, rfl, hk0⟩, hn0, hr0⟩ := h
      exact me_crV S hK mG_NW hNw (snd_At_sharedFastVote hn0 hr0) (le_At_sharedFastVote hr0).1 (le_At_sharedFastVote hr0).2 (cwV (C := R_At) 2 S.2.2.2.2 (gV cI (mT 462 (by decide +kernel) rfl) (mT 459 (by decide +kernel) rfl) (mT 460 (by decide +kernel) rfl) (mT 461 (by decide +kernel) rfl) (mT 10 (by decide +kernel) rfl)) rfl rfl rfl (by decide +kernel) ⟨Nat.le_of_ble_eq_true rfl, Nat.le_of_ble_eq_true rfl⟩) (by simp only [List.length_cons] at hn0; omega) hk0 (by decide) (q0 := (R_At, F_At, 8)) rfl rfl d_Rp_finishOpen_14
    · obtain ⟨⟨b0, t0, rfl, hk0⟩, hn0, hr0⟩ := h
      exact me_crV S hK mG_NW hNw (snd_At_firstPreaccepted hn0 hr0) (le_At_firstPreaccepted hr0).1 (le_At_firstPreaccepted hr0).2 (cwV (C := R_At) 0 S.2.2.2.2 (gV cI (mT 478 (by decide +kernel) rfl) (mT 475 (by decide +kernel) rfl) (mT 476 (by decide +kernel) rfl) (mT 477 (by decide +kernel) rfl) (mT 10 (by decide +kernel) rfl)) rfl rfl rfl (by decide +kernel) ⟨Nat.le_of_ble_eq_true rfl, Nat.le_of_ble_eq_true rfl⟩) (by simp only [List.length_cons] at hn0; omega) hk0 (by decide) (q0 := (R_At, F_At, 8)) rfl rfl d_Rp_finishOpen_20
    · obtain ⟨⟨b0, t0, rfl, hk0⟩, hn0, hr0⟩ := h
      exact me_crV S hK mG_NW hNw (snd_Rp_beginAccepting hn0 hr0) (le_Rp_beginAccepting hr0).1 (le_Rp_beginAccepting hr0).2 (cwV (C := R_Rp) 3 S.2.2.2.2 (gV cI (mT 399 (by decide +kernel) rfl) (mT 396 (by decide +kernel) rfl) (mT 398 (by decide +kernel) rfl) (mS 12 (by decide +kernel) rfl) (mT 3 (by decide +kernel) rfl)) rfl rfl rfl (by decide +kernel) ⟨Nat.le_of_ble_eq_true rfl, Nat.le_of_ble_eq_true rfl⟩) (by simp only [List.length_cons] at hn0; omega) hk0 (by decide) (q0 := (R_Rp, F_Rp, 8)) rfl rfl d_Rp_finishOpen_36
    · obtain ⟨⟨b0, t0, rfl, hk0⟩, hn0, hr0⟩ := h
      exact me_crV S hK mG_NW hNw (snd_Rp_beginAccepting hn0 hr0) (le_Rp_beginAccepting hr0).1 (le_Rp_beginAccepting hr0).2 (cwV (C := R_Rp) 3 S.2.2.2.2 (gV cI (mT 399 (by decide +kernel) rfl) (mT 396 (by decide +kernel) rfl) (mT 398 (by decide +kernel) rfl) (mS 12 (by decide +kernel) rfl) (mT 3 (by decide +kernel) rfl)) rfl rfl rfl (by decide +kernel) ⟨Nat.le_of_ble_eq_true rfl, Nat.le_of_ble_eq_true rfl⟩) (by simp only [List.length_cons] at hn0; omega) hk0 (by decide) (q0 := (R_Rp, F_Rp, 8)) rfl rfl d_Rp_finishOpen_55
    · obtain ⟨⟨b0, t0, rfl, hk0⟩, hn0, hr0⟩ := h
      exact me_crV S hK mG_NW hNw (snd_Rp_preacceptAgain hn0 hr0) (le_Rp_preacceptAgain hr0).1 (le_Rp_preacceptAgain hr0).2 (cwV (C := R_Rp) 3 S.2.2.2.2 (gV cI (mT 482 (by decide +kernel) rfl) (mT 479 (by decide +kernel) rfl) (mT 481 (by decide +kernel) rfl) (mS 20 (by decide +kernel) rfl) (mT 3 (by decide +kernel) rfl)) rfl rfl rfl (by decide +kernel) ⟨Nat.le_of_ble_eq_true rfl, Nat.le_of_ble_eq_true rfl⟩) (by simp only [List.length_cons] at hn0; omega) hk0 (by decide) (q0 := (R_Rp, F_Rp, 8)) rfl rfl d_Rp_finishOpen_77
    · obtain ⟨⟨b0, t0, rfl, hk0⟩, hn0, hr0⟩ := h
      exact me_crI S hK mG_NW hNw (snd_Cmd_init hn0 hr0) (le_Cmd_init hr0).1 (le_Cmd_init hr0).2 (cwI 3 S.2.2.2.2 (gI cI (mT 179 (by decide +kernel) rfl)) rfl rfl rfl (S.2.2.2.2 _ (cI _ (mT 7 (by decide +kernel) rfl))) (S.2.2.2.2 _ (cI _ (mT 484 (by decide +kernel) rfl))) (S.2.2.2.2 _ (cI _ (mT 178 (by decide +kernel) rfl))) rfl (by decide +kernel) ⟨Nat.le_of_ble_eq_true rfl, Nat.le_of_ble_eq_true rfl⟩) (by simp only [List.length_cons] at hn0; omega) d_Rp_finishOpen_97
    · obtain ⟨⟨b0, t0, rfl, hk0⟩, hn0, hr0⟩ := h
      exact me_crI S hK mG_NW hNw (snd_Or_init hn0 hr0) (le_Or_init hr0).1 (le_Or_init hr0).2 (cwI 3 S.2.2.2.2 (gI cI (mT 202 (by decide +kernel) rfl)) rfl rfl rfl (S.2.2.2.2 _ (cI _ (mT 8 (by decide +kernel) rfl))) (S.2.2.2.2 _ (cI _ (mT 200 (by decide +kernel) rfl))) (S.2.2.2.2 _ (cI _ (mT 201 (by decide +kernel) rfl))) rfl (by decide +kernel) ⟨Nat.le_of_ble_eq_true rfl, Nat.le_of_ble_eq_true rfl⟩) (by simp only [List.length_cons] at hn0; omega) d_Rp_finishOpen_102
    · obtain ⟨⟨b0, t0, rfl, hk0⟩, hn0, hr0⟩ := h
      exact me_crV S hK mG_NW hNw (snd_Rp_beginAccepting hn0 hr0) (le_Rp_beginAccepting hr0).1 (le_Rp_beginAccepting hr0).2 (cwV (C := R_Rp) 3 S.2.2.2.2 (gV cI (mT 399 (by decide +kernel) rfl) (mT 396 (by decide +kernel) rfl) (mT 398 (by decide +kernel) rfl) (mS 12 (by decide +kernel) rfl) (mT 3 (by decide +kernel) rfl)) rfl rfl rfl (by decide +kernel) ⟨Nat.le_of_ble_eq_true rfl, Nat.le_of_ble_eq_true rfl⟩) (by simp only [List.length_cons] at hn0; omega) hk0 (by decide) (q0 := (R_Rp, F_Rp, 8)) rfl rfl d_Rp_finishOpen_105
    · exact h.elim
