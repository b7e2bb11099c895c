theorem le_Rp_onPromise {ls : List (Option me_V)} {M N : me_M} {v : Option me_V} (h : RUN eL X_Rp_onPromise 0 ls [] M v N) : mSz M ≤ mSz N ∧ mSl M ≤ mSl N := by
  refine RUN.le (fun pc as M r M1 h => ?_) h
  unfold X_Rp_onPromise at h
  dsimp only [xCall] at h
  split at h
  · exact le_Rp_liveAttempt h.2.2
  · exact le_At_countReport h.2.2
  · exact le_Rt_init h.2.2
  · exact le_At_countReport h.2.2
  · exact le_Rp_finishOpen h.2.2
  · exact h.elim
theorem snd_Rp_onPromise {l : Launch} {B : Nat} {Dd : va_G} {cA : Nat → ClassId} {as : List me_V} {M N : me_M} {v : Option me_V} (hlen : as.length = 3) (hrun : RUN eL X_Rp_onPromise 0 (as.map some ++ List.replicate (4 - 3) none) [] M v N) : Met l y_Rp_onPromise (Cond.code y_Rp_onPromise b_Rp_onPromise 4 none :: LW) { frames := 5, cells := mSz N - mSz M, slots := mSl N - mSl M, locals := 121 } (me_Pc (mG B Dd cA) as M) (me_Qc (mG B Dd cA) v N) (mSz N - mSz M) (mSl N - mSl M) (fun q => B ≤ q) := by
  refine me_met (X := X_Rp_onPromise) (el := eL) (G := mG B Dd cA) (cc := b_Rp_onPromise) (maxL := 4) (ws' := LW) (ret := none) (by decide +kernel) rfl rfl (Or.inl ⟨rfl, rfl⟩) (by omega) rfl mG_CL mG_AT (le_Rp_onPromise hrun) (fun args s hts hNw => ?_) (fun p e s m args below meth c Q S hK hNw pc as2 M2 r M1 h => ?_) (by rw [hlen]; exact hrun)
  · have ht : ∀ w ∈ LW, w.before args s = true := fun w hw => hts w (List.mem_cons_of_mem _ hw)
    refine ⟨?_, ?_, ?_, ?_, ?_, ?_, ?_, ?_, ?_⟩
    · intro idx ci k key ty h
      unfold X_Rp_onPromise at h
      dsimp only [xF] at h
      split at h
      · cases h
        exact tf (r := (R_Rp, F_Rp, 8)) ht rfl (by decide) (by decide) rfl rfl cl_Rp rfl (mT 111 (by decide +kernel) rfl) (fun _ h => h.elim)
      · cases h
        exact tf (r := (R_Rp, F_Rp, 8)) ht rfl (by decide) (by decide) rfl rfl cl_Rp rfl (mT 113 (by decide +kernel) rfl) (fun _ h => h.elim)
      · cases h
        exact tf (r := (R_Ms, F_Ms, 7)) ht rfl (by decide) (by decide) rfl rfl cl_Ms rfl (mT 294 (by decide +kernel) rfl) (fun _ h => h.elim)
      · cases h
        exact tf (r := (R_At, F_At, 8)) ht rfl (by decide) (by decide) rfl rfl cl_At rfl (mT 255 (by decide +kernel) rfl) (fun _ h => h.elim)
      · cases h
        exact tf (r := (R_Ms, F_Ms, 7)) ht rfl (by decide) (by decide) rfl rfl cl_Ms rfl (mT 301 (by decide +kernel) rfl) (fun _ h => h.elim)
      · cases h
    · exact tf_nil
    · exact fun _ _ _ _ _ _ (h : none = some _) => by cases h
    · intro idx ci n h
      unfold X_Rp_onPromise at h
      dsimp only [xN] at h
      split at h
      · cases h
        exact tn (r := (R_Rt, F_Rt, 4)) ht rfl (by decide) rfl cl_Rt (mT 420 (by decide +kernel) rfl) (mT 421 (by decide +kernel) rfl) (mT 12 (by decide +kernel) rfl)
      · cases h
    · exact ta_nil
    · exact fun (h : none = some _) => by cases h
    · exact fun (h : none = some _) => by cases h
    · exact fun _ _ (h : none = some _) => by cases h
    · exact fun h => absurd rfl h
  · unfold X_Rp_onPromise at h
    dsimp only [xCall] at h
    split at h
    · obtain ⟨⟨b0, t0, rfl, hk0⟩, hn0, hr0⟩ := h
      exact me_crV S hK mG_NW hNw (snd_Rp_liveAttempt hn0 hr0) (le_Rp_liveAttempt hr0).1 (le_Rp_liveAttempt hr0).2 (cwV (C := R_Rp) 2 S.2.2.2.2 (gV cI (mT 386 (by decide +kernel) rfl) (mT 383 (by decide +kernel) rfl) (mT 385 (by decide +kernel) rfl) (mS 10 (by decide +kernel) rfl) (mT 3 (by decide +kernel) rfl)) rfl rfl rfl (by decide +kernel) ⟨Nat.le_of_ble_eq_true rfl, Nat.le_of_ble_eq_true rfl⟩) (by simp only [List.length_cons] at hn0; omega) hk0 (by decide) (q0 := (R_Rp, F_Rp, 8)) rfl rfl d_Rp_onPromise_3
    · obtain ⟨⟨b0, t0, rfl, hk0⟩, hn0, hr0⟩ := h
      exact me_crV S hK mG_NW hNw (snd_At_countReport hn0 hr0) (le_At_countReport hr0).1 (le_At_countReport hr0).2 (cwV (C := R_At) 1 S.2.2.2.2 (gV cI (mT 450 (by decide +kernel) rfl) (mT 447 (by decide +kernel) rfl) (mT 448 (by decide +kernel) rfl) (mT 449 (by decide +kernel) rfl) (mT 10 (by decide +kernel) rfl)) rfl rfl rfl (by decide +kernel) ⟨Nat.le_of_ble_eq_true rfl, Nat.le_of_ble_eq_true rfl⟩) (by simp only [List.length_cons] at hn0; omega) hk0 (by decide) (q0 := (R_At, F_At, 8)) rfl rfl d_Rp_onPromise_17
    · obtain ⟨⟨b0, t0, rfl, hk0⟩, hn0, hr0⟩ := h
      exact me_crI S hK mG_NW hNw (snd_Rt_init hn0 hr0) (le_Rt_init hr0).1 (le_Rt_init hr0).2 (cwI 2 S.2.2.2.2 (gI cI (mT 424 (by decide +kernel) rfl)) rfl rfl rfl (S.2.2.2.2 _ (cI _ (mT 12 (by decide +kernel) rfl))) (S.2.2.2.2 _ (cI _ (mT 422 (by decide +kernel) rfl))) (S.2.2.2.2 _ (cI _ (mT 423 (by decide +kernel) rfl))) rfl (by decide +kernel) ⟨Nat.le_of_ble_eq_true rfl, Nat.le_of_ble_eq_true rfl⟩) (by simp only [List.length_cons] at hn0; omega) d_Rp_onPromise_41
    · obtain ⟨⟨b0, t0, rfl, hk0⟩, hn0, hr0⟩ := h
      exact me_crV S hK mG_NW hNw (snd_At_countReport hn0 hr0) (le_At_countReport hr0).1 (le_At_countReport hr0).2 (cwV (C := R_At) 1 S.2.2.2.2 (gV cI (mT 450 (by decide +kernel) rfl) (mT 447 (by decide +kernel) rfl) (mT 448 (by decide +kernel) rfl) (mT 449 (by decide +kernel) rfl) (mT 10 (by decide +kernel) rfl)) rfl rfl rfl (by decide +kernel) ⟨Nat.le_of_ble_eq_true rfl, Nat.le_of_ble_eq_true rfl⟩) (by simp only [List.length_cons] at hn0; omega) hk0 (by decide) (q0 := (R_At, F_At, 8)) rfl rfl d_Rp_onPromise_44
    · obtain ⟨⟨b0, t0, rfl, hk0⟩, hn0, hr0⟩ := h
      exact me_crV S hK mG_NW hNw (snd_Rp_finishOpen hn0 hr0) (le_Rp_finishOpen hr0).1 (le_Rp_finishOpen hr0).2 (cwV (C := R_Rp) 2 S.2.2.2.2 (gV cI (mT 454 (by decide +kernel) rfl) (mT 451 (by decide +kernel) rfl) (mT 453 (by decide +kernel) rfl) (mS 18 (by decide +kernel) rfl) (mT 3 (by decide +kernel) rfl)) rfl rfl rfl (by decide +kernel) ⟨Nat.le_of_ble_eq_true rfl, Nat.le_of_ble_eq_true rfl⟩) (by simp only [List.length_cons] at hn0; omega) hk0 (by decide) (q0 := (R_Rp, F_Rp, 8)) rfl rfl d_Rp_onPromise_53
    · exact h.elim
theorem le_Rp_receive {ls : List (Option me_V)} {M N : me_M} {v : Option me_V} (h : RUN eL X_Rp_receive 0 ls [] M v N) : mSz M ≤ mSz N ∧ mSl M ≤ mSl N := by
  refine RUN.le (fun pc as M r M1 h => ?_) h
  unfold X_Rp_receive at h
  dsimp only [xCall] at h
  split at h
  · exact le_Ms_asksForVote h.2.2
  · exact le_En_isSettled h.2.2
  · exact le_Rp_sendBack h.2.2
  · exact le_Rp_onPreaccept h.2.2
  · exact le_Rp_onPreacceptOk h.2.2
  · exact le_Rp_onAccept h.2.2
  · exact le_Rp_onAcceptOk h.2.2
  · exact le_Rp_onCommit h.2.2
  · exact le_Rp_onPrepare h.2.2
  · exact le_Rp_onPromise h.2.2
  · exact h.elim
theorem snd_Rp_receive {l : Launch} {B : Nat} {Dd : va_G} {cA : Nat → ClassId} {as : List me_V} {M N : me_M} {v : Option me_V} (hlen : as.length = 2) (hrun : RUN eL X_Rp_receive 0 (as.map some ++ List.replicate (3 - 2) none) [] M v N) : Met l y_Rp_receive (Cond.code y_Rp_receive b_Rp_receive 3 none :: LW) { frames := 6, cells := mSz N - mSz M, slots := mSl N - mSl M, locals := 144 } (me_Pc (mG B Dd cA) as M) (me_Qc (mG B Dd cA) v N) (mSz N - mSz M) (mSl N - mSl M) (fun q => B ≤ q) := by
  refine me_met (X := X_Rp_receive) (el := eL) (G := mG B Dd cA) (cc := b_Rp_receive) (maxL := 3) (ws' := LW) (ret := none) (by decide +kernel) rfl rfl (Or.inl ⟨rfl, rfl⟩) (by omega) rfl mG_CL mG_AT (le_Rp_receive hrun) (fun args s hts hNw => ?_) (fun p e s m args below meth c Q S hK hNw pc as2 M2 r M1 h => ?_) (by rw [hlen]; exact hrun)
  · have ht : ∀ w ∈ LW, w.before args s = true := fun w hw => hts w (List.mem_cons_of_mem _ hw)
    refine ⟨?_, ?_, ?_, ?_, ?_, ?_, ?_, ?_, ?_⟩
    · intro idx ci k key ty h
      unfold X_Rp_receive at h
      dsimp only [xF] at h
      split at h
      · cases h
        exact tf (r := (R_Rp, F_Rp, 8)) ht rfl (by decide) (by decide) rfl rfl cl_Rp rfl (mT 115 (by decide +kernel) rfl) (fun _ h => h.elim)
      · cases h
        exact tf (r := (R_Rp, F_Rp, 8)) ht rfl (by decide) (by decide) rfl rfl cl_Rp rfl (mT 120 (by decide +kernel) rfl) (fun _ h => h.elim)
      · cases h
        exact tf (r := (R_Ms, F_Ms, 7)) ht rfl (by decide) (by decide) rfl rfl cl_Ms rfl (mT 294 (by decide +kernel) rfl) (fun _ h => h.elim)
      · cases h
        exact tf (r := (R_En, F_En, 6)) ht rfl (by decide) (by decide) rfl rfl cl_En rfl (mT 63 (by decide +kernel) rfl) (fun _ h => h.elim)
      · cases h
        exact tf (r := (R_Ms, F_Ms, 7)) ht rfl (by decide) (by decide) rfl rfl cl_Ms rfl (mT 287 (by decide +kernel) rfl) (fun _ h => h.elim)
      · cases h
    · exact tf_nil
    · exact fun _ _ _ _ _ _ (h : none = some _) => by cases h
    · exact tn_nil
    · exact ta_nil
    · exact fun (h : none = some _) => by cases h
    · exact fun (h : none = some _) => by cases h
    · exact fun _ _ (h : none = some _) => by cases h
    · exact fun h => absurd rfl h
  · unfold X_Rp_receive at h
    dsimp only [xCall] at h
    split at h
    · obtain ⟨⟨b0, t0, rfl, hk0⟩, hn0, hr0⟩ := h
      exact me_crV S hK mG_NW hNw (snd_Ms_asksForVote hn0 hr0) (le_Ms_asksForVote hr0).1 (le_Ms_asksForVote hr0).2 (cwV (C := R_Ms) 0 S.2.2.2.2 (gV cI (mT 364 (by decide +kernel) rfl) (mT 361 (by decide +kernel) rfl) (mT 362 (by decide +kernel) rfl) (mT 363 (by decide +kernel) rfl) (mT 11 (by decide +kernel) rfl)) rfl rfl rfl (by decide +kernel) ⟨Nat.le_of_ble_eq_true rfl, Nat.le_of_ble_eq_true rfl⟩) (by simp only [List.length_cons] at hn0; omega) hk0 (by decide) (q0 := (R_Ms, F_Ms, 7)) rfl rfl d_Rp_receive_19
    · obtain ⟨⟨b0, t0, rfl, hk0⟩, hn0, hr0⟩ := h
      exact me_crV S hK mG_NW hNw (snd_En_isSettled hn0 hr0) (le_En_isSettled hr0).1 (le_En_isSettled hr0).2 (cwV (C := R_En) 0 S.2.2.2.2 (gV cI (mT 332 (by decide +kernel) rfl) (mT 365 (by decide +kernel) rfl) (mT 330 (by decide +kernel) rfl) (mT 331 (by decide +kernel) rfl) (mT 4 (by decide +kernel) rfl)) rfl rfl rfl (by decide +kernel) ⟨Nat.le_of_ble_eq_true rfl, Nat.le_of_ble_eq_true rfl⟩) (by simp only [List.length_cons] at hn0; omega) hk0 (by decide) (q0 := (R_En, F_En, 6)) rfl rfl d_Rp_receive_26
    · obtain ⟨⟨b0, t0, rfl, hk0⟩, hn0, hr0⟩ := h
      exact me_crV S hK mG_NW hNw (snd_Rp_sendBack hn0 hr0) (le_Rp_sendBack hr0).1 (le_Rp_sendBack hr0).2 (cwV (C := R_Rp) 4 S.2.2.2.2 (gV cI (mT 369 (by decide +kernel) rfl) (mT 366 (by decide +kernel) rfl) (mT 368 (by decide +kernel) rfl) (mS 7 (by decide +kernel) rfl) (mT 3 (by decide +kernel) rfl)) rfl rfl rfl (by decide +kernel) ⟨Nat.le_of_ble_eq_true rfl, Nat.le_of_ble_eq_true rfl⟩) (by simp only [List.length_cons] at hn0; omega) hk0 (by decide) (q0 := (R_Rp, F_Rp, 8)) rfl rfl d_Rp_receive_40
    · obtain ⟨⟨b0, t0, rfl, hk0⟩, hn0, hr0⟩ := h
      exact me_crV S hK mG_NW hNw (snd_Rp_onPreaccept hn0 hr0) (le_Rp_onPreaccept hr0).1 (le_Rp_onPreaccept hr0).2 (cwV (C := R_Rp) 2 S.2.2.2.2 (gV cI (mT 373 (by decide +kernel) rfl) (mT 370 (by decide +kernel) rfl) (mT 372 (by decide +kernel) rfl) (mS 8 (by decide +kernel) rfl) (mT 3 (by decide +kernel) rfl)) rfl rfl rfl (by decide +kernel) ⟨Nat.le_of_ble_eq_true rfl, Nat.le_of_ble_eq_true rfl⟩) (by simp only [List.length_cons] at hn0; omega) hk0 (by decide) (q0 := (R_Rp, F_Rp, 8)) rfl rfl d_Rp_receive_95
    · obtain ⟨⟨b0, t0, rfl, hk0⟩, hn0, hr0⟩ := h
      exact me_crV S hK mG_NW hNw (snd_Rp_onPreacceptOk hn0 hr0) (le_Rp_onPreacceptOk hr0).1 (le_Rp_onPreacceptOk hr0).2 (cwV (C := R_Rp) 1 S.2.2.2.2 (gV cI (mT 382 (by decide +kernel) rfl) (mT 379 (by decide +kernel) rfl) (mT 381 (by decide +kernel) rfl) (mS 9 (by decide +kernel) rfl) (mT 3 (by decide +kernel) rfl)) rfl rfl rfl (by decide +kernel) ⟨Nat.le_of_ble_eq_true rfl, Nat.le_of_ble_eq_true rfl⟩) (by simp only [List.length_cons] at hn0; omega) hk0 (by decide) (q0 := (R_Rp, F_Rp, 8)) rfl rfl d_Rp_receive_103
    · obtain ⟨⟨b0, t0, rfl, hk0⟩, hn0, hr0⟩ := h
      exact me_crV S hK mG_NW hNw (snd_Rp_onAccept hn0 hr0) (le_Rp_onAccept hr0).1 (le_Rp_onAccept hr0).2 (cwV (C := R_Rp) 2 S.2.2.2.2 (gV cI (mT 407 (by decide +kernel) rfl) (mT 404 (by decide +kernel) rfl) (mT 406 (by decide +kernel) rfl) (mS 13 (by decide +kernel) rfl) (mT 3 (by decide +kernel) rfl)) rfl rfl rfl (by decide +kernel) ⟨Nat.le_of_ble_eq_true rfl, Nat.le_of_ble_eq_true rfl⟩) (by simp only [List.length_cons] at hn0; omega) hk0 (by decide) (q0 := (R_Rp, F_Rp, 8)) rfl rfl d_Rp_receive_112
    · obtain ⟨⟨b0, t0, rfl, hk0⟩, hn0, hr0⟩ := h
      exact me_crV S hK mG_NW hNw (snd_Rp_onAcceptOk hn0 hr0) (le_Rp_onAcceptOk hr0).1 (le_Rp_onAcceptOk hr0).2 (cwV (C := R_Rp) 1 S.2.2.2.2 (gV cI (mT 411 (by decide +kernel) rfl) (mT 408 (by decide +kernel) rfl) (mT 410 (by decide +kernel) rfl) (mS 14 (by decide +kernel) rfl) (mT 3 (by decide +kernel) rfl)) rfl rfl rfl (by decide +kernel) ⟨Nat.le_of_ble_eq_true rfl, Nat.le_of_ble_eq_true rfl⟩) (by simp only [List.length_cons] at hn0; omega) hk0 (by decide) (q0 := (R_Rp, F_Rp, 8)) rfl rfl d_Rp_receive_120
    · obtain ⟨⟨b0, t0, rfl, hk0⟩, hn0, hr0⟩ := h
      exact me_crV S hK mG_NW hNw (snd_Rp_onCommit hn0 hr0) (le_Rp_onCommit hr0).1 (le_Rp_onCommit hr0).2 (cwV (C := R_Rp) 2 S.2.2.2.2 (gV cI (mT 415 (by decide +kernel) rfl) (mT 412 (by decide +kernel) rfl) (mT 414 (by decide +kernel) rfl) (mS 15 (by decide +kernel) rfl) (mT 3 (by decide +kernel) rfl)) rfl rfl rfl (by decide +kernel) ⟨Nat.le_of_ble_eq_true rfl, Nat.le_of_ble_eq_true rfl⟩) (by simp only [List.length_cons] at hn0; omega) hk0 (by decide) (q0 := (R_Rp, F_Rp, 8)) rfl rfl d_Rp_receive_129
    · obtain ⟨⟨b0, t0, rfl, hk0⟩, hn0, hr0⟩ := h
      exact me_crV S hK mG_NW hNw (snd_Rp_onPrepare hn0 hr0) (le_Rp_onPrepare hr0).1 (le_Rp_onPrepare hr0).2 (cwV (C := R_Rp) 2 S.2.2.2.2 (gV cI (mT 419 (by decide +kernel) rfl) (mT 416 (by decide +kernel) rfl) (mT 418 (by decide +kernel) rfl) (mS 16 (by decide +kernel) rfl) (mT 3 (by decide +kernel) rfl)) rfl rfl rfl (by decide +kernel) ⟨Nat.le_of_ble_eq_true rfl, Nat.le_of_ble_eq_true rfl⟩) (by simp only [List.length_cons] at hn0; omega) hk0 (by decide) (q0 := (R_Rp, F_Rp, 8)) rfl rfl d_Rp_receive_138
    · obtain ⟨⟨b0, t0, rfl, hk0⟩, hn0, hr0⟩ := h
      exact me_crV S hK mG_NW hNw (snd_Rp_onPromise hn0 hr0) (le_Rp_onPromise hr0).1 (le_Rp_onPromise hr0).2 (cwV (C := R_Rp) 2 S.2.2.2.2 (gV cI (mT 446 (by decide +kernel) rfl) (mT 443 (by decide +kernel) rfl) (mT 445 (by decide +kernel) rfl) (mS 17 (by decide +kernel) rfl) (mT 3 (by decide +kernel) rfl)) rfl rfl rfl (by decide +kernel) ⟨Nat.le_of_ble_eq_true rfl, Nat.le_of_ble_eq_true rfl⟩) (by simp only [List.length_cons] at hn0; omega) hk0 (by decide) (q0 := (R_Rp, F_Rp, 8)) rfl rfl d_Rp_receive_147
    · exact h.elim
theorem le_LM_deliver {ls : List (Option me_V)} {M N : me_M} {v : Option me_V} (h : RUN eL X_LM_deliver 0 ls [] M v N) : mSz M ≤ mSz N ∧ mSl M ≤ mSl N := by
  refine RUN.le (fun pc as M r M1 h => ?_) h
  unfold X_LM_deliver at h
  dsimp only [xCall] at h
  split at h
  · exact le_Net_take h.2.2
  · exact le_Rp_receive h.2.2
  · exact h.elim
theorem snd_LM_deliver {l : Launch} {B : Nat} {Dd : va_G} {cA : Nat → ClassId} {as : List me_V} {M N : me_M} {v : Option me_V} (hlen : as.length = 2) (hrun : RUN eL X_LM_deliver 0 (as.map some ++ List.replicate (3 - 2) none) [] M v N) : Met l y_LM_deliver (Cond.code y_LM_deliver b_LM_deliver 3 (some .int) :: LW) { frames := 7, cells := mSz N - mSz M, slots := mSl N - mSl M, locals := 166 } (me_Pc (mG B Dd cA) as M) (me_Qc (mG B Dd cA) v N) (mSz N - mSz M) (mSl N - mSl M) (fun q => B ≤ q) := by
  refine me_met (X := X_LM_deliver) (el := eL) (G := mG B Dd cA) (cc := b_LM_deliver) (maxL := 3) (ws' := LW) (ret := (some .int)) (by decide +kernel) rfl rfl (Or.inr (Or.inl ⟨rfl, rfl⟩)) (by omega) rfl mG_CL mG_AT (le_LM_deliver hrun) (fun args s hts hNw => ?_) (fun p e s m args below meth c Q S hK hNw pc as2 M2 r M1 h => ?_) (by rw [hlen]; exact hrun)
  · have ht : ∀ w ∈ LW, w.before args s = true := fun w hw => hts w (List.mem_cons_of_mem _ hw)
    refine ⟨?_, ?_, ?_, ?_, ?_, ?_, ?_, ?_, ?_⟩
    · intro idx ci k key ty h
      unfold X_LM_deliver at h
      dsimp only [xF] at h
      split at h
      · cases h
        exact tf (r := (R_LM, F_LM, 5)) ht rfl (by decide) (by decide) rfl rfl cl_LM rfl (mT 141 (by decide +kernel) rfl) (fun _ h => h.elim)
      · cases h
        exact tf (r := (R_LM, F_LM, 5)) ht rfl (by decide) (by decide) rfl rfl cl_LM rfl (mT 142 (by decide +kernel) rfl) (fun _ h => h.elim)
      · cases h
        exact tf (r := (R_Ms, F_Ms, 7)) ht rfl (by decide) (by decide) rfl rfl cl_Ms rfl (mT 292 (by decide +kernel) rfl) (fun _ h => h.elim)
      · cases h
        exact tf (r := (R_Ms, F_Ms, 7)) ht rfl (by decide) (by decide) rfl rfl cl_Ms rfl (mT 286 (by decide +kernel) rfl) (fun _ h => h.elim)
      · cases h
    · exact tf_nil
    · exact fun _ _ _ _ _ _ (h : none = some _) => by cases h
    · exact tn_nil
    · exact ta_nil
    · exact fun (h : none = some _) => by cases h
    · exact fun (h : none = some _) => by cases h
    · exact fun _ _ (h : none = some _) => by cases h
    · exact fun h => absurd rfl h
  · unfold X_LM_deliver at h
    dsimp only [xCall] at h
    split at h
    · obtain ⟨⟨b0, t0, rfl, hk0⟩, hn0, hr0⟩ := h
      exact me_crV S hK mG_NW hNw (snd_Net_take hn0 hr0) (le_Net_take hr0).1 (le_Net_take hr0).2 (cwV (C := R_Net) 1 S.2.2.2.2 (gV cI (mT 352 (by decide +kernel) rfl) (mT 349 (by decide +kernel) rfl) (mT 350 (by decide +kernel) rfl) (mT 351 (by decide +kernel) rfl) (mT 2 (by decide +kernel) rfl)) rfl rfl rfl (by decide +kernel) ⟨Nat.le_of_ble_eq_true rfl, Nat.le_of_ble_eq_true rfl⟩) (by simp only [List.length_cons] at hn0; omega) hk0 (by decide) (q0 := (R_Net, F_Net, 3)) rfl rfl d_LM_deliver_5
    · obtain ⟨⟨b0, t0, rfl, hk0⟩, hn0, hr0⟩ := h
      exact me_crV S hK mG_NW hNw (snd_Rp_receive hn0 hr0) (le_Rp_receive hr0).1 (le_Rp_receive hr0).2 (cwV (C := R_Rp) 1 S.2.2.2.2 (gV cI (mT 360 (by decide +kernel) rfl) (mT 357 (by decide +kernel) rfl) (mT 358 (by decide +kernel) rfl) (mT 359 (by decide +kernel) rfl) (mT 3 (by decide +kernel) rfl)) rfl rfl rfl (by decide +kernel) ⟨Nat.le_of_ble_eq_true rfl, Nat.le_of_ble_eq_true rfl⟩) (by simp only [List.length_cons] at hn0; omega) hk0 (by decide) (q0 := (R_Rp, F_Rp, 8)) rfl rfl d_LM_deliver_25
    · exact h.elim
theorem le_LM_lose {ls : List (Option me_V)} {M N : me_M} {v : Option me_V} (h : RUN eL X_LM_lose 0 ls [] M v N) : mSz M ≤ mSz N ∧ mSl M ≤ mSl N := by
  refine RUN.le (fun pc as M r M1 h => ?_) h
  unfold X_LM_lose at h
  dsimp only [xCall] at h
  split at h
  · exact le_Net_take h.2.2
  · exact h.elim
theorem snd_LM_lose {l : Launch} {B : Nat} {Dd : va_G} {cA : Nat → ClassId} {as : List me_V} {M N : me_M} {v : Option me_V} (hlen : as.length = 2) (hrun : RUN eL X_LM_lose 0 (as.map some ++ List.replicate (2 - 2) none) [] M v N) : Met l y_LM_lose (Cond.code y_LM_lose b_LM_lose 2 (some .boolean) :: LW) { frames := 2, cells := mSz N - mSz M, slots := mSl N - mSl M, locals := 44 } (me_Pc (mG B Dd cA) as M) (me_Qc (mG B Dd cA) v N) (mSz N - mSz M) (mSl N - mSl M) (fun q => B ≤ q) := by
  refine me_met (X := X_LM_lose) (el := eL) (G := mG B Dd cA) (cc := b_LM_lose) (maxL := 2) (ws' := LW) (ret := (some .boolean)) (by decide +kernel) rfl rfl (Or.inr (Or.inr (Or.inl ⟨rfl, rfl⟩))) (by omega) rfl mG_CL mG_AT (le_LM_lose hrun) (fun args s hts hNw => ?_) (fun p e s m args below meth c Q S hK hNw pc as2 M2 r M1 h => ?_) (by rw [hlen]; exact hrun)
  · have ht : ∀ w ∈ LW, w.before args s = true := fun w hw => hts w (List.mem_cons_of_mem _ hw)
    refine ⟨?_, ?_, ?_, ?_, ?_, ?_, ?_, ?_, ?_⟩
    · intro idx ci k key ty h
      unfold X_LM_lose at h
      dsimp only [xF] at h
      split at h
      · cases h
        exact tf (r := (R_LM, F_LM, 5)) ht rfl (by decide) (by decide) rfl rfl cl_LM rfl (mT 141 (by decide +kernel) rfl) (fun _ h => h.elim)
      · cases h
    · exact tf_nil
    · exact fun _ _ _ _ _ _ (h : none = some _) => by cases h
    · exact tn_nil
    · exact ta_nil
    · exact fun (h : none = some _) => by cases h
    · exact fun (h : none = some _) => by cases h
    · exact fun _ _ (h : none = some _) => by cases h
    · exact fun h => absurd rfl h
  · unfold X_LM_lose at h
    dsimp only [xCall] at h
    split at h
    · obtain ⟨⟨b0, t0, rfl, hk0⟩, hn0, hr0⟩ := h
      exact me_crV S hK mG_NW hNw (snd_Net_take hn0 hr0) (le_Net_take hr0).1 (le_Net_take hr0).2 (cwV (C := R_Net) 1 S.2.2.2.2 (gV cI (mT 352 (by decide +kernel) rfl) (mT 349 (by decide +kernel) rfl) (mT 350 (by decide +kernel) rfl) (mT 351 (by decide +kernel) rfl) (mT 2 (by decide +kernel) rfl)) rfl rfl rfl (by decide +kernel) ⟨Nat.le_of_ble_eq_true rfl, Nat.le_of_ble_eq_true rfl⟩) (by simp only [List.length_cons] at hn0; omega) hk0 (by decide) (q0 := (R_Net, F_Net, 3)) rfl rfl d_LM_lose_5
    · exact h.elim
theorem le_LM_crash {ls : List (Option me_V)} {M N : me_M} {v : Option me_V} (h : RUN eL X_LM_crash 0 ls [] M v N) : mSz M ≤ mSz N ∧ mSl M ≤ mSl N := by
  refine RUN.le (fun pc as M r M1 h => ?_) h
  unfold X_LM_crash at h
  dsimp only [xCall] at h
  split at h
  · exact le_LM_workingReplica h.2.2
  · exact h.elim
theorem snd_LM_crash {l : Launch} {B : Nat} {Dd : va_G} {cA : Nat → ClassId} {as : List me_V} {M N : me_M} {v : Option me_V} (hlen : as.length = 2) (hrun : RUN eL X_LM_crash 0 (as.map some ++ List.replicate (3 - 2) none) [] M v N) : Met l y_LM_crash (Cond.code y_LM_crash b_LM_crash 3 (some .boolean) :: LW) { frames := 2, cells := mSz N - mSz M, slots := mSl N - mSl M, locals := 42 } (me_Pc (mG B Dd cA) as M) (me_Qc (mG B Dd cA) v N) (mSz N - mSz M) (mSl N - mSl M) (fun q => B ≤ q) := by
  refine me_met (X := X_LM_crash) (el := eL) (G := mG B Dd cA) (cc := b_LM_crash) (maxL := 3) (ws' := LW) (ret := (some .boolean)) (by decide +kernel) rfl rfl (Or.inr (Or.inr (Or.inl ⟨rfl, rfl⟩))) (by omega) rfl mG_CL mG_AT (le_LM_crash hrun) (fun args s hts hNw => ?_) (fun p e s m args below meth c Q S hK hNw pc as2 M2 r M1 h => ?_) (by rw [hlen]; exact hrun)
  · have ht : ∀ w ∈ LW, w.before args s = true := fun w hw => hts w (List.mem_cons_of_mem _ hw)
    refine ⟨?_, ?_, ?_, ?_, ?_, ?_, ?_, ?_, ?_⟩
    · intro idx ci k key ty h
      unfold X_LM_crash at h
      dsimp only [xF] at h
      split at h
      · cases h
        exact tf (r := (R_LM, F_LM, 5)) ht rfl (by decide) (by decide) rfl rfl cl_LM rfl (mT 140 (by decide +kernel) rfl) (fun _ h => h.elim)
      · cases h
        exact tf (r := (R_LM, F_LM, 5)) ht rfl (by decide) (by decide) rfl rfl cl_LM rfl (mT 143 (by decide +kernel) rfl) (fun _ h => h.elim)
      · cases h
    · intro idx ci k key ty h
      unfold X_LM_crash at h
      dsimp only [xG] at h
      split at h
      · cases h
        exact tf (r := (R_LM, F_LM, 5)) ht rfl (by decide) (by decide) rfl rfl cl_LM rfl (mT 143 (by decide +kernel) rfl) (fun _ _ => rfl)
      · cases h
        exact tf (r := (R_Rp, F_Rp, 8)) ht rfl (by decide) (by decide) rfl rfl cl_Rp rfl (mT 121 (by decide +kernel) rfl) (fun h => absurd h (by decide))
      · cases h
    · intro idx ci k key ty r h hr hf
      unfold X_LM_crash at h
      dsimp only [xG] at h
      split at h
      · cases h
        cases hr
        exact absurd hf (by decide)
      · cases h
        cases hr
        exact absurd hf (by decide)
      · cases h
    · exact tn_nil
    · exact ta_nil
    · exact fun (h : none = some _) => by cases h
    · exact fun (h : none = some _) => by cases h
    · exact fun _ _ (h : none = some _) => by cases h
    · exact fun h => absurd rfl h
  · unfold X_LM_crash at h
    dsimp only [xCall] at h
    split at h
    · obtain ⟨⟨b0, t0, rfl, hk0⟩, hn0, hr0⟩ := h
      exact me_crV S hK mG_NW hNw (snd_LM_workingReplica hn0 hr0) (le_LM_workingReplica hr0).1 (le_LM_workingReplica hr0).2 (cwV (C := R_LM) 1 S.2.2.2.2 (gV cI (mT 162 (by decide +kernel) rfl) (mT 159 (by decide +kernel) rfl) (mT 161 (by decide +kernel) rfl) (mS 0 (by decide +kernel) rfl) (mT 1 (by decide +kernel) rfl)) rfl rfl rfl (by decide +kernel) ⟨Nat.le_of_ble_eq_true rfl, Nat.le_of_ble_eq_true rfl⟩) (by simp only [List.length_cons] at hn0; omega) hk0 (by decide) (q0 := (R_LM, F_LM, 5)) rfl rfl d_LM_crash_2
    · exact h.elim
theorem le_Sto_contains {ls : List (Option me_V)} {M N : me_M} {v : Option me_V} (h : RUN eL X_Sto_contains 0 ls [] M v N) : mSz M ≤ mSz N ∧ mSl M ≤ mSl N := by
  refine RUN.le (fun pc as M r M1 h => ?_) h
  exact False.elim h
theorem snd_Sto_contains {l : Launch} {B : Nat} {Dd : va_G} {cA : Nat → ClassId} {as : List me_V} {M N : me_M} {v : Option me_V} (hlen : as.length = 2) (hrun : RUN eL X_Sto_contains 0 (as.map some ++ List.replicate (2 - 2) none) [] M v N) : Met l y_Sto_contains (Cond.code y_Sto_contains b_Sto_contains 2 (some .boolean) :: LW) { frames := 0, cells := mSz N - mSz M, slots := mSl N - mSl M, locals := 0 } (me_Pc (mG B Dd cA) as M) (me_Qc (mG B Dd cA) v N) (mSz N - mSz M) (mSl N - mSl M) (fun q => B ≤ q) := by
  refine me_met (X := X_Sto_contains) (el := eL) (G := mG B Dd cA) (cc := b_Sto_contains) (maxL := 2) (ws' := LW) (ret := (some .boolean)) (by decide +kernel) rfl rfl (Or.inr (Or.inr (Or.inl ⟨rfl, rfl⟩))) (by omega) rfl mG_CL mG_AT (le_Sto_contains hrun) (fun args s hts hNw => ?_) (fun p e s m args below meth c Q S hK hNw pc as2 M2 r M1 h => ?_) (by rw [hlen]; exact hrun)
  · have ht : ∀ w ∈ LW, w.before args s = true := fun w hw => hts w (List.mem_cons_of_mem _ hw)
    refine ⟨?_, ?_, ?_, ?_, ?_, ?_, ?_, ?_, ?_⟩
    · exact tf_nil
    · exact tf_nil
    · exact fun _ _ _ _ _ _ (h : none = some _) => by cases h
    · exact tn_nil
    · exact ta_nil
    · exact fun (h : none = some _) => by cases h
    · exact fun (h : none = some _) => by cases h
    · exact fun _ _ (h : none = some _) => by cases h
    · exact fun h => absurd rfl h
  · exact False.elim h
theorem le_Sto_findReach {ls : List (Option me_V)} {M N : me_M} {v : Option me_V} (h : RUN eL X_Sto_findReach 0 ls [] M v N) : mSz M ≤ mSz N ∧ mSl M ≤ mSl N := by
  refine RUN.le (fun pc as M r M1 h => ?_) h
  unfold X_Sto_findReach at h
  dsimp only [xCall] at h
  split at h
  · exact le_Sto_contains h.2
  · exact h.elim
theorem snd_Sto_findReach {l : Launch} {B : Nat} {Dd : va_G} {cA : Nat → ClassId} {as : List me_V} {M N : me_M} {v : Option me_V} (hlen : as.length = 2) (hrun : RUN eL X_Sto_findReach 0 (as.map some ++ List.replicate (4 - 2) none) [] M v N) : Met l y_Sto_findReach (Cond.code y_Sto_findReach b_Sto_findReach 4 none :: LW) { frames := 1, cells := mSz N - mSz M, slots := mSl N - mSl M, locals := 21 } (me_Pc (mG B Dd cA) as M) (me_Qc (mG B Dd cA) v N) (mSz N - mSz M) (mSl N - mSl M) (fun q => B ≤ q) := by
  refine me_met (X := X_Sto_findReach) (el := eL) (G := mG B Dd cA) (cc := b_Sto_findReach) (maxL := 4) (ws' := LW) (ret := none) (by decide +kernel) rfl rfl (Or.inl ⟨rfl, rfl⟩) (by omega) rfl mG_CL mG_AT (le_Sto_findReach hrun) (fun args s hts hNw => ?_) (fun p e s m args below meth c Q S hK hNw pc as2 M2 r M1 h => ?_) (by rw [hlen]; exact hrun)
  · have ht : ∀ w ∈ LW, w.before args s = true := fun w hw => hts w (List.mem_cons_of_mem _ hw)
    refine ⟨?_, ?_, ?_, ?_, ?_, ?_, ?_, ?_, ?_⟩
    · intro idx ci k key ty h
      unfold X_Sto_findReach at h
      dsimp only [xF] at h
      split at h
      · cases h
        exact tf (r := (R_Sto, F_Sto, 4)) ht rfl (by decide) (by decide) rfl rfl cl_Sto rfl (mT 98 (by decide +kernel) rfl) (fun _ h => h.elim)
      · cases h
        exact tf (r := (R_En, F_En, 6)) ht rfl (by decide) (by decide) rfl rfl cl_En rfl (mT 58 (by decide +kernel) rfl) (fun _ h => h.elim)
      · cases h
        exact tf (r := (R_En, F_En, 6)) ht rfl (by decide) (by decide) rfl rfl cl_En rfl (mT 62 (by decide +kernel) rfl) (fun _ h => h.elim)
      · cases h
        exact tf (r := (R_Or, F_Or, 3)) ht rfl (by decide) (by decide) rfl rfl cl_Or rfl (mT 215 (by decide +kernel) rfl) (fun _ h => h.elim)
      · cases h
    · exact tf_nil
    · exact fun _ _ _ _ _ _ (h : none = some _) => by cases h
    · exact tn_nil
    · exact ta_nil
    · exact fun (h : none = some _) => by cases h
    · exact fun (h : none = some _) => by cases h
    · exact fun _ _ (h : none = some _) => by cases h
    · exact fun h => absurd rfl h
  · unfold X_Sto_findReach at h
    dsimp only [xCall] at h
    split at h
    · obtain ⟨hn0, hr0⟩ := h
      exact me_crS S hK mG_NW hNw (snd_Sto_contains hn0 hr0) (le_Sto_contains hr0).1 (le_Sto_contains hr0).2 (va_cwS 2 S.2.2.2.2 (gT2 cI (mT 507 (by decide +kernel) rfl) (mT 505 (by decide +kernel) rfl) (mT 506 (by decide +kernel) rfl) (mT 5 (by decide +kernel) rfl)) rfl rfl rfl (by decide +kernel) ⟨Nat.le_of_ble_eq_true rfl, Nat.le_of_ble_eq_true rfl⟩) hn0 d_Sto_findReach_66
    · exact h.elim
theorem le_Sto_readyComponent {ls : List (Option me_V)} {M N : me_M} {v : Option me_V} (h : RUN eL X_Sto_readyComponent 0 ls [] M v N) : mSz M ≤ mSz N ∧ mSl M ≤ mSl N := by
  refine RUN.le (fun pc as M r M1 h => ?_) h
  unfold X_Sto_readyComponent at h
  dsimp only [xCall] at h
  split at h
  · exact le_Sto_contains h.2
  · exact le_Sto_contains h.2
  · exact h.elim
theorem snd_Sto_readyComponent {l : Launch} {B : Nat} {Dd : va_G} {cA : Nat → ClassId} {as : List me_V} {M N : me_M} {v : Option me_V} (hlen : as.length = 2) (hrun : RUN eL X_Sto_readyComponent 0 (as.map some ++ List.replicate (5 - 2) none) [] M v N) : Met l y_Sto_readyComponent (Cond.code y_Sto_readyComponent b_Sto_readyComponent 5 (some .int) :: LW) { frames := 1, cells := mSz N - mSz M, slots := mSl N - mSl M, locals := 21 } (me_Pc (mG B Dd cA) as M) (me_Qc (mG B Dd cA) v N) (mSz N - mSz M) (mSl N - mSl M) (fun q => B ≤ q) := by
  refine me_met (X := X_Sto_readyComponent) (el := eL) (G := mG B Dd cA) (cc := b_Sto_readyComponent) (maxL := 5) (ws' := LW) (ret := (some .int)) (by decide +kernel) rfl rfl (Or.inr (Or.inl ⟨rfl, rfl⟩)) (by omega) rfl mG_CL mG_AT (le_Sto_readyComponent hrun) (fun args s hts hNw => ?_) (fun p e s m args below meth c Q S hK hNw pc as2 M2 r M1 h => ?_) (by rw [hlen]; exact hrun)
  · have ht : ∀ w ∈ LW, w.before args s = true := fun w hw => hts w (List.mem_cons_of_mem _ hw)
    refine ⟨?_, ?_, ?_, ?_, ?_, ?_, ?_, ?_, ?_⟩
    · intro idx ci k key ty h
      unfold X_Sto_readyComponent at h
      dsimp only [xF] at h
      split at h
      · cases h
        exact tf (r := (R_Sto, F_Sto, 4)) ht rfl (by decide) (by decide) rfl rfl cl_Sto rfl (mT 98 (by decide +kernel) rfl) (fun _ h => h.elim)
      · cases h
        exact tf (r := (R_Sto, F_Sto, 4)) ht rfl (by decide) (by decide) rfl rfl cl_Sto rfl (mT 99 (by decide +kernel) rfl) (fun _ h => h.elim)
      · cases h
    · exact tf_nil
    · exact fun _ _ _ _ _ _ (h : none = some _) => by cases h
    · exact tn_nil
    · exact ta_nil
    · exact fun (h : none = some _) => by cases h
    · exact fun (h : none = some _) => by cases h
    · exact fun _ _ (h : none = some _) => by cases h
    · exact fun h => absurd rfl h
  · unfold X_Sto_readyComponent at h
    dsimp only [xCall] at h
    split at h
    · obtain ⟨hn0, hr0⟩ := h
      exact me_crS S hK mG_NW hNw (snd_Sto_contains hn0 hr0) (le_Sto_contains hr0).1 (le_Sto_contains hr0).2 (va_cwS 2 S.2.2.2.2 (gT2 cI (mT 507 (by decide +kernel) rfl) (mT 505 (by decide +kernel) rfl) (mT 506 (by decide +kernel) rfl) (mT 5 (by decide +kernel) rfl)) rfl rfl rfl (by decide +kernel) ⟨Nat.le_of_ble_eq_true rfl, Nat.le_of_ble_eq_true rfl⟩) hn0 d_Sto_readyComponent_41
    · obtain ⟨hn0, hr0⟩ := h
      exact me_crS S hK mG_NW hNw (snd_Sto_contains hn0 hr0) (le_Sto_contains hr0).1 (le_Sto_contains hr0).2 (va_cwS 2 S.2.2.2.2 (gT2 cI (mT 507 (by decide +kernel) rfl) (mT 505 (by decide +kernel) rfl) (mT 506 (by decide +kernel) rfl) (mT 5 (by decide +kernel) rfl)) rfl rfl rfl (by decide +kernel) ⟨Nat.le_of_ble_eq_true rfl, Nat.le_of_ble_eq_true rfl⟩) hn0 d_Sto_readyComponent_56
    · exact h.elim
theorem le_Sto_leastReadyComponent {ls : List (Option me_V)} {M N : me_M} {v : Option me_V} (h : RUN eL X_Sto_leastReadyComponent 0 ls [] M v N) : mSz M ≤ mSz N ∧ mSl M ≤ mSl N := by
  refine RUN.le (fun pc as M r M1 h => ?_) h
  unfold X_Sto_leastReadyComponent at h
  dsimp only [xCall] at h
  split at h
  · exact le_Sto_readyComponent h.2.2
  · exact h.elim
theorem snd_Sto_leastReadyComponent {l : Launch} {B : Nat} {Dd : va_G} {cA : Nat → ClassId} {as : List me_V} {M N : me_M} {v : Option me_V} (hlen : as.length = 2) (hrun : RUN eL X_Sto_leastReadyComponent 0 (as.map some ++ List.replicate (4 - 2) none) [] M v N) : Met l y_Sto_leastReadyComponent (Cond.code y_Sto_leastReadyComponent b_Sto_leastReadyComponent 4 (some .int) :: LW) { frames := 2, cells := mSz N - mSz M, slots := mSl N - mSl M, locals := 45 } (me_Pc (mG B Dd cA) as M) (me_Qc (mG B Dd cA) v N) (mSz N - mSz M) (mSl N - mSl M) (fun q => B ≤ q) := by
  refine me_met (X := X_Sto_leastReadyComponent) (el := eL) (G := mG B Dd cA) (cc := b_Sto_leastReadyComponent) (maxL := 4) (ws' := LW) (ret := (some .int)) (by decide +kernel) rfl rfl (Or.inr (Or.inl ⟨rfl, rfl⟩)) (by omega) rfl mG_CL mG_AT (le_Sto_leastReadyComponent hrun) (fun args s hts hNw => ?_) (fun p e s m args below meth c Q S hK hNw pc as2 M2 r M1 h => ?_) (by rw [hlen]; exact hrun)
  · have ht : ∀ w ∈ LW, w.before args s = true := fun w hw => hts w (List.mem_cons_of_mem _ hw)
    refine ⟨?_, ?_, ?_, ?_, ?_, ?_, ?_, ?_, ?_⟩
    · intro idx ci k key ty h
      unfold X_Sto_leastReadyComponent at h
      dsimp only [xF] at h
      split at h
      · cases h
        exact tf (r := (R_En, F_En, 6)) ht rfl (by decide) (by decide) rfl rfl cl_En rfl (mT 58 (by decide +kernel) rfl) (fun _ h => h.elim)
      · cases h
    · exact tf_nil
    · exact fun _ _ _ _ _ _ (h : none = some _) => by cases h
    · exact tn_nil
    · exact ta_nil
    · exact fun (h : none = some _) => by cases h
    · exact fun (h : none = some _) => by cases h
    · exact fun _ _ (h : none = some _) => by cases h
    · exact fun h => absurd rfl h
  · unfold X_Sto_leastReadyComponent at h
    dsimp only [xCall] at h
    split at h
    · obtain ⟨⟨b0, t0, rfl, hk0⟩, hn0, hr0⟩ := h
      exact me_crV S hK mG_NW hNw (snd_Sto_readyComponent hn0 hr0) (le_Sto_readyComponent hr0).1 (le_Sto_readyComponent hr0).2 (cwV (C := R_Sto) 1 S.2.2.2.2 (gV cI (mT 515 (by decide +kernel) rfl) (mT 512 (by decide +kernel) rfl) (mT 514 (by decide +kernel) rfl) (mS 23 (by decide +kernel) rfl) (mT 5 (by decide +kernel) rfl)) rfl rfl rfl (by decide +kernel) ⟨Nat.le_of_ble_eq_true rfl, Nat.le_of_ble_eq_true rfl⟩) (by simp only [List.length_cons] at hn0; omega) hk0 (by decide) (q0 := (R_Sto, F_Sto, 4)) rfl rfl d_Sto_leastReadyComponent_20
    · exact h.elim
theorem le_Sto_leastSeq {ls : List (Option me_V)} {M N : me_M} {v : Option me_V} (h : RUN eL X_Sto_leastSeq 0 ls [] M v N) : mSz M ≤ mSz N ∧ mSl M ≤ mSl N := by
  refine RUN.le (fun pc as M r M1 h => ?_) h
  unfold X_Sto_leastSeq at h
  dsimp only [xCall] at h
  split at h
  · exact le_Sto_contains h.2
  · exact h.elim
theorem snd_Sto_leastSeq {l : Launch} {B : Nat} {Dd : va_G} {cA : Nat → ClassId} {as : List me_V} {M N : me_M} {v : Option me_V} (hlen : as.length = 3) (hrun : RUN eL X_Sto_leastSeq 0 (as.map some ++ List.replicate (6 - 3) none) [] M v N) : Met l y_Sto_leastSeq (Cond.code y_Sto_leastSeq b_Sto_leastSeq 6 (some .int) :: LW) { frames := 1, cells := mSz N - mSz M, slots := mSl N - mSl M, locals := 21 } (me_Pc (mG B Dd cA) as M) (me_Qc (mG B Dd cA) v N) (mSz N - mSz M) (mSl N - mSl M) (fun q => B ≤ q) := by
  refine me_met (X := X_Sto_leastSeq) (el := eL) (G := mG B Dd cA) (cc := b_Sto_leastSeq) (maxL := 6) (ws' := LW) (ret := (some .int)) (by decide +kernel) rfl rfl (Or.inr (Or.inl ⟨rfl, rfl⟩)) (by omega) rfl mG_CL mG_AT (le_Sto_leastSeq hrun) (fun args s hts hNw => ?_) (fun p e s m args below meth c Q S hK hNw pc as2 M2 r M1 h => ?_) (by rw [hlen]; exact hrun)
  · have ht : ∀ w ∈ LW, w.before args s = true := fun w hw => hts w (List.mem_cons_of_mem _ hw)
    refine ⟨?_, ?_, ?_, ?_, ?_, ?_, ?_, ?_, ?_⟩
    · intro idx ci k key ty h
      unfold X_Sto_leastSeq at h
      dsimp only [xF] at h
      split at h
      · cases h
        exact tf (r := (R_En, F_En, 6)) ht rfl (by decide) (by decide) rfl rfl cl_En rfl (mT 62 (by decide +kernel) rfl) (fun _ h => h.elim)
      · cases h
        exact tf (r := (R_Or, F_Or, 3)) ht rfl (by decide) (by decide) rfl rfl cl_Or rfl (mT 210 (by decide +kernel) rfl) (fun _ h => h.elim)
      · cases h
    · exact tf_nil
    · exact fun _ _ _ _ _ _ (h : none = some _) => by cases h
    · exact tn_nil
    · exact ta_nil
    · exact fun (h : none = some _) => by cases h
    · exact fun (h : none = some _) => by cases h
    · exact fun _ _ (h : none = some _) => by cases h
    · exact fun h => absurd rfl h
  · unfold X_Sto_leastSeq at h
    dsimp only [xCall] at h
    split at h
    · obtain ⟨hn0, hr0⟩ := h
      exact me_crS S hK mG_NW hNw (snd_Sto_contains hn0 hr0) (le_Sto_contains hr0).1 (le_Sto_contains hr0).2 (va_cwS 2 S.2.2.2.2 (gT2 cI (mT 507 (by decide +kernel) rfl) (mT 505 (by decide +kernel) rfl) (mT 506 (by decide +kernel) rfl) (mT 5 (by decide +kernel) rfl)) rfl rfl rfl (by decide +kernel) ⟨Nat.le_of_ble_eq_true rfl, Nat.le_of_ble_eq_true rfl⟩) hn0 d_Sto_leastSeq_18
    · exact h.elim
theorem le_Sto_runEntry {ls : List (Option me_V)} {M N : me_M} {v : Option me_V} (h : RUN eL X_Sto_runEntry 0 ls [] M v N) : mSz M ≤ mSz N ∧ mSl M ≤ mSl N := by
  refine RUN.le (fun pc as M r M1 h => ?_) h
  exact False.elim h
theorem snd_Sto_runEntry {l : Launch} {B : Nat} {Dd : va_G} {cA : Nat → ClassId} {as : List me_V} {M N : me_M} {v : Option me_V} (hlen : as.length = 2) (hrun : RUN eL X_Sto_runEntry 0 (as.map some ++ List.replicate (3 - 2) none) [] M v N) : Met l y_Sto_runEntry (Cond.code y_Sto_runEntry b_Sto_runEntry 3 none :: LW) { frames := 0, cells := mSz N - mSz M, slots := mSl N - mSl M, locals := 0 } (me_Pc (mG B Dd cA) as M) (me_Qc (mG B Dd cA) v N) (mSz N - mSz M) (mSl N - mSl M) (fun q => B ≤ q) := by
  refine me_met (X := X_Sto_runEntry) (el := eL) (G := mG B Dd cA) (cc := b_Sto_runEntry) (maxL := 3) (ws' := LW) (ret := none) (by decide +kernel) rfl rfl (Or.inl ⟨rfl, rfl⟩) (by omega) rfl mG_CL mG_AT (le_Sto_runEntry hrun) (fun args s hts hNw => ?_) (fun p e s m args below meth c Q S hK hNw pc as2 M2 r M1 h => ?_) (by rw [hlen]; exact hrun)
  · have ht : ∀ w ∈ LW, w.before args s = true := fun w hw => hts w (List.mem_cons_of_mem _ hw)
    refine ⟨?_, ?_, ?_, ?_, ?_, ?_, ?_, ?_, ?_⟩
    · intro idx ci k key ty h
      unfold X_Sto_runEntry at h
      dsimp only [xF] at h
      split at h
      · cases h
        exact tf (r := (R_Sto, F_Sto, 4)) ht rfl (by decide) (by decide) rfl rfl cl_Sto rfl (mT 96 (by decide +kernel) rfl) (fun _ h => h.elim)
      · cases h
        exact tf (r := (R_Sto, F_Sto, 4)) ht rfl (by decide) (by decide) rfl rfl cl_Sto rfl (mT 100 (by decide +kernel) rfl) (fun _ h => h.elim)
      · cases h
        exact tf (r := (R_En, F_En, 6)) ht rfl (by decide) (by decide) rfl rfl cl_En rfl (mT 62 (by decide +kernel) rfl) (fun _ h => h.elim)
      · cases h
        exact tf (r := (R_Or, F_Or, 3)) ht rfl (by decide) (by decide) rfl rfl cl_Or rfl (mT 206 (by decide +kernel) rfl) (fun _ h => h.elim)
      · cases h
        exact tf (r := (R_Cmd, F_Cmd, 3)) ht rfl (by decide) (by decide) rfl rfl cl_Cmd rfl (mT 182 (by decide +kernel) rfl) (fun _ h => h.elim)
      · cases h
        exact tf (r := (R_Cmd, F_Cmd, 3)) ht rfl (by decide) (by decide) rfl rfl cl_Cmd rfl (mT 184 (by decide +kernel) rfl) (fun _ h => h.elim)
      · cases h
        exact tf (r := (R_Cmd, F_Cmd, 3)) ht rfl (by decide) (by decide) rfl rfl cl_Cmd rfl (mT 186 (by decide +kernel) rfl) (fun _ h => h.elim)
      · cases h
    · intro idx ci k key ty h
      unfold X_Sto_runEntry at h
      dsimp only [xG] at h
      split at h
      · cases h
        exact tf (r := (R_Sto, F_Sto, 4)) ht rfl (by decide) (by decide) rfl rfl cl_Sto rfl (mT 100 (by decide +kernel) rfl) (fun _ _ => rfl)
      · cases h
        exact tf (r := (R_En, F_En, 6)) ht rfl (by decide) (by decide) rfl rfl cl_En rfl (mT 58 (by decide +kernel) rfl) (fun h => absurd h (by decide))
      · cases h
        exact tf (r := (R_En, F_En, 6)) ht rfl (by decide) (by decide) rfl rfl cl_En rfl (mT 71 (by decide +kernel) rfl) (fun h => absurd h (by decide))
      · cases h
        exact tf (r := (R_En, F_En, 6)) ht rfl (by decide) (by decide) rfl rfl cl_En rfl (mT 73 (by decide +kernel) rfl) (fun h => absurd h (by decide))
      · cases h
    · intro idx ci k key ty r h hr hf
      unfold X_Sto_runEntry at h
      dsimp only [xG] at h
      split at h
      · cases h
        cases hr
        exact absurd hf (by decide)
      · cases h
        cases hr
        exact absurd hf (by decide)
      · cases h
        cases hr
        exact absurd hf (by decide)
      · cases h
        cases hr
        exact absurd hf (by decide)
      · cases h
    · exact tn_nil
    · exact ta_nil
    · exact fun (h : none = some _) => by cases h
    · exact fun (h : none = some _) => by cases h
    · exact fun _ _ (h : none = some _) => by cases h
    · exact fun h => absurd rfl h
  · exact False.elim h
theorem le_Sto_runComponent {ls : List (Option me_V)} {M N : me_M} {v : Option me_V} (h : RUN eL X_Sto_runComponent 0 ls [] M v N) : mSz M ≤ mSz N ∧ mSl M ≤ mSl N := by
  refine RUN.le (fun pc as M r M1 h => ?_) h
  unfold X_Sto_runComponent at h
  dsimp only [xCall] at h
  split at h
  · exact le_Sto_leastSeq h.2.2
  · exact le_Sto_runEntry h.2.2
  · exact h.elim
theorem snd_Sto_runComponent {l : Launch} {B : Nat} {Dd : va_G} {cA : Nat → ClassId} {as : List me_V} {M N : me_M} {v : Option me_V} (hlen : as.length = 3) (hrun : RUN eL X_Sto_runComponent 0 (as.map some ++ List.replicate (6 - 3) none) [] M v N) : Met l y_Sto_runComponent (Cond.code y_Sto_runComponent b_Sto_runComponent 6 none :: LW) { frames := 2, cells := mSz N - mSz M, slots := mSl N - mSl M, locals := 46 } (me_Pc (mG B Dd cA) as M) (me_Qc (mG B Dd cA) v N) (mSz N - mSz M) (mSl N - mSl M) (fun q => B ≤ q) := by
  refine me_met (X := X_Sto_runComponent) (el := eL) (G := mG B Dd cA) (cc := b_Sto_runComponent) (maxL := 6) (ws' := LW) (ret := none) (by decide +kernel) rfl rfl (Or.inl ⟨rfl, rfl⟩) (by omega) rfl mG_CL mG_AT (le_Sto_runComponent hrun) (fun args s hts hNw => ?_) (fun p e s m args below meth c Q S hK hNw pc as2 M2 r M1 h => ?_) (by rw [hlen]; exact hrun)
  · have ht : ∀ w ∈ LW, w.before args s = true := fun w hw => hts w (List.mem_cons_of_mem _ hw)
    refine ⟨?_, ?_, ?_, ?_, ?_, ?_, ?_, ?_, ?_⟩
    · intro idx ci k key ty h
      unfold X_Sto_runComponent at h
      dsimp only [xF] at h
      split at h
      · cases h
        exact tf (r := (R_Sto, F_Sto, 4)) ht rfl (by decide) (by decide) rfl rfl cl_Sto rfl (mT 99 (by decide +kernel) rfl) (fun _ h => h.elim)
      · cases h
    · intro idx ci k key ty h
      unfold X_Sto_runComponent at h
      dsimp only [xG] at h
      split at h
      · cases h
        exact tf (r := (R_Sto, F_Sto, 4)) ht rfl (by decide) (by decide) rfl rfl cl_Sto rfl (mT 99 (by decide +kernel) rfl) (fun _ _ => rfl)
      · cases h
    · intro idx ci k key ty r h hr hf
      unfold X_Sto_runComponent at h
      dsimp only [xG] at h
      split at h
      · cases h
        cases hr
        exact absurd hf (by decide)
      · cases h
    · exact tn_nil
    · exact ta_nil
    · exact fun (h : none = some _) => by cases h
    · exact fun (h : none = some _) => by cases h
    · exact fun _ _ (h : none = some _) => by cases h
    · exact fun h => absurd rfl h
  · unfold X_Sto_runComponent at h
    dsimp only [xCall] at h
    split at h
    · obtain ⟨⟨b0, t0, rfl, hk0⟩, hn0, hr0⟩ := h
      exact me_crV S hK mG_NW hNw (snd_Sto_leastSeq hn0 hr0) (le_Sto_leastSeq hr0).1 (le_Sto_leastSeq hr0).2 (cwV (C := R_Sto) 2 S.2.2.2.2 (gV cI (mT 523 (by decide +kernel) rfl) (mT 520 (by decide +kernel) rfl) (mT 522 (by decide +kernel) rfl) (mS 25 (by decide +kernel) rfl) (mT 5 (by decide +kernel) rfl)) rfl rfl rfl (by decide +kernel) ⟨Nat.le_of_ble_eq_true rfl, Nat.le_of_ble_eq_true rfl⟩) (by simp only [List.length_cons] at hn0; omega) hk0 (by decide) (q0 := (R_Sto, F_Sto, 4)) rfl rfl d_Sto_runComponent_19
    · obtain ⟨⟨b0, t0, rfl, hk0⟩, hn0, hr0⟩ := h
      exact me_crV S hK mG_NW hNw (snd_Sto_runEntry hn0 hr0) (le_Sto_runEntry hr0).1 (le_Sto_runEntry hr0).2 (cwV (C := R_Sto) 1 S.2.2.2.2 (gV cI (mT 527 (by decide +kernel) rfl) (mT 524 (by decide +kernel) rfl) (mT 526 (by decide +kernel) rfl) (mS 26 (by decide +kernel) rfl) (mT 5 (by decide +kernel) rfl)) rfl rfl rfl (by decide +kernel) ⟨Nat.le_of_ble_eq_true rfl, Nat.le_of_ble_eq_true rfl⟩) (by simp only [List.length_cons] at hn0; omega) hk0 (by decide) (q0 := (R_Sto, F_Sto, 4)) rfl rfl d_Sto_runComponent_29
    · exact h.elim
theorem le_Sto_runReady {ls : List (Option me_V)} {M N : me_M} {v : Option me_V} (h : RUN eL X_Sto_runReady 0 ls [] M v N) : mSz M ≤ mSz N ∧ mSl M ≤ mSl N := by
  refine RUN.le (fun pc as M r M1 h => ?_) h
  unfold X_Sto_runReady at h
  dsimp only [xCall] at h
  split at h
  · exact le_Sto_findReach h.2.2
  · exact le_Sto_leastReadyComponent h.2.2
  · exact le_Sto_runComponent h.2.2
  · exact h.elim
theorem snd_Sto_runReady {l : Launch} {B : Nat} {Dd : va_G} {cA : Nat → ClassId} {as : List me_V} {M N : me_M} {v : Option me_V} (hlen : as.length = 2) (hrun : RUN eL X_Sto_runReady 0 (as.map some ++ List.replicate (5 - 2) none) [] M v N) : Met l y_Sto_runReady (Cond.code y_Sto_runReady b_Sto_runReady 5 (some .int) :: LW) { frames := 3, cells := mSz N - mSz M, slots := mSl N - mSl M, locals := 71 } (me_Pc (mG B Dd cA) as M) (me_Qc (mG B Dd cA) v N) (mSz N - mSz M) (mSl N - mSl M) (fun q => B ≤ q) := by
  refine me_met (X := X_Sto_runReady) (el := eL) (G := mG B Dd cA) (cc := b_Sto_runReady) (maxL := 5) (ws' := LW) (ret := (some .int)) (by decide +kernel) rfl rfl (Or.inr (Or.inl ⟨rfl, rfl⟩)) (by omega) rfl mG_CL mG_AT (le_Sto_runReady hrun) (fun args s hts hNw => ?_) (fun p e s m args below meth c Q S hK hNw pc as2 M2 r M1 h => ?_) (by rw [hlen]; exact hrun)
  · have ht : ∀ w ∈ LW, w.before args s = true := fun w hw => hts w (List.mem_cons_of_mem _ hw)
    refine ⟨?_, ?_, ?_, ?_, ?_, ?_, ?_, ?_, ?_⟩
    · intro idx ci k key ty h
      unfold X_Sto_runReady at h
      dsimp only [xF] at h
      split at h
      · cases h
        exact tf (r := (R_Sto, F_Sto, 4)) ht rfl (by decide) (by decide) rfl rfl cl_Sto rfl (mT 100 (by decide +kernel) rfl) (fun _ h => h.elim)
      · cases h
    · exact tf_nil
    · exact fun _ _ _ _ _ _ (h : none = some _) => by cases h
    · exact tn_nil
    · exact ta_nil
    · exact fun (h : none = some _) => by cases h
    · exact fun (h : none = some _) => by cases h
    · exact fun _ _ (h : none = some _) => by cases h
    · exact fun h => absurd rfl h
  · unfold X_Sto_runReady at h
    dsimp only [xCall] at h
    split at h
    · obtain ⟨⟨b0, t0, rfl, hk0⟩, hn0, hr0⟩ := h
      exact me_crV S hK mG_NW hNw (snd_Sto_findReach hn0 hr0) (le_Sto_findReach hr0).1 (le_Sto_findReach hr0).2 (cwV (C := R_Sto) 1 S.2.2.2.2 (gV cI (mT 504 (by decide +kernel) rfl) (mT 501 (by decide +kernel) rfl) (mT 503 (by decide +kernel) rfl) (mS 21 (by decide +kernel) rfl) (mT 5 (by decide +kernel) rfl)) rfl rfl rfl (by decide +kernel) ⟨Nat.le_of_ble_eq_true rfl, Nat.le_of_ble_eq_true rfl⟩) (by simp only [List.length_cons] at hn0; omega) hk0 (by decide) (q0 := (R_Sto, F_Sto, 4)) rfl rfl d_Sto_runReady_7
    · obtain ⟨⟨b0, t0, rfl, hk0⟩, hn0, hr0⟩ := h
      exact me_crV S hK mG_NW hNw (snd_Sto_leastReadyComponent hn0 hr0) (le_Sto_leastReadyComponent hr0).1 (le_Sto_leastReadyComponent hr0).2 (cwV (C := R_Sto) 1 S.2.2.2.2 (gV cI (mT 511 (by decide +kernel) rfl) (mT 508 (by decide +kernel) rfl) (mT 510 (by decide +kernel) rfl) (mS 22 (by decide +kernel) rfl) (mT 5 (by decide +kernel) rfl)) rfl rfl rfl (by decide +kernel) ⟨Nat.le_of_ble_eq_true rfl, Nat.le_of_ble_eq_true rfl⟩) (by simp only [List.length_cons] at hn0; omega) hk0 (by decide) (q0 := (R_Sto, F_Sto, 4)) rfl rfl d_Sto_runReady_20
    · obtain ⟨⟨b0, t0, rfl, hk0⟩, hn0, hr0⟩ := h
      exact me_crV S hK mG_NW hNw (snd_Sto_runComponent hn0 hr0) (le_Sto_runComponent hr0).1 (le_Sto_runComponent hr0).2 (cwV (C := R_Sto) 2 S.2.2.2.2 (gV cI (mT 519 (by decide +kernel) rfl) (mT 516 (by decide +kernel) rfl) (mT 518 (by decide +kernel) rfl) (mS 24 (by decide +kernel) rfl) (mT 5 (by decide +kernel) rfl)) rfl rfl rfl (by decide +kernel) ⟨Nat.le_of_ble_eq_true rfl, Nat.le_of_ble_eq_true rfl⟩) (by simp only [List.length_cons] at hn0; omega) hk0 (by decide) (q0 := (R_Sto, F_Sto, 4)) rfl rfl d_Sto_runReady_37
    · exact h.elim
theorem le_LM_execute {ls : List (Option me_V)} {M N : me_M} {v : Option me_V} (h : RUN eL X_LM_execute 0 ls [] M v N) : mSz M ≤ mSz N ∧ mSl M ≤ mSl N := by
  refine RUN.le (fun pc as M r M1 h => ?_) h
  unfold X_LM_execute at h
  dsimp only [xCall] at h
  split at h
  · exact le_LM_workingReplica h.2.2
  · exact le_Sto_runReady h.2.2
  · exact h.elim
theorem snd_LM_execute {l : Launch} {B : Nat} {Dd : va_G} {cA : Nat → ClassId} {as : List me_V} {M N : me_M} {v : Option me_V} (hlen : as.length = 2) (hrun : RUN eL X_LM_execute 0 (as.map some ++ List.replicate (3 - 2) none) [] M v N) : Met l y_LM_execute (Cond.code y_LM_execute b_LM_execute 3 (some .int) :: LW) { frames := 4, cells := mSz N - mSz M, slots := mSl N - mSl M, locals := 95 } (me_Pc (mG B Dd cA) as M) (me_Qc (mG B Dd cA) v N) (mSz N - mSz M) (mSl N - mSl M) (fun q => B ≤ q) := by
  refine me_met (X := X_LM_execute) (el := eL) (G := mG B Dd cA) (cc := b_LM_execute) (maxL := 3) (ws' := LW) (ret := (some .int)) (by decide +kernel) rfl rfl (Or.inr (Or.inl ⟨rfl, rfl⟩)) (by omega) rfl mG_CL mG_AT (le_LM_execute hrun) (fun args s hts hNw => ?_) (fun p e s m args below meth c Q S hK hNw pc as2 M2 r M1 h => ?_) (by rw [hlen]; exact hrun)
  · have ht : ∀ w ∈ LW, w.before args s = true := fun w hw => hts w (List.mem_cons_of_mem _ hw)
    refine ⟨?_, ?_, ?_, ?_, ?_, ?_, ?_, ?_, ?_⟩
    · intro idx ci k key ty h
      unfold X_LM_execute at h
      dsimp only [xF] at h
      split at h
      · cases h
        exact tf (r := (R_Rp, F_Rp, 8)) ht rfl (by decide) (by decide) rfl rfl cl_Rp rfl (mT 119 (by decide +kernel) rfl) (fun _ h => h.elim)
      · cases h
        exact tf (r := (R_Rp, F_Rp, 8)) ht rfl (by decide) (by decide) rfl rfl cl_Rp rfl (mT 116 (by decide +kernel) rfl) (fun _ h => h.elim)
      · cases h
    · exact tf_nil
    · exact fun _ _ _ _ _ _ (h : none = some _) => by cases h
    · exact tn_nil
    · exact ta_nil
    · exact fun (h : none = some _) => by cases h
    · exact fun (h : none = some _) => by cases h
    · exact fun _ _ (h : none = some _) => by cases h
    · exact fun h => absurd rfl h
  · unfold X_LM_execute at h
    dsimp only [xCall] at h
    split at h
    · obtain ⟨⟨b0, t0, rfl, hk0⟩, hn0, hr0⟩ := h
      exact me_crV S hK mG_NW hNw (snd_LM_workingReplica hn0 hr0) (le_LM_workingReplica hr0).1 (le_LM_workingReplica hr0).2 (cwV (C := R_LM) 1 S.2.2.2.2 (gV cI (mT 162 (by decide +kernel) rfl) (mT 159 (by decide +kernel) rfl) (mT 161 (by decide +kernel) rfl) (mS 0 (by decide +kernel) rfl) (mT 1 (by decide +kernel) rfl)) rfl rfl rfl (by decide +kernel) ⟨Nat.le_of_ble_eq_true rfl, Nat.le_of_ble_eq_true rfl⟩) (by simp only [List.length_cons] at hn0; omega) hk0 (by decide) (q0 := (R_LM, F_LM, 5)) rfl rfl d_LM_execute_2
    · obtain ⟨⟨b0, t0, rfl, hk0⟩, hn0, hr0⟩ := h
      exact me_crV S hK mG_NW hNw (snd_Sto_runReady hn0 hr0) (le_Sto_runReady hr0).1 (le_Sto_runReady hr0).2 (cwV (C := R_Sto) 1 S.2.2.2.2 (gV cI (mT 500 (by decide +kernel) rfl) (mT 497 (by decide +kernel) rfl) (mT 498 (by decide +kernel) rfl) (mT 499 (by decide +kernel) rfl) (mT 5 (by decide +kernel) rfl)) rfl rfl rfl (by decide +kernel) ⟨Nat.le_of_ble_eq_true rfl, Nat.le_of_ble_eq_true rfl⟩) (by simp only [List.length_cons] at hn0; omega) hk0 (by decide) (q0 := (R_Sto, F_Sto, 4)) rfl rfl d_LM_execute_22
    · exact h.elim
theorem le_LM_waiting {ls : List (Option me_V)} {M N : me_M} {v : Option me_V} (h : RUN eL X_LM_waiting 0 ls [] M v N) : mSz M ≤ mSz N ∧ mSl M ≤ mSl N := by
  refine RUN.le (fun pc as M r M1 h => ?_) h
  exact False.elim h
theorem snd_LM_waiting {l : Launch} {B : Nat} {Dd : va_G} {cA : Nat → ClassId} {as : List me_V} {M N : me_M} {v : Option me_V} (hlen : as.length = 1) (hrun : RUN eL X_LM_waiting 0 (as.map some ++ List.replicate (1 - 1) none) [] M v N) : Met l y_LM_waiting (Cond.code y_LM_waiting b_LM_waiting 1 (some .int) :: LW) { frames := 0, cells := mSz N - mSz M, slots := mSl N - mSl M, locals := 0 } (me_Pc (mG B Dd cA) as M) (me_Qc (mG B Dd cA) v N) (mSz N - mSz M) (mSl N - mSl M) (fun q => B ≤ q) := by
  refine me_met (X := X_LM_waiting) (el := eL) (G := mG B Dd cA) (cc := b_LM_waiting) (maxL := 1) (ws' := LW) (ret := (some .int)) (by decide +kernel) rfl rfl (Or.inr (Or.inl ⟨rfl, rfl⟩)) (by omega) rfl mG_CL mG_AT (le_LM_waiting hrun) (fun args s hts hNw => ?_) (fun p e s m args below meth c Q S hK hNw pc as2 M2 r M1 h => ?_) (by rw [hlen]; exact hrun)
  · have ht : ∀ w ∈ LW, w.before args s = true := fun w hw => hts w (List.mem_cons_of_mem _ hw)
    refine ⟨?_, ?_, ?_, ?_, ?_, ?_, ?_, ?_, ?_⟩
    · intro idx ci k key ty h
      unfold X_LM_waiting at h
      dsimp only [xF] at h
      split at h
      · cases h
        exact tf (r := (R_LM, F_LM, 5)) ht rfl (by decide) (by decide) rfl rfl cl_LM rfl (mT 141 (by decide +kernel) rfl) (fun _ h => h.elim)
      · cases h
        exact tf (r := (R_Net, F_Net, 3)) ht rfl (by decide) (by decide) rfl rfl cl_Net rfl (mT 31 (by decide +kernel) rfl) (fun _ h => h.elim)
      · cases h
    · exact tf_nil
    · exact fun _ _ _ _ _ _ (h : none = some _) => by cases h
    · exact tn_nil
    · exact ta_nil
    · exact fun (h : none = some _) => by cases h
    · exact fun (h : none = some _) => by cases h
    · exact fun _ _ (h : none = some _) => by cases h
    · exact fun h => absurd rfl h
  · exact False.elim h
theorem le_LM_message {ls : List (Option me_V)} {M N : me_M} {v : Option me_V} (h : RUN eL X_LM_message 0 ls [] M v N) : mSz M ≤ mSz N ∧ mSl M ≤ mSl N := by
  refine RUN.le (fun pc as M r M1 h => ?_) h
  unfold X_LM_message at h
  dsimp only [xCall] at h
  split at h
  · exact le_Net_at h.2.2
  · exact h.elim
theorem snd_LM_message {l : Launch} {B : Nat} {Dd : va_G} {cA : Nat → ClassId} {as : List me_V} {M N : me_M} {v : Option me_V} (hlen : as.length = 2) (hrun : RUN eL X_LM_message 0 (as.map some ++ List.replicate (3 - 2) none) [] M v N) : Met l y_LM_message (Cond.code y_LM_message b_LM_message 3 (some .int) :: LW) { frames := 1, cells := mSz N - mSz M, slots := mSl N - mSl M, locals := 21 } (me_Pc (mG B Dd cA) as M) (me_Qc (mG B Dd cA) v N) (mSz N - mSz M) (mSl N - mSl M) (fun q => B ≤ q) := by
  refine me_met (X := X_LM_message) (el := eL) (G := mG B Dd cA) (cc := b_LM_message) (maxL := 3) (ws' := LW) (ret := (some .int)) (by decide +kernel) rfl rfl (Or.inr (Or.inl ⟨rfl, rfl⟩)) (by omega) rfl mG_CL mG_AT (le_LM_message hrun) (fun args s hts hNw => ?_) (fun p e s m args below meth c Q S hK hNw pc as2 M2 r M1 h => ?_) (by rw [hlen]; exact hrun)
  · have ht : ∀ w ∈ LW, w.before args s = true := fun w hw => hts w (List.mem_cons_of_mem _ hw)
    refine ⟨?_, ?_, ?_, ?_, ?_, ?_, ?_, ?_, ?_⟩
    · intro idx ci k key ty h
      unfold X_LM_message at h
      dsimp only [xF] at h
      split at h
      · cases h
        exact tf (r := (R_LM, F_LM, 5)) ht rfl (by decide) (by decide) rfl rfl cl_LM rfl (mT 141 (by decide +kernel) rfl) (fun _ h => h.elim)
      · cases h
        exact tf (r := (R_Ms, F_Ms, 7)) ht rfl (by decide) (by decide) rfl rfl cl_Ms rfl (mT 292 (by decide +kernel) rfl) (fun _ h => h.elim)
      · cases h
        exact tf (r := (R_Ms, F_Ms, 7)) ht rfl (by decide) (by decide) rfl rfl cl_Ms rfl (mT 286 (by decide +kernel) rfl) (fun _ h => h.elim)
      · cases h
        exact tf (r := (R_Ms, F_Ms, 7)) ht rfl (by decide) (by decide) rfl rfl cl_Ms rfl (mT 289 (by decide +kernel) rfl) (fun _ h => h.elim)
      · cases h
        exact tf (r := (R_Ms, F_Ms, 7)) ht rfl (by decide) (by decide) rfl rfl cl_Ms rfl (mT 295 (by decide +kernel) rfl) (fun _ h => h.elim)
      · cases h
    · exact tf_nil
    · exact fun _ _ _ _ _ _ (h : none = some _) => by cases h
    · exact tn_nil
    · exact ta_nil
    · exact fun (h : none = some _) => by cases h
    · exact fun (h : none = some _) => by cases h
    · exact fun _ _ (h : none = some _) => by cases h
    · exact fun h => absurd rfl h
  · unfold X_LM_message at h
    dsimp only [xCall] at h
    split at h
    · obtain ⟨⟨b0, t0, rfl, hk0⟩, hn0, hr0⟩ := h
      exact me_crV S hK mG_NW hNw (snd_Net_at hn0 hr0) (le_Net_at hr0).1 (le_Net_at hr0).2 (cwV (C := R_Net) 1 S.2.2.2.2 (gV cI (mT 356 (by decide +kernel) rfl) (mT 536 (by decide +kernel) rfl) (mT 354 (by decide +kernel) rfl) (mT 355 (by decide +kernel) rfl) (mT 2 (by decide +kernel) rfl)) rfl rfl rfl (by decide +kernel) ⟨Nat.le_of_ble_eq_true rfl, Nat.le_of_ble_eq_true rfl⟩) (by simp only [List.length_cons] at hn0; omega) hk0 (by decide) (q0 := (R_Net, F_Net, 3)) rfl rfl d_LM_message_5
    · exact h.elim
theorem le_LM_lost {ls : List (Option me_V)} {M N : me_M} {v : Option me_V} (h : RUN eL X_LM_lost 0 ls [] M v N) : mSz M ≤ mSz N ∧ mSl M ≤ mSl N := by
  refine RUN.le (fun pc as M r M1 h => ?_) h
  exact False.elim h
theorem snd_LM_lost {l : Launch} {B : Nat} {Dd : va_G} {cA : Nat → ClassId} {as : List me_V} {M N : me_M} {v : Option me_V} (hlen : as.length = 1) (hrun : RUN eL X_LM_lost 0 (as.map some ++ List.replicate (1 - 1) none) [] M v N) : Met l y_LM_lost (Cond.code y_LM_lost b_LM_lost 1 (some .int) :: LW) { frames := 0, cells := mSz N - mSz M, slots := mSl N - mSl M, locals := 0 } (me_Pc (mG B Dd cA) as M) (me_Qc (mG B Dd cA) v N) (mSz N - mSz M) (mSl N - mSl M) (fun q => B ≤ q) := by
  refine me_met (X := X_LM_lost) (el := eL) (G := mG B Dd cA) (cc := b_LM_lost) (maxL := 1) (ws' := LW) (ret := (some .int)) (by decide +kernel) rfl rfl (Or.inr (Or.inl ⟨rfl, rfl⟩)) (by omega) rfl mG_CL mG_AT (le_LM_lost hrun) (fun args s hts hNw => ?_) (fun p e s m args below meth c Q S hK hNw pc as2 M2 r M1 h => ?_) (by rw [hlen]; exact hrun)
  · have ht : ∀ w ∈ LW, w.before args s = true := fun w hw => hts w (List.mem_cons_of_mem _ hw)
    refine ⟨?_, ?_, ?_, ?_, ?_, ?_, ?_, ?_, ?_⟩
    · intro idx ci k key ty h
      unfold X_LM_lost at h
      dsimp only [xF] at h
      split at h
      · cases h
        exact tf (r := (R_LM, F_LM, 5)) ht rfl (by decide) (by decide) rfl rfl cl_LM rfl (mT 141 (by decide +kernel) rfl) (fun _ h => h.elim)
      · cases h
        exact tf (r := (R_Net, F_Net, 3)) ht rfl (by decide) (by decide) rfl rfl cl_Net rfl (mT 33 (by decide +kernel) rfl) (fun _ h => h.elim)
      · cases h
    · exact tf_nil
    · exact fun _ _ _ _ _ _ (h : none = some _) => by cases h
    · exact tn_nil
    · exact ta_nil
    · exact fun (h : none = some _) => by cases h
    · exact fun (h : none = some _) => by cases h
    · exact fun _ _ (h : none = some _) => by cases h
    · exact fun h => absurd rfl h
  · exact False.elim h
