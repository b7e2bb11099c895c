theorem le_LM_state {ls : List (Option me_V)} {M N : me_M} {v : Option me_V} (h : RUN eL X_LM_state 0 ls [] M v N) : mSz M ≤ mSz N ∧ mSl M ≤ mSl N := by
  refine RUN.le (fun pc as M r M1 h => ?_) h
  unfold X_LM_state at h
  dsimp only [xCall] at h
  split at h
  · exact le_LM_entryAt h.2.2
  · exact h.elim
theorem snd_LM_state {l : Launch} {B : Nat} {Dd : va_G} {cA : Nat → ClassId} {as : List me_V} {M N : me_M} {v : Option me_V} (hlen : as.length = 3) (hrun : RUN eL X_LM_state 0 (as.map some ++ List.replicate (4 - 3) none) [] M v N) : Met l y_LM_state (Cond.code y_LM_state b_LM_state 4 (some .int) :: LW) { frames := 2, cells := mSz N - mSz M, slots := mSl N - mSl M, locals := 44 } (me_Pc (mG B Dd cA) as M) (me_Qc (mG B Dd cA) v N) (mSz N - mSz M) (mSl N - mSl M) (fun q => B ≤ q) := by
  refine me_met (X := X_LM_state) (el := eL) (G := mG B Dd cA) (cc := b_LM_state) (maxL := 4) (ws' := LW) (ret := (some .int)) (by decide +kernel) rfl rfl (Or.inr (Or.inl ⟨rfl, rfl⟩)) (by omega) rfl mG_CL mG_AT (le_LM_state hrun) (fun args s hts hNw => ?_) (fun p e s m args below meth c Q S hK hNw pc as2 M2 r M1 h => ?_) (by rw [hlen]; exact hrun)
  · have ht : ∀ w ∈ LW, w.before args s = true := fun w hw => hts w (List.mem_cons_of_mem _ hw)
    refine ⟨?_, ?_, ?_, ?_, ?_, ?_, ?_, ?_, ?_⟩
    · intro idx ci k key ty h
      unfold X_LM_state at h
      dsimp only [xF] at h
      split at h
      · cases h
        exact tf (r := (R_En, F_En, 6)) ht rfl (by decide) (by decide) rfl rfl cl_En rfl (mT 59 (by decide +kernel) rfl) (fun _ h => h.elim)
      · cases h
    · exact tf_nil
    · exact fun _ _ _ _ _ _ (h : none = some _) => by cases h
    · exact tn_nil
    · exact ta_nil
    · exact fun (h : none = some _) => by cases h
    · exact fun (h : none = some _) => by cases h
    · exact fun _ _ (h : none = some _) => by cases h
    · exact fun h => absurd rfl h
  · unfold X_LM_state at h
    dsimp only [xCall] at h
    split at h
    · obtain ⟨⟨b0, t0, rfl, hk0⟩, hn0, hr0⟩ := h
      exact me_crV S hK mG_NW hNw (snd_LM_entryAt hn0 hr0) (le_LM_entryAt hr0).1 (le_LM_entryAt hr0).2 (cwV (C := R_LM) 2 S.2.2.2.2 (gV cI (mT 328 (by decide +kernel) rfl) (mT 325 (by decide +kernel) rfl) (mT 327 (by decide +kernel) rfl) (mS 4 (by decide +kernel) rfl) (mT 1 (by decide +kernel) rfl)) rfl rfl rfl (by decide +kernel) ⟨Nat.le_of_ble_eq_true rfl, Nat.le_of_ble_eq_true rfl⟩) (by simp only [List.length_cons] at hn0; omega) hk0 (by decide) (q0 := (R_LM, F_LM, 5)) rfl rfl d_LM_state_3
    · exact h.elim
theorem le_LM_orderAt {ls : List (Option me_V)} {M N : me_M} {v : Option me_V} (h : RUN eL X_LM_orderAt 0 ls [] M v N) : mSz M ≤ mSz N ∧ mSl M ≤ mSl N := by
  refine RUN.le (fun pc as M r M1 h => ?_) h
  unfold X_LM_orderAt at h
  dsimp only [xCall] at h
  split at h
  · exact le_LM_entryAt h.2.2
  · exact h.elim
theorem snd_LM_orderAt {l : Launch} {B : Nat} {Dd : va_G} {cA : Nat → ClassId} {as : List me_V} {M N : me_M} {v : Option me_V} (hlen : as.length = 3) (hrun : RUN eL X_LM_orderAt 0 (as.map some ++ List.replicate (4 - 3) none) [] M v N) : Met l y_LM_orderAt (Cond.code y_LM_orderAt b_LM_orderAt 4 (some (.object "LeaderlessMap$Order")) :: LW) { frames := 2, cells := mSz N - mSz M, slots := mSl N - mSl M, locals := 44 } (me_Pc (mG B Dd cA) as M) (me_Qc (mG B Dd cA) v N) (mSz N - mSz M) (mSl N - mSl M) (fun q => B ≤ q) := by
  refine me_met (X := X_LM_orderAt) (el := eL) (G := mG B Dd cA) (cc := b_LM_orderAt) (maxL := 4) (ws' := LW) (ret := (some (.object "LeaderlessMap$Order"))) (by decide +kernel) rfl rfl (Or.inr (Or.inr (Or.inr ⟨rfl, Or.inl ⟨_, rfl⟩⟩))) (by omega) rfl mG_CL mG_AT (le_LM_orderAt hrun) (fun args s hts hNw => ?_) (fun p e s m args below meth c Q S hK hNw pc as2 M2 r M1 h => ?_) (by rw [hlen]; exact hrun)
  · have ht : ∀ w ∈ LW, w.before args s = true := fun w hw => hts w (List.mem_cons_of_mem _ hw)
    refine ⟨?_, ?_, ?_, ?_, ?_, ?_, ?_, ?_, ?_⟩
    · intro idx ci k key ty h
      unfold X_LM_orderAt at h
      dsimp only [xF] at h
      split at h
      · cases h
        exact tf (r := (R_En, F_En, 6)) ht rfl (by decide) (by decide) rfl rfl cl_En rfl (mT 64 (by decide +kernel) rfl) (fun _ h => h.elim)
      · cases h
    · exact tf_nil
    · exact fun _ _ _ _ _ _ (h : none = some _) => by cases h
    · exact tn_nil
    · exact ta_nil
    · exact fun (h : none = some _) => by cases h
    · exact fun (h : none = some _) => by cases h
    · exact fun _ _ (h : none = some _) => by cases h
    · exact fun h => absurd rfl h
  · unfold X_LM_orderAt at h
    dsimp only [xCall] at h
    split at h
    · obtain ⟨⟨b0, t0, rfl, hk0⟩, hn0, hr0⟩ := h
      exact me_crV S hK mG_NW hNw (snd_LM_entryAt hn0 hr0) (le_LM_entryAt hr0).1 (le_LM_entryAt hr0).2 (cwV (C := R_LM) 2 S.2.2.2.2 (gV cI (mT 328 (by decide +kernel) rfl) (mT 325 (by decide +kernel) rfl) (mT 327 (by decide +kernel) rfl) (mS 4 (by decide +kernel) rfl) (mT 1 (by decide +kernel) rfl)) rfl rfl rfl (by decide +kernel) ⟨Nat.le_of_ble_eq_true rfl, Nat.le_of_ble_eq_true rfl⟩) (by simp only [List.length_cons] at hn0; omega) hk0 (by decide) (q0 := (R_LM, F_LM, 5)) rfl rfl d_LM_orderAt_3
    · exact h.elim
theorem le_Cmd_code {ls : List (Option me_V)} {M N : me_M} {v : Option me_V} (h : RUN eL X_Cmd_code 0 ls [] M v N) : mSz M ≤ mSz N ∧ mSl M ≤ mSl N := by
  refine RUN.le (fun pc as M r M1 h => ?_) h
  exact False.elim h
theorem snd_Cmd_code {l : Launch} {B : Nat} {Dd : va_G} {cA : Nat → ClassId} {as : List me_V} {M N : me_M} {v : Option me_V} (hlen : as.length = 1) (hrun : RUN eL X_Cmd_code 0 (as.map some ++ List.replicate (1 - 1) none) [] M v N) : Met l y_Cmd_code (Cond.code y_Cmd_code b_Cmd_code 1 (some .int) :: LW) { frames := 0, cells := mSz N - mSz M, slots := mSl N - mSl M, locals := 0 } (me_Pc (mG B Dd cA) as M) (me_Qc (mG B Dd cA) v N) (mSz N - mSz M) (mSl N - mSl M) (fun q => B ≤ q) := by
  refine me_met (X := X_Cmd_code) (el := eL) (G := mG B Dd cA) (cc := b_Cmd_code) (maxL := 1) (ws' := LW) (ret := (some .int)) (by decide +kernel) rfl rfl (Or.inr (Or.inl ⟨rfl, rfl⟩)) (by omega) rfl mG_CL mG_AT (le_Cmd_code hrun) (fun args s hts hNw => ?_) (fun p e s m args below meth c Q S hK hNw pc as2 M2 r M1 h => ?_) (by rw [hlen]; exact hrun)
  · have ht : ∀ w ∈ LW, w.before args s = true := fun w hw => hts w (List.mem_cons_of_mem _ hw)
    refine ⟨?_, ?_, ?_, ?_, ?_, ?_, ?_, ?_, ?_⟩
    · intro idx ci k key ty h
      unfold X_Cmd_code at h
      dsimp only [xF] at h
      split at h
      · cases h
        exact tf (r := (R_Cmd, F_Cmd, 3)) ht rfl (by decide) (by decide) rfl rfl cl_Cmd rfl (mT 181 (by decide +kernel) rfl) (fun _ h => h.elim)
      · cases h
        exact tf (r := (R_Cmd, F_Cmd, 3)) ht rfl (by decide) (by decide) rfl rfl cl_Cmd rfl (mT 183 (by decide +kernel) rfl) (fun _ h => h.elim)
      · cases h
    · exact tf_nil
    · exact fun _ _ _ _ _ _ (h : none = some _) => by cases h
    · exact tn_nil
    · exact ta_nil
    · exact fun (h : none = some _) => by cases h
    · exact fun (h : none = some _) => by cases h
    · exact fun _ _ (h : none = some _) => by cases h
    · exact fun h => absurd rfl h
  · exact False.elim h
theorem le_LM_command {ls : List (Option me_V)} {M N : me_M} {v : Option me_V} (h : RUN eL X_LM_command 0 ls [] M v N) : mSz M ≤ mSz N ∧ mSl M ≤ mSl N := by
  refine RUN.le (fun pc as M r M1 h => ?_) h
  unfold X_LM_command at h
  dsimp only [xCall] at h
  split at h
  · exact le_LM_orderAt h.2.2
  · exact le_Cmd_code h.2.2
  · exact h.elim
theorem snd_LM_command {l : Launch} {B : Nat} {Dd : va_G} {cA : Nat → ClassId} {as : List me_V} {M N : me_M} {v : Option me_V} (hlen : as.length = 3) (hrun : RUN eL X_LM_command 0 (as.map some ++ List.replicate (4 - 3) none) [] M v N) : Met l y_LM_command (Cond.code y_LM_command b_LM_command 4 (some .int) :: LW) { frames := 3, cells := mSz N - mSz M, slots := mSl N - mSl M, locals := 67 } (me_Pc (mG B Dd cA) as M) (me_Qc (mG B Dd cA) v N) (mSz N - mSz M) (mSl N - mSl M) (fun q => B ≤ q) := by
  refine me_met (X := X_LM_command) (el := eL) (G := mG B Dd cA) (cc := b_LM_command) (maxL := 4) (ws' := LW) (ret := (some .int)) (by decide +kernel) rfl rfl (Or.inr (Or.inl ⟨rfl, rfl⟩)) (by omega) rfl mG_CL mG_AT (le_LM_command hrun) (fun args s hts hNw => ?_) (fun p e s m args below meth c Q S hK hNw pc as2 M2 r M1 h => ?_) (by rw [hlen]; exact hrun)
  · have ht : ∀ w ∈ LW, w.before args s = true := fun w hw => hts w (List.mem_cons_of_mem _ hw)
    refine ⟨?_, ?_, ?_, ?_, ?_, ?_, ?_, ?_, ?_⟩
    · intro idx ci k key ty h
      unfold X_LM_command at h
      dsimp only [xF] at h
      split at h
      · cases h
        exact tf (r := (R_Or, F_Or, 3)) ht rfl (by decide) (by decide) rfl rfl cl_Or rfl (mT 207 (by decide +kernel) rfl) (fun _ h => h.elim)
      · cases h
    · exact tf_nil
    · exact fun _ _ _ _ _ _ (h : none = some _) => by cases h
    · exact tn_nil
    · exact ta_nil
    · exact fun (h : none = some _) => by cases h
    · exact fun (h : none = some _) => by cases h
    · exact fun _ _ (h : none = some _) => by cases h
    · exact fun h => absurd rfl h
  · unfold X_LM_command at h
    dsimp only [xCall] at h
    split at h
    · obtain ⟨⟨b0, t0, rfl, hk0⟩, hn0, hr0⟩ := h
      exact me_crV S hK mG_NW hNw (snd_LM_orderAt hn0 hr0) (le_LM_orderAt hr0).1 (le_LM_orderAt hr0).2 (cwV (C := R_LM) 2 S.2.2.2.2 (gV cI (mT 552 (by decide +kernel) rfl) (mT 549 (by decide +kernel) rfl) (mT 551 (by decide +kernel) rfl) (mS 27 (by decide +kernel) rfl) (mT 1 (by decide +kernel) rfl)) rfl rfl rfl (by decide +kernel) ⟨Nat.le_of_ble_eq_true rfl, Nat.le_of_ble_eq_true rfl⟩) (by simp only [List.length_cons] at hn0; omega) hk0 (by decide) (q0 := (R_LM, F_LM, 5)) rfl rfl d_LM_command_3
    · obtain ⟨⟨b0, t0, rfl, hk0⟩, hn0, hr0⟩ := h
      exact me_crV S hK mG_NW hNw (snd_Cmd_code hn0 hr0) (le_Cmd_code hr0).1 (le_Cmd_code hr0).2 (cwV (C := R_Cmd) 0 S.2.2.2.2 (gV cI (mT 556 (by decide +kernel) rfl) (mT 553 (by decide +kernel) rfl) (mT 554 (by decide +kernel) rfl) (mT 555 (by decide +kernel) rfl) (mT 7 (by decide +kernel) rfl)) rfl rfl rfl (by decide +kernel) ⟨Nat.le_of_ble_eq_true rfl, Nat.le_of_ble_eq_true rfl⟩) (by simp only [List.length_cons] at hn0; omega) hk0 (by decide) (q0 := (R_Cmd, F_Cmd, 3)) rfl rfl d_LM_command_19
    · exact h.elim
theorem le_LM_seq {ls : List (Option me_V)} {M N : me_M} {v : Option me_V} (h : RUN eL X_LM_seq 0 ls [] M v N) : mSz M ≤ mSz N ∧ mSl M ≤ mSl N := by
  refine RUN.le (fun pc as M r M1 h => ?_) h
  unfold X_LM_seq at h
  dsimp only [xCall] at h
  split at h
  · exact le_LM_orderAt h.2.2
  · exact h.elim
theorem snd_LM_seq {l : Launch} {B : Nat} {Dd : va_G} {cA : Nat → ClassId} {as : List me_V} {M N : me_M} {v : Option me_V} (hlen : as.length = 3) (hrun : RUN eL X_LM_seq 0 (as.map some ++ List.replicate (4 - 3) none) [] M v N) : Met l y_LM_seq (Cond.code y_LM_seq b_LM_seq 4 (some .int) :: LW) { frames := 3, cells := mSz N - mSz M, slots := mSl N - mSl M, locals := 67 } (me_Pc (mG B Dd cA) as M) (me_Qc (mG B Dd cA) v N) (mSz N - mSz M) (mSl N - mSl M) (fun q => B ≤ q) := by
  refine me_met (X := X_LM_seq) (el := eL) (G := mG B Dd cA) (cc := b_LM_seq) (maxL := 4) (ws' := LW) (ret := (some .int)) (by decide +kernel) rfl rfl (Or.inr (Or.inl ⟨rfl, rfl⟩)) (by omega) rfl mG_CL mG_AT (le_LM_seq hrun) (fun args s hts hNw => ?_) (fun p e s m args below meth c Q S hK hNw pc as2 M2 r M1 h => ?_) (by rw [hlen]; exact hrun)
  · have ht : ∀ w ∈ LW, w.before args s = true := fun w hw => hts w (List.mem_cons_of_mem _ hw)
    refine ⟨?_, ?_, ?_, ?_, ?_, ?_, ?_, ?_, ?_⟩
    · intro idx ci k key ty h
      unfold X_LM_seq at h
      dsimp only [xF] at h
      split at h
      · cases h
        exact tf (r := (R_Or, F_Or, 3)) ht rfl (by decide) (by decide) rfl rfl cl_Or rfl (mT 211 (by decide +kernel) rfl) (fun _ h => h.elim)
      · cases h
    · exact tf_nil
    · exact fun _ _ _ _ _ _ (h : none = some _) => by cases h
    · exact tn_nil
    · exact ta_nil
    · exact fun (h : none = some _) => by cases h
    · exact fun (h : none = some _) => by cases h
    · exact fun _ _ (h : none = some _) => by cases h
    · exact fun h => absurd rfl h
  · unfold X_LM_seq at h
    dsimp only [xCall] at h
    split at h
    · obtain ⟨⟨b0, t0, rfl, hk0⟩, hn0, hr0⟩ := h
      exact me_crV S hK mG_NW hNw (snd_LM_orderAt hn0 hr0) (le_LM_orderAt hr0).1 (le_LM_orderAt hr0).2 (cwV (C := R_LM) 2 S.2.2.2.2 (gV cI (mT 552 (by decide +kernel) rfl) (mT 549 (by decide +kernel) rfl) (mT 551 (by decide +kernel) rfl) (mS 27 (by decide +kernel) rfl) (mT 1 (by decide +kernel) rfl)) rfl rfl rfl (by decide +kernel) ⟨Nat.le_of_ble_eq_true rfl, Nat.le_of_ble_eq_true rfl⟩) (by simp only [List.length_cons] at hn0; omega) hk0 (by decide) (q0 := (R_LM, F_LM, 5)) rfl rfl d_LM_seq_3
    · exact h.elim
theorem le_LM_deps {ls : List (Option me_V)} {M N : me_M} {v : Option me_V} (h : RUN eL X_LM_deps 0 ls [] M v N) : mSz M ≤ mSz N ∧ mSl M ≤ mSl N := by
  refine RUN.le (fun pc as M r M1 h => ?_) h
  unfold X_LM_deps at h
  dsimp only [xCall] at h
  split at h
  · exact le_LM_orderAt h.2.2
  · exact h.elim
theorem snd_LM_deps {l : Launch} {B : Nat} {Dd : va_G} {cA : Nat → ClassId} {as : List me_V} {M N : me_M} {v : Option me_V} (hlen : as.length = 3) (hrun : RUN eL X_LM_deps 0 (as.map some ++ List.replicate (4 - 3) none) [] M v N) : Met l y_LM_deps (Cond.code y_LM_deps b_LM_deps 4 (some .int) :: LW) { frames := 3, cells := mSz N - mSz M, slots := mSl N - mSl M, locals := 67 } (me_Pc (mG B Dd cA) as M) (me_Qc (mG B Dd cA) v N) (mSz N - mSz M) (mSl N - mSl M) (fun q => B ≤ q) := by
  refine me_met (X := X_LM_deps) (el := eL) (G := mG B Dd cA) (cc := b_LM_deps) (maxL := 4) (ws' := LW) (ret := (some .int)) (by decide +kernel) rfl rfl (Or.inr (Or.inl ⟨rfl, rfl⟩)) (by omega) rfl mG_CL mG_AT (le_LM_deps hrun) (fun args s hts hNw => ?_) (fun p e s m args below meth c Q S hK hNw pc as2 M2 r M1 h => ?_) (by rw [hlen]; exact hrun)
  · have ht : ∀ w ∈ LW, w.before args s = true := fun w hw => hts w (List.mem_cons_of_mem _ hw)
    refine ⟨?_, ?_, ?_, ?_, ?_, ?_, ?_, ?_, ?_⟩
    · intro idx ci k key ty h
      unfold X_LM_deps at h
      dsimp only [xF] at h
      split at h
      · cases h
        exact tf (r := (R_Or, F_Or, 3)) ht rfl (by decide) (by decide) rfl rfl cl_Or rfl (mT 216 (by decide +kernel) rfl) (fun _ h => h.elim)
      · cases h
    · exact tf_nil
    · exact fun _ _ _ _ _ _ (h : none = some _) => by cases h
    · exact tn_nil
    · exact ta_nil
    · exact fun (h : none = some _) => by cases h
    · exact fun (h : none = some _) => by cases h
    · exact fun _ _ (h : none = some _) => by cases h
    · exact fun h => absurd rfl h
  · unfold X_LM_deps at h
    dsimp only [xCall] at h
    split at h
    · obtain ⟨⟨b0, t0, rfl, hk0⟩, hn0, hr0⟩ := h
      exact me_crV S hK mG_NW hNw (snd_LM_orderAt hn0 hr0) (le_LM_orderAt hr0).1 (le_LM_orderAt hr0).2 (cwV (C := R_LM) 2 S.2.2.2.2 (gV cI (mT 552 (by decide +kernel) rfl) (mT 549 (by decide +kernel) rfl) (mT 551 (by decide +kernel) rfl) (mS 27 (by decide +kernel) rfl) (mT 1 (by decide +kernel) rfl)) rfl rfl rfl (by decide +kernel) ⟨Nat.le_of_ble_eq_true rfl, Nat.le_of_ble_eq_true rfl⟩) (by simp only [List.length_cons] at hn0; omega) hk0 (by decide) (q0 := (R_LM, F_LM, 5)) rfl rfl d_LM_deps_3
    · exact h.elim
theorem le_LM_promised {ls : List (Option me_V)} {M N : me_M} {v : Option me_V} (h : RUN eL X_LM_promised 0 ls [] M v N) : mSz M ≤ mSz N ∧ mSl M ≤ mSl N := by
  refine RUN.le (fun pc as M r M1 h => ?_) h
  unfold X_LM_promised at h
  dsimp only [xCall] at h
  split at h
  · exact le_LM_entryAt h.2.2
  · exact h.elim
theorem snd_LM_promised {l : Launch} {B : Nat} {Dd : va_G} {cA : Nat → ClassId} {as : List me_V} {M N : me_M} {v : Option me_V} (hlen : as.length = 3) (hrun : RUN eL X_LM_promised 0 (as.map some ++ List.replicate (4 - 3) none) [] M v N) : Met l y_LM_promised (Cond.code y_LM_promised b_LM_promised 4 (some .int) :: LW) { frames := 2, cells := mSz N - mSz M, slots := mSl N - mSl M, locals := 44 } (me_Pc (mG B Dd cA) as M) (me_Qc (mG B Dd cA) v N) (mSz N - mSz M) (mSl N - mSl M) (fun q => B ≤ q) := by
  refine me_met (X := X_LM_promised) (el := eL) (G := mG B Dd cA) (cc := b_LM_promised) (maxL := 4) (ws' := LW) (ret := (some .int)) (by decide +kernel) rfl rfl (Or.inr (Or.inl ⟨rfl, rfl⟩)) (by omega) rfl mG_CL mG_AT (le_LM_promised hrun) (fun args s hts hNw => ?_) (fun p e s m args below meth c Q S hK hNw pc as2 M2 r M1 h => ?_) (by rw [hlen]; exact hrun)
  · have ht : ∀ w ∈ LW, w.before args s = true := fun w hw => hts w (List.mem_cons_of_mem _ hw)
    refine ⟨?_, ?_, ?_, ?_, ?_, ?_, ?_, ?_, ?_⟩
    · intro idx ci k key ty h
      unfold X_LM_promised at h
      dsimp only [xF] at h
      split at h
      · cases h
        exact tf (r := (R_En, F_En, 6)) ht rfl (by decide) (by decide) rfl rfl cl_En rfl (mT 67 (by decide +kernel) rfl) (fun _ h => h.elim)
      · cases h
    · exact tf_nil
    · exact fun _ _ _ _ _ _ (h : none = some _) => by cases h
    · exact tn_nil
    · exact ta_nil
    · exact fun (h : none = some _) => by cases h
    · exact fun (h : none = some _) => by cases h
    · exact fun _ _ (h : none = some _) => by cases h
    · exact fun h => absurd rfl h
  · unfold X_LM_promised at h
    dsimp only [xCall] at h
    split at h
    · obtain ⟨⟨b0, t0, rfl, hk0⟩, hn0, hr0⟩ := h
      exact me_crV S hK mG_NW hNw (snd_LM_entryAt hn0 hr0) (le_LM_entryAt hr0).1 (le_LM_entryAt hr0).2 (cwV (C := R_LM) 2 S.2.2.2.2 (gV cI (mT 328 (by decide +kernel) rfl) (mT 325 (by decide +kernel) rfl) (mT 327 (by decide +kernel) rfl) (mS 4 (by decide +kernel) rfl) (mT 1 (by decide +kernel) rfl)) rfl rfl rfl (by decide +kernel) ⟨Nat.le_of_ble_eq_true rfl, Nat.le_of_ble_eq_true rfl⟩) (by simp only [List.length_cons] at hn0; omega) hk0 (by decide) (q0 := (R_LM, F_LM, 5)) rfl rfl d_LM_promised_3
    · exact h.elim
theorem le_LM_result {ls : List (Option me_V)} {M N : me_M} {v : Option me_V} (h : RUN eL X_LM_result 0 ls [] M v N) : mSz M ≤ mSz N ∧ mSl M ≤ mSl N := by
  refine RUN.le (fun pc as M r M1 h => ?_) h
  unfold X_LM_result at h
  dsimp only [xCall] at h
  split at h
  · exact le_LM_entryAt h.2.2
  · exact h.elim
theorem snd_LM_result {l : Launch} {B : Nat} {Dd : va_G} {cA : Nat → ClassId} {as : List me_V} {M N : me_M} {v : Option me_V} (hlen : as.length = 3) (hrun : RUN eL X_LM_result 0 (as.map some ++ List.replicate (4 - 3) none) [] M v N) : Met l y_LM_result (Cond.code y_LM_result b_LM_result 4 (some .int) :: LW) { frames := 2, cells := mSz N - mSz M, slots := mSl N - mSl M, locals := 44 } (me_Pc (mG B Dd cA) as M) (me_Qc (mG B Dd cA) v N) (mSz N - mSz M) (mSl N - mSl M) (fun q => B ≤ q) := by
  refine me_met (X := X_LM_result) (el := eL) (G := mG B Dd cA) (cc := b_LM_result) (maxL := 4) (ws' := LW) (ret := (some .int)) (by decide +kernel) rfl rfl (Or.inr (Or.inl ⟨rfl, rfl⟩)) (by omega) rfl mG_CL mG_AT (le_LM_result hrun) (fun args s hts hNw => ?_) (fun p e s m args below meth c Q S hK hNw pc as2 M2 r M1 h => ?_) (by rw [hlen]; exact hrun)
  · have ht : ∀ w ∈ LW, w.before args s = true := fun w hw => hts w (List.mem_cons_of_mem _ hw)
    refine ⟨?_, ?_, ?_, ?_, ?_, ?_, ?_, ?_, ?_⟩
    · intro idx ci k key ty h
      unfold X_LM_result at h
      dsimp only [xF] at h
      split at h
      · cases h
        exact tf (r := (R_En, F_En, 6)) ht rfl (by decide) (by decide) rfl rfl cl_En rfl (mT 59 (by decide +kernel) rfl) (fun _ h => h.elim)
      · cases h
        exact tf (r := (R_En, F_En, 6)) ht rfl (by decide) (by decide) rfl rfl cl_En rfl (mT 72 (by decide +kernel) rfl) (fun _ h => h.elim)
      · cases h
    · exact tf_nil
    · exact fun _ _ _ _ _ _ (h : none = some _) => by cases h
    · exact tn_nil
    · exact ta_nil
    · exact fun (h : none = some _) => by cases h
    · exact fun (h : none = some _) => by cases h
    · exact fun _ _ (h : none = some _) => by cases h
    · exact fun h => absurd rfl h
  · unfold X_LM_result at h
    dsimp only [xCall] at h
    split at h
    · obtain ⟨⟨b0, t0, rfl, hk0⟩, hn0, hr0⟩ := h
      exact me_crV S hK mG_NW hNw (snd_LM_entryAt hn0 hr0) (le_LM_entryAt hr0).1 (le_LM_entryAt hr0).2 (cwV (C := R_LM) 2 S.2.2.2.2 (gV cI (mT 328 (by decide +kernel) rfl) (mT 325 (by decide +kernel) rfl) (mT 327 (by decide +kernel) rfl) (mS 4 (by decide +kernel) rfl) (mT 1 (by decide +kernel) rfl)) rfl rfl rfl (by decide +kernel) ⟨Nat.le_of_ble_eq_true rfl, Nat.le_of_ble_eq_true rfl⟩) (by simp only [List.length_cons] at hn0; omega) hk0 (by decide) (q0 := (R_LM, F_LM, 5)) rfl rfl d_LM_result_3
    · exact h.elim
theorem le_LM_place {ls : List (Option me_V)} {M N : me_M} {v : Option me_V} (h : RUN eL X_LM_place 0 ls [] M v N) : mSz M ≤ mSz N ∧ mSl M ≤ mSl N := by
  refine RUN.le (fun pc as M r M1 h => ?_) h
  unfold X_LM_place at h
  dsimp only [xCall] at h
  split at h
  · exact le_LM_entryAt h.2.2
  · exact h.elim
theorem snd_LM_place {l : Launch} {B : Nat} {Dd : va_G} {cA : Nat → ClassId} {as : List me_V} {M N : me_M} {v : Option me_V} (hlen : as.length = 3) (hrun : RUN eL X_LM_place 0 (as.map some ++ List.replicate (4 - 3) none) [] M v N) : Met l y_LM_place (Cond.code y_LM_place b_LM_place 4 (some .int) :: LW) { frames := 2, cells := mSz N - mSz M, slots := mSl N - mSl M, locals := 44 } (me_Pc (mG B Dd cA) as M) (me_Qc (mG B Dd cA) v N) (mSz N - mSz M) (mSl N - mSl M) (fun q => B ≤ q) := by
  refine me_met (X := X_LM_place) (el := eL) (G := mG B Dd cA) (cc := b_LM_place) (maxL := 4) (ws' := LW) (ret := (some .int)) (by decide +kernel) rfl rfl (Or.inr (Or.inl ⟨rfl, rfl⟩)) (by omega) rfl mG_CL mG_AT (le_LM_place hrun) (fun args s hts hNw => ?_) (fun p e s m args below meth c Q S hK hNw pc as2 M2 r M1 h => ?_) (by rw [hlen]; exact hrun)
  · have ht : ∀ w ∈ LW, w.before args s = true := fun w hw => hts w (List.mem_cons_of_mem _ hw)
    refine ⟨?_, ?_, ?_, ?_, ?_, ?_, ?_, ?_, ?_⟩
    · intro idx ci k key ty h
      unfold X_LM_place at h
      dsimp only [xF] at h
      split at h
      · cases h
        exact tf (r := (R_En, F_En, 6)) ht rfl (by decide) (by decide) rfl rfl cl_En rfl (mT 59 (by decide +kernel) rfl) (fun _ h => h.elim)
      · cases h
        exact tf (r := (R_En, F_En, 6)) ht rfl (by decide) (by decide) rfl rfl cl_En rfl (mT 74 (by decide +kernel) rfl) (fun _ h => h.elim)
      · cases h
    · exact tf_nil
    · exact fun _ _ _ _ _ _ (h : none = some _) => by cases h
    · exact tn_nil
    · exact ta_nil
    · exact fun (h : none = some _) => by cases h
    · exact fun (h : none = some _) => by cases h
    · exact fun _ _ (h : none = some _) => by cases h
    · exact fun h => absurd rfl h
  · unfold X_LM_place at h
    dsimp only [xCall] at h
    split at h
    · obtain ⟨⟨b0, t0, rfl, hk0⟩, hn0, hr0⟩ := h
      exact me_crV S hK mG_NW hNw (snd_LM_entryAt hn0 hr0) (le_LM_entryAt hr0).1 (le_LM_entryAt hr0).2 (cwV (C := R_LM) 2 S.2.2.2.2 (gV cI (mT 328 (by decide +kernel) rfl) (mT 325 (by decide +kernel) rfl) (mT 327 (by decide +kernel) rfl) (mS 4 (by decide +kernel) rfl) (mT 1 (by decide +kernel) rfl)) rfl rfl rfl (by decide +kernel) ⟨Nat.le_of_ble_eq_true rfl, Nat.le_of_ble_eq_true rfl⟩) (by simp only [List.length_cons] at hn0; omega) hk0 (by decide) (q0 := (R_LM, F_LM, 5)) rfl rfl d_LM_place_3
    · exact h.elim
theorem le_LM_value {ls : List (Option me_V)} {M N : me_M} {v : Option me_V} (h : RUN eL X_LM_value 0 ls [] M v N) : mSz M ≤ mSz N ∧ mSl M ≤ mSl N := by
  refine RUN.le (fun pc as M r M1 h => ?_) h
  unfold X_LM_value at h
  dsimp only [xCall] at h
  split at h
  · exact le_LM_isReplica h.2.2
  · exact le_LM_isKey h.2.2
  · exact h.elim
theorem snd_LM_value {l : Launch} {B : Nat} {Dd : va_G} {cA : Nat → ClassId} {as : List me_V} {M N : me_M} {v : Option me_V} (hlen : as.length = 3) (hrun : RUN eL X_LM_value 0 (as.map some ++ List.replicate (3 - 3) none) [] M v N) : Met l y_LM_value (Cond.code y_LM_value b_LM_value 3 (some .int) :: LW) { frames := 1, cells := mSz N - mSz M, slots := mSl N - mSl M, locals := 21 } (me_Pc (mG B Dd cA) as M) (me_Qc (mG B Dd cA) v N) (mSz N - mSz M) (mSl N - mSl M) (fun q => B ≤ q) := by
  refine me_met (X := X_LM_value) (el := eL) (G := mG B Dd cA) (cc := b_LM_value) (maxL := 3) (ws' := LW) (ret := (some .int)) (by decide +kernel) rfl rfl (Or.inr (Or.inl ⟨rfl, rfl⟩)) (by omega) rfl mG_CL mG_AT (le_LM_value hrun) (fun args s hts hNw => ?_) (fun p e s m args below meth c Q S hK hNw pc as2 M2 r M1 h => ?_) (by rw [hlen]; exact hrun)
  · have ht : ∀ w ∈ LW, w.before args s = true := fun w hw => hts w (List.mem_cons_of_mem _ hw)
    refine ⟨?_, ?_, ?_, ?_, ?_, ?_, ?_, ?_, ?_⟩
    · intro idx ci k key ty h
      unfold X_LM_value at h
      dsimp only [xF] at h
      split at h
      · cases h
        exact tf (r := (R_LM, F_LM, 5)) ht rfl (by decide) (by decide) rfl rfl cl_LM rfl (mT 142 (by decide +kernel) rfl) (fun _ h => h.elim)
      · cases h
        exact tf (r := (R_Rp, F_Rp, 8)) ht rfl (by decide) (by decide) rfl rfl cl_Rp rfl (mT 119 (by decide +kernel) rfl) (fun _ h => h.elim)
      · cases h
        exact tf (r := (R_Sto, F_Sto, 4)) ht rfl (by decide) (by decide) rfl rfl cl_Sto rfl (mT 97 (by decide +kernel) rfl) (fun _ h => h.elim)
      · cases h
    · exact tf_nil
    · exact fun _ _ _ _ _ _ (h : none = some _) => by cases h
    · exact tn_nil
    · exact ta_nil
    · exact fun (h : none = some _) => by cases h
    · exact fun (h : none = some _) => by cases h
    · exact fun _ _ (h : none = some _) => by cases h
    · exact fun h => absurd rfl h
  · unfold X_LM_value at h
    dsimp only [xCall] at h
    split at h
    · obtain ⟨⟨b0, t0, rfl, hk0⟩, hn0, hr0⟩ := h
      exact me_crV S hK mG_NW hNw (snd_LM_isReplica hn0 hr0) (le_LM_isReplica hr0).1 (le_LM_isReplica hr0).2 (cwV (C := R_LM) 1 S.2.2.2.2 (gV cI (mT 166 (by decide +kernel) rfl) (mT 163 (by decide +kernel) rfl) (mT 165 (by decide +kernel) rfl) (mS 1 (by decide +kernel) rfl) (mT 1 (by decide +kernel) rfl)) rfl rfl rfl (by decide +kernel) ⟨Nat.le_of_ble_eq_true rfl, Nat.le_of_ble_eq_true rfl⟩) (by simp only [List.length_cons] at hn0; omega) hk0 (by decide) (q0 := (R_LM, F_LM, 5)) rfl rfl d_LM_value_2
    · obtain ⟨⟨b0, t0, rfl, hk0⟩, hn0, hr0⟩ := h
      exact me_crV S hK mG_NW hNw (snd_LM_isKey hn0 hr0) (le_LM_isKey hr0).1 (le_LM_isKey hr0).2 (cwV (C := R_LM) 1 S.2.2.2.2 (gV cI (mT 170 (by decide +kernel) rfl) (mT 167 (by decide +kernel) rfl) (mT 169 (by decide +kernel) rfl) (mS 2 (by decide +kernel) rfl) (mT 1 (by decide +kernel) rfl)) rfl rfl rfl (by decide +kernel) ⟨Nat.le_of_ble_eq_true rfl, Nat.le_of_ble_eq_true rfl⟩) (by simp only [List.length_cons] at hn0; omega) hk0 (by decide) (q0 := (R_LM, F_LM, 5)) rfl rfl d_LM_value_10
    · exact h.elim
theorem le_Md_init {ls : List (Option me_V)} {M N : me_M} {v : Option me_V} (h : RUN eL X_Md_init 0 ls [] M v N) : mSz M ≤ mSz N ∧ mSl M ≤ mSl N := by
  refine RUN.le (fun pc as M r M1 h => ?_) h
  exact False.elim h
theorem snd_Md_init {l : Launch} {B : Nat} {Dd : va_G} {cA : Nat → ClassId} {as : List me_V} {M N : me_M} {v : Option me_V} (hlen : as.length = 2) (hrun : RUN eL X_Md_init 0 (as.map some ++ List.replicate (2 - 2) none) [] M v N) : Met l y_Md_init (Cond.code y_Md_init b_Md_init 2 none :: LW) { frames := 1, cells := mSz N - mSz M, slots := mSl N - mSl M, locals := 20 } (me_Pc (mG B Dd cA) as M) (me_Qc (mG B Dd cA) v N) (mSz N - mSz M) (mSl N - mSl M) (fun q => B ≤ q) := by
  refine me_met (X := X_Md_init) (el := eL) (G := mG B Dd cA) (cc := b_Md_init) (maxL := 2) (ws' := LW) (ret := none) (by decide +kernel) rfl rfl (Or.inl ⟨rfl, rfl⟩) (by omega) rfl mG_CL mG_AT (le_Md_init hrun) (fun args s hts hNw => ?_) (fun p e s m args below meth c Q S hK hNw pc as2 M2 r M1 h => ?_) (by rw [hlen]; exact hrun)
  · have ht : ∀ w ∈ LW, w.before args s = true := fun w hw => hts w (List.mem_cons_of_mem _ hw)
    refine ⟨?_, ?_, ?_, ?_, ?_, ?_, ?_, ?_, ?_⟩
    · intro idx ci k key ty h
      unfold X_Md_init at h
      dsimp only [xF] at h
      split at h
      · cases h
        exact tf (r := (R_Md, F_Md, 30)) ht rfl (by decide) (by decide) rfl rfl cl_Md rfl (mT 590 (by decide +kernel) rfl) (fun _ h => h.elim)
      · cases h
    · intro idx ci k key ty h
      unfold X_Md_init at h
      dsimp only [xG] at h
      split at h
      · cases h
        exact tf (r := (R_Md, F_Md, 30)) ht rfl (by decide) (by decide) rfl rfl cl_Md rfl (mT 593 (by decide +kernel) rfl) (fun _ _ => rfl)
      · cases h
        exact tf (r := (R_Md, F_Md, 30)) ht rfl (by decide) (by decide) rfl rfl cl_Md rfl (mT 594 (by decide +kernel) rfl) (fun _ _ => rfl)
      · cases h
        exact tf (r := (R_Md, F_Md, 30)) ht rfl (by decide) (by decide) rfl rfl cl_Md rfl (mT 595 (by decide +kernel) rfl) (fun _ _ => rfl)
      · cases h
        exact tf (r := (R_Md, F_Md, 30)) ht rfl (by decide) (by decide) rfl rfl cl_Md rfl (mT 596 (by decide +kernel) rfl) (fun _ _ => rfl)
      · cases h
        exact tf (r := (R_Md, F_Md, 30)) ht rfl (by decide) (by decide) rfl rfl cl_Md rfl (mT 597 (by decide +kernel) rfl) (fun _ _ => rfl)
      · cases h
        exact tf (r := (R_Md, F_Md, 30)) ht rfl (by decide) (by decide) rfl rfl cl_Md rfl (mT 598 (by decide +kernel) rfl) (fun _ _ => rfl)
      · cases h
        exact tf (r := (R_Md, F_Md, 30)) ht rfl (by decide) (by decide) rfl rfl cl_Md rfl (mT 599 (by decide +kernel) rfl) (fun _ _ => rfl)
      · cases h
        exact tf (r := (R_Md, F_Md, 30)) ht rfl (by decide) (by decide) rfl rfl cl_Md rfl (mT 600 (by decide +kernel) rfl) (fun _ _ => rfl)
      · cases h
        exact tf (r := (R_Md, F_Md, 30)) ht rfl (by decide) (by decide) rfl rfl cl_Md rfl (mT 601 (by decide +kernel) rfl) (fun _ _ => rfl)
      · cases h
        exact tf (r := (R_Md, F_Md, 30)) ht rfl (by decide) (by decide) rfl rfl cl_Md rfl (mT 602 (by decide +kernel) rfl) (fun _ _ => rfl)
      · cases h
        exact tf (r := (R_Md, F_Md, 30)) ht rfl (by decide) (by decide) rfl rfl cl_Md rfl (mT 603 (by decide +kernel) rfl) (fun _ _ => rfl)
      · cases h
        exact tf (r := (R_Md, F_Md, 30)) ht rfl (by decide) (by decide) rfl rfl cl_Md rfl (mT 604 (by decide +kernel) rfl) (fun _ _ => rfl)
      · cases h
        exact tf (r := (R_Md, F_Md, 30)) ht rfl (by decide) (by decide) rfl rfl cl_Md rfl (mT 605 (by decide +kernel) rfl) (fun _ _ => rfl)
      · cases h
        exact tf (r := (R_Md, F_Md, 30)) ht rfl (by decide) (by decide) rfl rfl cl_Md rfl (mT 606 (by decide +kernel) rfl) (fun _ _ => rfl)
      · cases h
        exact tf (r := (R_Md, F_Md, 30)) ht rfl (by decide) (by decide) rfl rfl cl_Md rfl (mT 607 (by decide +kernel) rfl) (fun _ _ => rfl)
      · cases h
        exact tf (r := (R_Md, F_Md, 30)) ht rfl (by decide) (by decide) rfl rfl cl_Md rfl (mT 608 (by decide +kernel) rfl) (fun _ _ => rfl)
      · cases h
        exact tf (r := (R_Md, F_Md, 30)) ht rfl (by decide) (by decide) rfl rfl cl_Md rfl (mT 609 (by decide +kernel) rfl) (fun _ _ => rfl)
      · cases h
        exact tf (r := (R_Md, F_Md, 30)) ht rfl (by decide) (by decide) rfl rfl cl_Md rfl (mT 610 (by decide +kernel) rfl) (fun _ _ => rfl)
      · cases h
        exact tf (r := (R_Md, F_Md, 30)) ht rfl (by decide) (by decide) rfl rfl cl_Md rfl (mT 611 (by decide +kernel) rfl) (fun _ _ => rfl)
      · cases h
        exact tf (r := (R_Md, F_Md, 30)) ht rfl (by decide) (by decide) rfl rfl cl_Md rfl (mT 612 (by decide +kernel) rfl) (fun _ _ => rfl)
      · cases h
        exact tf (r := (R_Md, F_Md, 30)) ht rfl (by decide) (by decide) rfl rfl cl_Md rfl (mT 613 (by decide +kernel) rfl) (fun _ _ => rfl)
      · cases h
        exact tf (r := (R_Md, F_Md, 30)) ht rfl (by decide) (by decide) rfl rfl cl_Md rfl (mT 614 (by decide +kernel) rfl) (fun _ _ => rfl)
      · cases h
        exact tf (r := (R_Md, F_Md, 30)) ht rfl (by decide) (by decide) rfl rfl cl_Md rfl (mT 615 (by decide +kernel) rfl) (fun _ _ => rfl)
      · cases h
        exact tf (r := (R_Md, F_Md, 30)) ht rfl (by decide) (by decide) rfl rfl cl_Md rfl (mT 618 (by decide +kernel) rfl) (fun _ _ => rfl)
      · cases h
        exact tf (r := (R_Md, F_Md, 30)) ht rfl (by decide) (by decide) rfl rfl cl_Md rfl (mT 619 (by decide +kernel) rfl) (fun _ _ => rfl)
      · cases h
        exact tf (r := (R_Md, F_Md, 30)) ht rfl (by decide) (by decide) rfl rfl cl_Md rfl (mT 590 (by decide +kernel) rfl) (fun _ _ => rfl)
      · cases h
        exact tf (r := (R_Md, F_Md, 30)) ht rfl (by decide) (by decide) rfl rfl cl_Md rfl (mT 591 (by decide +kernel) rfl) (fun _ _ => rfl)
      · cases h
        exact tf (r := (R_Md, F_Md, 30)) ht rfl (by decide) (by decide) rfl rfl cl_Md rfl (mT 592 (by decide +kernel) rfl) (fun _ _ => rfl)
      · cases h
    · exact fun _ _ _ _ _ _ _ _ _ => rfl
    · exact tn_nil
    · intro idx a h hi
      unfold X_Md_init at h
      dsimp only [xA] at h
      split at h
      · omega
      · omega
      · cases h
    · exact fun _ => ht _ (mT 110 (by decide +kernel) rfl)
    · exact fun _ => ht _ (mT 681 (by decide +kernel) rfl)
    · exact fun _ _ (h : none = some _) => by cases h
    · exact fun _ => ⟨ht _ (mT 589 (by decide +kernel) rfl), ht _ (mT 19 (by decide +kernel) rfl), ht _ (mT 20 (by decide +kernel) rfl), Nat.le_of_ble_eq_true rfl, Nat.le_of_ble_eq_true rfl⟩
  · exact False.elim h
theorem le_Md_known {ls : List (Option me_V)} {M N : me_M} {v : Option me_V} (h : RUN eL X_Md_known 0 ls [] M v N) : mSz M ≤ mSz N ∧ mSl M ≤ mSl N := by
  refine RUN.le (fun pc as M r M1 h => ?_) h
  exact False.elim h
theorem snd_Md_known {l : Launch} {B : Nat} {Dd : va_G} {cA : Nat → ClassId} {as : List me_V} {M N : me_M} {v : Option me_V} (hlen : as.length = 3) (hrun : RUN eL X_Md_known 0 (as.map some ++ List.replicate (3 - 3) none) [] M v N) : Met l y_Md_known (Cond.code y_Md_known b_Md_known 3 (some .boolean) :: LW) { frames := 0, cells := mSz N - mSz M, slots := mSl N - mSl M, locals := 0 } (me_Pc (mG B Dd cA) as M) (me_Qc (mG B Dd cA) v N) (mSz N - mSz M) (mSl N - mSl M) (fun q => B ≤ q) := by
  refine me_met (X := X_Md_known) (el := eL) (G := mG B Dd cA) (cc := b_Md_known) (maxL := 3) (ws' := LW) (ret := (some .boolean)) (by decide +kernel) rfl rfl (Or.inr (Or.inr (Or.inl ⟨rfl, rfl⟩))) (by omega) rfl mG_CL mG_AT (le_Md_known hrun) (fun args s hts hNw => ?_) (fun p e s m args below meth c Q S hK hNw pc as2 M2 r M1 h => ?_) (by rw [hlen]; exact hrun)
  · have ht : ∀ w ∈ LW, w.before args s = true := fun w hw => hts w (List.mem_cons_of_mem _ hw)
    refine ⟨?_, ?_, ?_, ?_, ?_, ?_, ?_, ?_, ?_⟩
    · intro idx ci k key ty h
      unfold X_Md_known at h
      dsimp only [xF] at h
      split at h
      · cases h
        exact tf (r := (R_Md, F_Md, 30)) ht rfl (by decide) (by decide) rfl rfl cl_Md rfl (mT 590 (by decide +kernel) rfl) (fun _ h => h.elim)
      · cases h
        exact tf (r := (R_Md, F_Md, 30)) ht rfl (by decide) (by decide) rfl rfl cl_Md rfl (mT 592 (by decide +kernel) rfl) (fun _ h => h.elim)
      · cases h
    · exact tf_nil
    · exact fun _ _ _ _ _ _ (h : none = some _) => by cases h
    · exact tn_nil
    · exact ta_nil
    · exact fun (h : none = some _) => by cases h
    · exact fun (h : none = some _) => by cases h
    · exact fun _ _ (h : none = some _) => by cases h
    · exact fun h => absurd rfl h
  · exact False.elim h
theorem le_Md_interfere {ls : List (Option me_V)} {M N : me_M} {v : Option me_V} (h : RUN eL X_Md_interfere 0 ls [] M v N) : mSz M ≤ mSz N ∧ mSl M ≤ mSl N := by
  refine RUN.le (fun pc as M r M1 h => ?_) h
  exact False.elim h
theorem snd_Md_interfere {l : Launch} {B : Nat} {Dd : va_G} {cA : Nat → ClassId} {as : List me_V} {M N : me_M} {v : Option me_V} (hlen : as.length = 2) (hrun : RUN eL X_Md_interfere 0 (as.map some ++ List.replicate (2 - 2) none) [] M v N) : Met l y_Md_interfere (Cond.code y_Md_interfere b_Md_interfere 2 (some .boolean) :: LW) { frames := 0, cells := mSz N - mSz M, slots := mSl N - mSl M, locals := 0 } (me_Pc (mG B Dd cA) as M) (me_Qc (mG B Dd cA) v N) (mSz N - mSz M) (mSl N - mSl M) (fun q => B ≤ q) := by
  refine me_met (X := X_Md_interfere) (el := eL) (G := mG B Dd cA) (cc := b_Md_interfere) (maxL := 2) (ws' := LW) (ret := (some .boolean)) (by decide +kernel) rfl rfl (Or.inr (Or.inr (Or.inl ⟨rfl, rfl⟩))) (by omega) rfl mG_CL mG_AT (le_Md_interfere hrun) (fun args s hts hNw => ?_) (fun p e s m args below meth c Q S hK hNw pc as2 M2 r M1 h => ?_) (by rw [hlen]; exact hrun)
  · have ht : ∀ w ∈ LW, w.before args s = true := fun w hw => hts w (List.mem_cons_of_mem _ hw)
    refine ⟨?_, ?_, ?_, ?_, ?_, ?_, ?_, ?_, ?_⟩
    · exact tf_nil
    · exact tf_nil
    · exact fun _ _ _ _ _ _ (h : none = some _) => by cases h
    · exact tn_nil
    · exact ta_nil
    · exact fun (h : none = some _) => by cases h
    · exact fun (h : none = some _) => by cases h
    · exact fun _ _ (h : none = some _) => by cases h
    · exact fun h => absurd rfl h
  · exact False.elim h
theorem le_Md_related {ls : List (Option me_V)} {M N : me_M} {v : Option me_V} (h : RUN eL X_Md_related 0 ls [] M v N) : mSz M ≤ mSz N ∧ mSl M ≤ mSl N := by
  refine RUN.le (fun pc as M r M1 h => ?_) h
  unfold X_Md_related at h
  dsimp only [xCall] at h
  split at h
  · exact le_Md_interfere h.2
  · exact h.elim
theorem snd_Md_related {l : Launch} {B : Nat} {Dd : va_G} {cA : Nat → ClassId} {as : List me_V} {M N : me_M} {v : Option me_V} (hlen : as.length = 5) (hrun : RUN eL X_Md_related 0 (as.map some ++ List.replicate (6 - 5) none) [] M v N) : Met l y_Md_related (Cond.code y_Md_related b_Md_related 6 (some .boolean) :: LW) { frames := 1, cells := mSz N - mSz M, slots := mSl N - mSl M, locals := 21 } (me_Pc (mG B Dd cA) as M) (me_Qc (mG B Dd cA) v N) (mSz N - mSz M) (mSl N - mSl M) (fun q => B ≤ q) := by
  refine me_met (X := X_Md_related) (el := eL) (G := mG B Dd cA) (cc := b_Md_related) (maxL := 6) (ws' := LW) (ret := (some .boolean)) (by decide +kernel) rfl rfl (Or.inr (Or.inr (Or.inl ⟨rfl, rfl⟩))) (by omega) rfl mG_CL mG_AT (le_Md_related hrun) (fun args s hts hNw => ?_) (fun p e s m args below meth c Q S hK hNw pc as2 M2 r M1 h => ?_) (by rw [hlen]; exact hrun)
  · have ht : ∀ w ∈ LW, w.before args s = true := fun w hw => hts w (List.mem_cons_of_mem _ hw)
    refine ⟨?_, ?_, ?_, ?_, ?_, ?_, ?_, ?_, ?_⟩
    · intro idx ci k key ty h
      unfold X_Md_related at h
      dsimp only [xF] at h
      split at h
      · cases h
        exact tf (r := (R_Md, F_Md, 30)) ht rfl (by decide) (by decide) rfl rfl cl_Md rfl (mT 596 (by decide +kernel) rfl) (fun _ h => h.elim)
      · cases h
        exact tf (r := (R_Md, F_Md, 30)) ht rfl (by decide) (by decide) rfl rfl cl_Md rfl (mT 597 (by decide +kernel) rfl) (fun _ h => h.elim)
      · cases h
    · exact tf_nil
    · exact fun _ _ _ _ _ _ (h : none = some _) => by cases h
    · exact tn_nil
    · exact ta_nil
    · exact fun (h : none = some _) => by cases h
    · exact fun (h : none = some _) => by cases h
    · exact fun _ _ (h : none = some _) => by cases h
    · exact fun h => absurd rfl h
  · unfold X_Md_related at h
    dsimp only [xCall] at h
    split at h
    · obtain ⟨hn0, hr0⟩ := h
      exact me_crS S hK mG_NW hNw (snd_Md_interfere hn0 hr0) (le_Md_interfere hr0).1 (le_Md_interfere hr0).2 (va_cwS 2 S.2.2.2.2 (gT2 cI (mT 716 (by decide +kernel) rfl) (mT 714 (by decide +kernel) rfl) (mT 715 (by decide +kernel) rfl) (mT 6 (by decide +kernel) rfl)) rfl rfl rfl (by decide +kernel) ⟨Nat.le_of_ble_eq_true rfl, Nat.le_of_ble_eq_true rfl⟩) hn0 d_Md_related_32
    · exact h.elim
theorem le_Md_put {ls : List (Option me_V)} {M N : me_M} {v : Option me_V} (h : RUN eL X_Md_put 0 ls [] M v N) : mSz M ≤ mSz N ∧ mSl M ≤ mSl N := by
  refine RUN.le (fun pc as M r M1 h => ?_) h
  exact False.elim h
theorem snd_Md_put {l : Launch} {B : Nat} {Dd : va_G} {cA : Nat → ClassId} {as : List me_V} {M N : me_M} {v : Option me_V} (hlen : as.length = 5) (hrun : RUN eL X_Md_put 0 (as.map some ++ List.replicate (5 - 5) none) [] M v N) : Met l y_Md_put (Cond.code y_Md_put b_Md_put 5 none :: LW) { frames := 0, cells := mSz N - mSz M, slots := mSl N - mSl M, locals := 0 } (me_Pc (mG B Dd cA) as M) (me_Qc (mG B Dd cA) v N) (mSz N - mSz M) (mSl N - mSl M) (fun q => B ≤ q) := by
  refine me_met (X := X_Md_put) (el := eL) (G := mG B Dd cA) (cc := b_Md_put) (maxL := 5) (ws' := LW) (ret := none) (by decide +kernel) rfl rfl (Or.inl ⟨rfl, rfl⟩) (by omega) rfl mG_CL mG_AT (le_Md_put hrun) (fun args s hts hNw => ?_) (fun p e s m args below meth c Q S hK hNw pc as2 M2 r M1 h => ?_) (by rw [hlen]; exact hrun)
  · have ht : ∀ w ∈ LW, w.before args s = true := fun w hw => hts w (List.mem_cons_of_mem _ hw)
    refine ⟨?_, ?_, ?_, ?_, ?_, ?_, ?_, ?_, ?_⟩
    · intro idx ci k key ty h
      unfold X_Md_put at h
      dsimp only [xF] at h
      split at h
      · cases h
        exact tf (r := (R_Md, F_Md, 30)) ht rfl (by decide) (by decide) rfl rfl cl_Md rfl (mT 596 (by decide +kernel) rfl) (fun _ h => h.elim)
      · cases h
        exact tf (r := (R_Md, F_Md, 30)) ht rfl (by decide) (by decide) rfl rfl cl_Md rfl (mT 597 (by decide +kernel) rfl) (fun _ h => h.elim)
      · cases h
        exact tf (r := (R_Md, F_Md, 30)) ht rfl (by decide) (by decide) rfl rfl cl_Md rfl (mT 598 (by decide +kernel) rfl) (fun _ h => h.elim)
      · cases h
    · exact tf_nil
    · exact fun _ _ _ _ _ _ (h : none = some _) => by cases h
    · exact tn_nil
    · exact ta_nil
    · exact fun (h : none = some _) => by cases h
    · exact fun (h : none = some _) => by cases h
    · exact fun _ _ (h : none = some _) => by cases h
    · exact fun h => absurd rfl h
  · exact False.elim h
theorem le_Md_fit {ls : List (Option me_V)} {M N : me_M} {v : Option me_V} (h : RUN eL X_Md_fit 0 ls [] M v N) : mSz M ≤ mSz N ∧ mSl M ≤ mSl N := by
  refine RUN.le (fun pc as M r M1 h => ?_) h
  unfold X_Md_fit at h
  dsimp only [xCall] at h
  split at h
  · exact le_Md_related h.2.2
  · exact le_Md_put h.2.2
  · exact h.elim
theorem snd_Md_fit {l : Launch} {B : Nat} {Dd : va_G} {cA : Nat → ClassId} {as : List me_V} {M N : me_M} {v : Option me_V} (hlen : as.length = 7) (hrun : RUN eL X_Md_fit 0 (as.map some ++ List.replicate (10 - 7) none) [] M v N) : Met l y_Md_fit (Cond.code y_Md_fit b_Md_fit 10 none :: LW) { frames := 2, cells := mSz N - mSz M, slots := mSl N - mSl M, locals := 46 } (me_Pc (mG B Dd cA) as M) (me_Qc (mG B Dd cA) v N) (mSz N - mSz M) (mSl N - mSl M) (fun q => B ≤ q) := by
  refine me_met (X := X_Md_fit) (el := eL) (G := mG B Dd cA) (cc := b_Md_fit) (maxL := 10) (ws' := LW) (ret := none) (by decide +kernel) rfl rfl (Or.inl ⟨rfl, rfl⟩) (by omega) rfl mG_CL mG_AT (le_Md_fit hrun) (fun args s hts hNw => ?_) (fun p e s m args below meth c Q S hK hNw pc as2 M2 r M1 h => ?_) (by rw [hlen]; exact hrun)
  · have ht : ∀ w ∈ LW, w.before args s = true := fun w hw => hts w (List.mem_cons_of_mem _ hw)
    refine ⟨?_, ?_, ?_, ?_, ?_, ?_, ?_, ?_, ?_⟩
    · intro idx ci k key ty h
      unfold X_Md_fit at h
      dsimp only [xF] at h
      split at h
      · cases h
        exact tf (r := (R_Md, F_Md, 30)) ht rfl (by decide) (by decide) rfl rfl cl_Md rfl (mT 599 (by decide +kernel) rfl) (fun _ h => h.elim)
      · cases h
        exact tf (r := (R_Md, F_Md, 30)) ht rfl (by decide) (by decide) rfl rfl cl_Md rfl (mT 600 (by decide +kernel) rfl) (fun _ h => h.elim)
      · cases h
        exact tf (r := (R_Md, F_Md, 30)) ht rfl (by decide) (by decide) rfl rfl cl_Md rfl (mT 592 (by decide +kernel) rfl) (fun _ h => h.elim)
      · cases h
    · exact tf_nil
    · exact fun _ _ _ _ _ _ (h : none = some _) => by cases h
    · exact tn_nil
    · exact ta_nil
    · exact fun (h : none = some _) => by cases h
    · exact fun (h : none = some _) => by cases h
    · exact fun _ _ (h : none = some _) => by cases h
    · exact fun h => absurd rfl h
  · unfold X_Md_fit at h
    dsimp only [xCall] at h
    split at h
    · obtain ⟨⟨b0, t0, rfl, hk0⟩, hn0, hr0⟩ := h
      exact me_crV S hK mG_NW hNw (snd_Md_related hn0 hr0) (le_Md_related hr0).1 (le_Md_related hr0).2 (cwV (C := R_Md) 4 S.2.2.2.2 (gV cI (mT 713 (by decide +kernel) rfl) (mT 710 (by decide +kernel) rfl) (mT 712 (by decide +kernel) rfl) (mS 33 (by decide +kernel) rfl) (mT 6 (by decide +kernel) rfl)) rfl rfl rfl (by decide +kernel) ⟨Nat.le_of_ble_eq_true rfl, Nat.le_of_ble_eq_true rfl⟩) (by simp only [List.length_cons] at hn0; omega) hk0 (by decide) (q0 := (R_Md, F_Md, 30)) rfl rfl d_Md_fit_26
    · obtain ⟨⟨b0, t0, rfl, hk0⟩, hn0, hr0⟩ := h
      exact me_crV S hK mG_NW hNw (snd_Md_put hn0 hr0) (le_Md_put hr0).1 (le_Md_put hr0).2 (cwV (C := R_Md) 4 S.2.2.2.2 (gV cI (mT 720 (by decide +kernel) rfl) (mT 717 (by decide +kernel) rfl) (mT 719 (by decide +kernel) rfl) (mS 34 (by decide +kernel) rfl) (mT 6 (by decide +kernel) rfl)) rfl rfl rfl (by decide +kernel) ⟨Nat.le_of_ble_eq_true rfl, Nat.le_of_ble_eq_true rfl⟩) (by simp only [List.length_cons] at hn0; omega) hk0 (by decide) (q0 := (R_Md, F_Md, 30)) rfl rfl d_Md_fit_96
    · exact h.elim
theorem le_Md_send {ls : List (Option me_V)} {M N : me_M} {v : Option me_V} (h : RUN eL X_Md_send 0 ls [] M v N) : mSz M ≤ mSz N ∧ mSl M ≤ mSl N := by
  refine RUN.le (fun pc as M r M1 h => ?_) h
  exact False.elim h
theorem snd_Md_send {l : Launch} {B : Nat} {Dd : va_G} {cA : Nat → ClassId} {as : List me_V} {M N : me_M} {v : Option me_V} (hlen : as.length = 6) (hrun : RUN eL X_Md_send 0 (as.map some ++ List.replicate (8 - 6) none) [] M v N) : Met l y_Md_send (Cond.code y_Md_send b_Md_send 8 none :: LW) { frames := 0, cells := mSz N - mSz M, slots := mSl N - mSl M, locals := 0 } (me_Pc (mG B Dd cA) as M) (me_Qc (mG B Dd cA) v N) (mSz N - mSz M) (mSl N - mSl M) (fun q => B ≤ q) := by
  refine me_met (X := X_Md_send) (el := eL) (G := mG B Dd cA) (cc := b_Md_send) (maxL := 8) (ws' := LW) (ret := none) (by decide +kernel) rfl rfl (Or.inl ⟨rfl, rfl⟩) (by omega) rfl mG_CL mG_AT (le_Md_send hrun) (fun args s hts hNw => ?_) (fun p e s m args below meth c Q S hK hNw pc as2 M2 r M1 h => ?_) (by rw [hlen]; exact hrun)
  · have ht : ∀ w ∈ LW, w.before args s = true := fun w hw => hts w (List.mem_cons_of_mem _ hw)
    refine ⟨?_, ?_, ?_, ?_, ?_, ?_, ?_, ?_, ?_⟩
    · intro idx ci k key ty h
      unfold X_Md_send at h
      dsimp only [xF] at h
      split at h
      · cases h
        exact tf (r := (R_Md, F_Md, 30)) ht rfl (by decide) (by decide) rfl rfl cl_Md rfl (mT 596 (by decide +kernel) rfl) (fun _ h => h.elim)
      · cases h
        exact tf (r := (R_Md, F_Md, 30)) ht rfl (by decide) (by decide) rfl rfl cl_Md rfl (mT 597 (by decide +kernel) rfl) (fun _ h => h.elim)
      · cases h
        exact tf (r := (R_Md, F_Md, 30)) ht rfl (by decide) (by decide) rfl rfl cl_Md rfl (mT 598 (by decide +kernel) rfl) (fun _ h => h.elim)
      · cases h
        exact tf (r := (R_Md, F_Md, 30)) ht rfl (by decide) (by decide) rfl rfl cl_Md rfl (mT 599 (by decide +kernel) rfl) (fun _ h => h.elim)
      · cases h
        exact tf (r := (R_Md, F_Md, 30)) ht rfl (by decide) (by decide) rfl rfl cl_Md rfl (mT 600 (by decide +kernel) rfl) (fun _ h => h.elim)
      · cases h
        exact tf (r := (R_Md, F_Md, 30)) ht rfl (by decide) (by decide) rfl rfl cl_Md rfl (mT 602 (by decide +kernel) rfl) (fun _ h => h.elim)
      · cases h
        exact tf (r := (R_Md, F_Md, 30)) ht rfl (by decide) (by decide) rfl rfl cl_Md rfl (mT 618 (by decide +kernel) rfl) (fun _ h => h.elim)
      · cases h
        exact tf (r := (R_Md, F_Md, 30)) ht rfl (by decide) (by decide) rfl rfl cl_Md rfl (mT 616 (by decide +kernel) rfl) (fun _ h => h.elim)
      · cases h
        exact tf (r := (R_Md, F_Md, 30)) ht rfl (by decide) (by decide) rfl rfl cl_Md rfl (mT 617 (by decide +kernel) rfl) (fun _ h => h.elim)
      · cases h
    · intro idx ci k key ty h
      unfold X_Md_send at h
      dsimp only [xG] at h
      split at h
      · cases h
        exact tf (r := (R_Md, F_Md, 30)) ht rfl (by decide) (by decide) rfl rfl cl_Md rfl (mT 616 (by decide +kernel) rfl) (fun _ _ => rfl)
      · cases h
        exact tf (r := (R_Md, F_Md, 30)) ht rfl (by decide) (by decide) rfl rfl cl_Md rfl (mT 617 (by decide +kernel) rfl) (fun _ _ => rfl)
      · cases h
    · intro idx ci k key ty r h hr hf
      unfold X_Md_send at h
      dsimp only [xG] at h
      split at h
      · cases h
        cases hr
        exact absurd hf (by decide)
      · cases h
        cases hr
        exact absurd hf (by decide)
      · cases h
    · exact tn_nil
    · exact ta_nil
    · exact fun (h : none = some _) => by cases h
    · exact fun (h : none = some _) => by cases h
    · exact fun _ _ (h : none = some _) => by cases h
    · exact fun h => absurd rfl h
  · exact False.elim h
theorem le_Md_sendAll {ls : List (Option me_V)} {M N : me_M} {v : Option me_V} (h : RUN eL X_Md_sendAll 0 ls [] M v N) : mSz M ≤ mSz N ∧ mSl M ≤ mSl N := by
  refine RUN.le (fun pc as M r M1 h => ?_) h
  unfold X_Md_sendAll at h
  dsimp only [xCall] at h
  split at h
  · exact le_Md_send h.2.2
  · exact h.elim
theorem snd_Md_sendAll {l : Launch} {B : Nat} {Dd : va_G} {cA : Nat → ClassId} {as : List me_V} {M N : me_M} {v : Option me_V} (hlen : as.length = 5) (hrun : RUN eL X_Md_sendAll 0 (as.map some ++ List.replicate (6 - 5) none) [] M v N) : Met l y_Md_sendAll (Cond.code y_Md_sendAll b_Md_sendAll 6 none :: LW) { frames := 1, cells := mSz N - mSz M, slots := mSl N - mSl M, locals := 27 } (me_Pc (mG B Dd cA) as M) (me_Qc (mG B Dd cA) v N) (mSz N - mSz M) (mSl N - mSl M) (fun q => B ≤ q) := by
  refine me_met (X := X_Md_sendAll) (el := eL) (G := mG B Dd cA) (cc := b_Md_sendAll) (maxL := 6) (ws' := LW) (ret := none) (by decide +kernel) rfl rfl (Or.inl ⟨rfl, rfl⟩) (by omega) rfl mG_CL mG_AT (le_Md_sendAll hrun) (fun args s hts hNw => ?_) (fun p e s m args below meth c Q S hK hNw pc as2 M2 r M1 h => ?_) (by rw [hlen]; exact hrun)
  · have ht : ∀ w ∈ LW, w.before args s = true := fun w hw => hts w (List.mem_cons_of_mem _ hw)
    refine ⟨?_, ?_, ?_, ?_, ?_, ?_, ?_, ?_, ?_⟩
    · intro idx ci k key ty h
      unfold X_Md_sendAll at h
      dsimp only [xF] at h
      split at h
      · cases h
        exact tf (r := (R_Md, F_Md, 30)) ht rfl (by decide) (by decide) rfl rfl cl_Md rfl (mT 590 (by decide +kernel) rfl) (fun _ h => h.elim)
      · cases h
    · exact tf_nil
    · exact fun _ _ _ _ _ _ (h : none = some _) => by cases h
    · exact tn_nil
    · exact ta_nil
    · exact fun (h : none = some _) => by cases h
    · exact fun (h : none = some _) => by cases h
    · exact fun _ _ (h : none = some _) => by cases h
    · exact fun h => absurd rfl h
  · unfold X_Md_sendAll at h
    dsimp only [xCall] at h
    split at h
    · obtain ⟨⟨b0, t0, rfl, hk0⟩, hn0, hr0⟩ := h
      exact me_crV S hK mG_NW hNw (snd_Md_send hn0 hr0) (le_Md_send hr0).1 (le_Md_send hr0).2 (cwV (C := R_Md) 5 S.2.2.2.2 (gV cI (mT 701 (by decide +kernel) rfl) (mT 698 (by decide +kernel) rfl) (mT 700 (by decide +kernel) rfl) (mS 30 (by decide +kernel) rfl) (mT 6 (by decide +kernel) rfl)) rfl rfl rfl (by decide +kernel) ⟨Nat.le_of_ble_eq_true rfl, Nat.le_of_ble_eq_true rfl⟩) (by simp only [List.length_cons] at hn0; omega) hk0 (by decide) (q0 := (R_Md, F_Md, 30)) rfl rfl d_Md_sendAll_26
    · exact h.elim
theorem le_Md_take {ls : List (Option me_V)} {M N : me_M} {v : Option me_V} (h : RUN eL X_Md_take 0 ls [] M v N) : mSz M ≤ mSz N ∧ mSl M ≤ mSl N := by
  refine RUN.le (fun pc as M r M1 h => ?_) h
  exact False.elim h
theorem snd_Md_take {l : Launch} {B : Nat} {Dd : va_G} {cA : Nat → ClassId} {as : List me_V} {M N : me_M} {v : Option me_V} (hlen : as.length = 2) (hrun : RUN eL X_Md_take 0 (as.map some ++ List.replicate (3 - 2) none) [] M v N) : Met l y_Md_take (Cond.code y_Md_take b_Md_take 3 none :: LW) { frames := 0, cells := mSz N - mSz M, slots := mSl N - mSl M, locals := 0 } (me_Pc (mG B Dd cA) as M) (me_Qc (mG B Dd cA) v N) (mSz N - mSz M) (mSl N - mSl M) (fun q => B ≤ q) := by
  refine me_met (X := X_Md_take) (el := eL) (G := mG B Dd cA) (cc := b_Md_take) (maxL := 3) (ws' := LW) (ret := none) (by decide +kernel) rfl rfl (Or.inl ⟨rfl, rfl⟩) (by omega) rfl mG_CL mG_AT (le_Md_take hrun) (fun args s hts hNw => ?_) (fun p e s m args below meth c Q S hK hNw pc as2 M2 r M1 h => ?_) (by rw [hlen]; exact hrun)
  · have ht : ∀ w ∈ LW, w.before args s = true := fun w hw => hts w (List.mem_cons_of_mem _ hw)
    refine ⟨?_, ?_, ?_, ?_, ?_, ?_, ?_, ?_, ?_⟩
    · intro idx ci k key ty h
      unfold X_Md_take at h
      dsimp only [xF] at h
      split at h
      · cases h
        exact tf (r := (R_Md, F_Md, 30)) ht rfl (by decide) (by decide) rfl rfl cl_Md rfl (mT 618 (by decide +kernel) rfl) (fun _ h => h.elim)
      · cases h
        exact tf (r := (R_Md, F_Md, 30)) ht rfl (by decide) (by decide) rfl rfl cl_Md rfl (mT 616 (by decide +kernel) rfl) (fun _ h => h.elim)
      · cases h
    · intro idx ci k key ty h
      unfold X_Md_take at h
      dsimp only [xG] at h
      split at h
      · cases h
        exact tf (r := (R_Md, F_Md, 30)) ht rfl (by decide) (by decide) rfl rfl cl_Md rfl (mT 616 (by decide +kernel) rfl) (fun _ _ => rfl)
      · cases h
    · intro idx ci k key ty r h hr hf
      unfold X_Md_take at h
      dsimp only [xG] at h
      split at h
      · cases h
        cases hr
        exact absurd hf (by decide)
      · cases h
    · exact tn_nil
    · exact ta_nil
    · exact fun (h : none = some _) => by cases h
    · exact fun (h : none = some _) => by cases h
    · exact fun _ _ (h : none = some _) => by cases h
    · exact fun h => absurd rfl h
  · exact False.elim h
theorem le_Md_lose {ls : List (Option me_V)} {M N : me_M} {v : Option me_V} (h : RUN eL X_Md_lose 0 ls [] M v N) : mSz M ≤ mSz N ∧ mSl M ≤ mSl N := by
  refine RUN.le (fun pc as M r M1 h => ?_) h
  unfold X_Md_lose at h
  dsimp only [xCall] at h
  split at h
  · exact le_Md_take h.2.2
  · exact h.elim
theorem snd_Md_lose {l : Launch} {B : Nat} {Dd : va_G} {cA : Nat → ClassId} {as : List me_V} {M N : me_M} {v : Option me_V} (hlen : as.length = 2) (hrun : RUN eL X_Md_lose 0 (as.map some ++ List.replicate (2 - 2) none) [] M v N) : Met l y_Md_lose (Cond.code y_Md_lose b_Md_lose 2 (some .boolean) :: LW) { frames := 1, cells := mSz N - mSz M, slots := mSl N - mSl M, locals := 22 } (me_Pc (mG B Dd cA) as M) (me_Qc (mG B Dd cA) v N) (mSz N - mSz M) (mSl N - mSl M) (fun q => B ≤ q) := by
  refine me_met (X := X_Md_lose) (el := eL) (G := mG B Dd cA) (cc := b_Md_lose) (maxL := 2) (ws' := LW) (ret := (some .boolean)) (by decide +kernel) rfl rfl (Or.inr (Or.inr (Or.inl ⟨rfl, rfl⟩))) (by omega) rfl mG_CL mG_AT (le_Md_lose hrun) (fun args s hts hNw => ?_) (fun p e s m args below meth c Q S hK hNw pc as2 M2 r M1 h => ?_) (by rw [hlen]; exact hrun)
  · have ht : ∀ w ∈ LW, w.before args s = true := fun w hw => hts w (List.mem_cons_of_mem _ hw)
    refine ⟨?_, ?_, ?_, ?_, ?_, ?_, ?_, ?_, ?_⟩
    · intro idx ci k key ty h
      unfold X_Md_lose at h
      dsimp only [xF] at h
      split at h
      · cases h
        exact tf (r := (R_Md, F_Md, 30)) ht rfl (by decide) (by decide) rfl rfl cl_Md rfl (mT 616 (by decide +kernel) rfl) (fun _ h => h.elim)
      · cases h
    · exact tf_nil
    · exact fun _ _ _ _ _ _ (h : none = some _) => by cases h
    · exact tn_nil
    · exact ta_nil
    · exact fun (h : none = some _) => by cases h
    · exact fun (h : none = some _) => by cases h
    · exact fun _ _ (h : none = some _) => by cases h
    · exact fun h => absurd rfl h
  · unfold X_Md_lose at h
    dsimp only [xCall] at h
    split at h
    · obtain ⟨⟨b0, t0, rfl, hk0⟩, hn0, hr0⟩ := h
      exact me_crV S hK mG_NW hNw (snd_Md_take hn0 hr0) (le_Md_take hr0).1 (le_Md_take hr0).2 (cwV (C := R_Md) 1 S.2.2.2.2 (gV cI (mT 689 (by decide +kernel) rfl) (mT 686 (by decide +kernel) rfl) (mT 688 (by decide +kernel) rfl) (mS 28 (by decide +kernel) rfl) (mT 6 (by decide +kernel) rfl)) rfl rfl rfl (by decide +kernel) ⟨Nat.le_of_ble_eq_true rfl, Nat.le_of_ble_eq_true rfl⟩) (by simp only [List.length_cons] at hn0; omega) hk0 (by decide) (q0 := (R_Md, F_Md, 30)) rfl rfl d_Md_lose_16
    · exact h.elim
theorem le_Md_preaccept {ls : List (Option me_V)} {M N : me_M} {v : Option me_V} (h : RUN eL X_Md_preaccept 0 ls [] M v N) : mSz M ≤ mSz N ∧ mSl M ≤ mSl N := by
  refine RUN.le (fun pc as M r M1 h => ?_) h
  unfold X_Md_preaccept at h
  dsimp only [xCall] at h
  split at h
  · exact le_Md_fit h.2.2
  · exact le_Md_send h.2.2
  · exact h.elim
theorem snd_Md_preaccept {l : Launch} {B : Nat} {Dd : va_G} {cA : Nat → ClassId} {as : List me_V} {M N : me_M} {v : Option me_V} (hlen : as.length = 4) (hrun : RUN eL X_Md_preaccept 0 (as.map some ++ List.replicate (6 - 4) none) [] M v N) : Met l y_Md_preaccept (Cond.code y_Md_preaccept b_Md_preaccept 6 none :: LW) { frames := 3, cells := mSz N - mSz M, slots := mSl N - mSl M, locals := 75 } (me_Pc (mG B Dd cA) as M) (me_Qc (mG B Dd cA) v N) (mSz N - mSz M) (mSl N - mSl M) (fun q => B ≤ q) := by
  refine me_met (X := X_Md_preaccept) (el := eL) (G := mG B Dd cA) (cc := b_Md_preaccept) (maxL := 6) (ws' := LW) (ret := none) (by decide +kernel) rfl rfl (Or.inl ⟨rfl, rfl⟩) (by omega) rfl mG_CL mG_AT (le_Md_preaccept hrun) (fun args s hts hNw => ?_) (fun p e s m args below meth c Q S hK hNw pc as2 M2 r M1 h => ?_) (by rw [hlen]; exact hrun)
  · have ht : ∀ w ∈ LW, w.before args s = true := fun w hw => hts w (List.mem_cons_of_mem _ hw)
    refine ⟨?_, ?_, ?_, ?_, ?_, ?_, ?_, ?_, ?_⟩
    · intro idx ci k key ty h
      unfold X_Md_preaccept at h
      dsimp only [xF] at h
      split at h
      · cases h
        exact tf (r := (R_Md, F_Md, 30)) ht rfl (by decide) (by decide) rfl rfl cl_Md rfl (mT 596 (by decide +kernel) rfl) (fun _ h => h.elim)
      · cases h
        exact tf (r := (R_Md, F_Md, 30)) ht rfl (by decide) (by decide) rfl rfl cl_Md rfl (mT 601 (by decide +kernel) rfl) (fun _ h => h.elim)
      · cases h
        exact tf (r := (R_Md, F_Md, 30)) ht rfl (by decide) (by decide) rfl rfl cl_Md rfl (mT 602 (by decide +kernel) rfl) (fun _ h => h.elim)
      · cases h
        exact tf (r := (R_Md, F_Md, 30)) ht rfl (by decide) (by decide) rfl rfl cl_Md rfl (mT 618 (by decide +kernel) rfl) (fun _ h => h.elim)
      · cases h
    · exact tf_nil
    · exact fun _ _ _ _ _ _ (h : none = some _) => by cases h
    · exact tn_nil
    · exact ta_nil
    · exact fun (h : none = some _) => by cases h
    · exact fun (h : none = some _) => by cases h
    · exact fun _ _ (h : none = some _) => by cases h
    · exact fun h => absurd rfl h
  · unfold X_Md_preaccept at h
    dsimp only [xCall] at h
    split at h
    · obtain ⟨⟨b0, t0, rfl, hk0⟩, hn0, hr0⟩ := h
      exact me_crV S hK mG_NW hNw (snd_Md_fit hn0 hr0) (le_Md_fit hr0).1 (le_Md_fit hr0).2 (cwV (C := R_Md) 6 S.2.2.2.2 (gV cI (mT 709 (by decide +kernel) rfl) (mT 706 (by decide +kernel) rfl) (mT 708 (by decide +kernel) rfl) (mS 32 (by decide +kernel) rfl) (mT 6 (by decide +kernel) rfl)) rfl rfl rfl (by decide +kernel) ⟨Nat.le_of_ble_eq_true rfl, Nat.le_of_ble_eq_true rfl⟩) (by simp only [List.length_cons] at hn0; omega) hk0 (by decide) (q0 := (R_Md, F_Md, 30)) rfl rfl d_Md_preaccept_107
    · obtain ⟨⟨b0, t0, rfl, hk0⟩, hn0, hr0⟩ := h
      exact me_crV S hK mG_NW hNw (snd_Md_send hn0 hr0) (le_Md_send hr0).1 (le_Md_send hr0).2 (cwV (C := R_Md) 5 S.2.2.2.2 (gV cI (mT 701 (by decide +kernel) rfl) (mT 698 (by decide +kernel) rfl) (mT 700 (by decide +kernel) rfl) (mS 30 (by decide +kernel) rfl) (mT 6 (by decide +kernel) rfl)) rfl rfl rfl (by decide +kernel) ⟨Nat.le_of_ble_eq_true rfl, Nat.le_of_ble_eq_true rfl⟩) (by simp only [List.length_cons] at hn0; omega) hk0 (by decide) (q0 := (R_Md, F_Md, 30)) rfl rfl d_Md_preaccept_117
    · exact h.elim
