theorem le_Md_propose {ls : List (Option me_V)} {M N : me_M} {v : Option me_V} (h : RUN eL X_Md_propose 0 ls [] M v N) : mSz M ≤ mSz N ∧ mSl M ≤ mSl N := by
  refine RUN.le (fun pc as M r M1 h => ?_) h
  unfold X_Md_propose at h
  dsimp only [xCall] at h
  split at h
  · exact le_Md_fit h.2.2
  · exact le_Md_start h.2.2
  · exact le_Md_send h.2.2
  · exact h.elim
theorem snd_Md_propose {l : Launch} {B : Nat} {Dd : va_G} {cA : Nat → ClassId} {as : List me_V} {M N : me_M} {v : Option me_V} (hlen : as.length = 5) (hrun : RUN eL X_Md_propose 0 (as.map some ++ List.replicate (8 - 5) none) [] M v N) : Met l y_Md_propose (Cond.code y_Md_propose b_Md_propose 8 (some .int) :: LW) { frames := 3, cells := mSz N - mSz M, slots := mSl N - mSl M, locals := 75 } (me_Pc (mG B Dd cA) as M) (me_Qc (mG B Dd cA) v N) (mSz N - mSz M) (mSl N - mSl M) (fun q => B ≤ q) := by
  refine me_met (X := X_Md_propose) (el := eL) (G := mG B Dd cA) (cc := b_Md_propose) (maxL := 8) (ws' := LW) (ret := (some .int)) (by decide +kernel) rfl rfl (Or.inr (Or.inl ⟨rfl, rfl⟩)) (by omega) rfl mG_CL mG_AT (le_Md_propose hrun) (fun args s hts hNw => ?_) (fun p e s m args below meth c Q S hK hNw pc as2 M2 r M1 h => ?_) (by rw [hlen]; exact hrun)
  · have ht : ∀ w ∈ LW, w.before args s = true := fun w hw => hts w (List.mem_cons_of_mem _ hw)
    refine ⟨?_, ?_, ?_, ?_, ?_, ?_, ?_, ?_, ?_⟩
    · intro idx ci k key ty h
      unfold X_Md_propose at h
      dsimp only [xF] at h
      split at h
      · cases h
        exact tf (r := (R_Md, F_Md, 30)) ht rfl (by decide) (by decide) rfl rfl cl_Md rfl (mT 593 (by decide +kernel) rfl) (fun _ h => h.elim)
      · cases h
        exact tf (r := (R_Md, F_Md, 30)) ht rfl (by decide) (by decide) rfl rfl cl_Md rfl (mT 596 (by decide +kernel) rfl) (fun _ h => h.elim)
      · cases h
        exact tf (r := (R_Md, F_Md, 30)) ht rfl (by decide) (by decide) rfl rfl cl_Md rfl (mT 601 (by decide +kernel) rfl) (fun _ h => h.elim)
      · cases h
        exact tf (r := (R_Md, F_Md, 30)) ht rfl (by decide) (by decide) rfl rfl cl_Md rfl (mT 590 (by decide +kernel) rfl) (fun _ h => h.elim)
      · cases h
    · exact tf_nil
    · exact fun _ _ _ _ _ _ (h : none = some _) => by cases h
    · exact tn_nil
    · exact ta_nil
    · exact fun (h : none = some _) => by cases h
    · exact fun (h : none = some _) => by cases h
    · exact fun _ _ (h : none = some _) => by cases h
    · exact fun h => absurd rfl h
  · unfold X_Md_propose at h
    dsimp only [xCall] at h
    split at h
    · obtain ⟨⟨b0, t0, rfl, hk0⟩, hn0, hr0⟩ := h
      exact me_crV S hK mG_NW hNw (snd_Md_fit hn0 hr0) (le_Md_fit hr0).1 (le_Md_fit hr0).2 (cwV (C := R_Md) 6 S.2.2.2.2 (gV cI (mT 709 (by decide +kernel) rfl) (mT 706 (by decide +kernel) rfl) (mT 708 (by decide +kernel) rfl) (mS 32 (by decide +kernel) rfl) (mT 6 (by decide +kernel) rfl)) rfl rfl rfl (by decide +kernel) ⟨Nat.le_of_ble_eq_true rfl, Nat.le_of_ble_eq_true rfl⟩) (by simp only [List.length_cons] at hn0; omega) hk0 (by decide) (q0 := (R_Md, F_Md, 30)) rfl rfl d_Md_propose_106
    · obtain ⟨⟨b0, t0, rfl, hk0⟩, hn0, hr0⟩ := h
      exact me_crV S hK mG_NW hNw (snd_Md_start hn0 hr0) (le_Md_start hr0).1 (le_Md_start hr0).2 (cwV (C := R_Md) 3 S.2.2.2.2 (gV cI (mT 756 (by decide +kernel) rfl) (mT 753 (by decide +kernel) rfl) (mT 755 (by decide +kernel) rfl) (mS 43 (by decide +kernel) rfl) (mT 6 (by decide +kernel) rfl)) rfl rfl rfl (by decide +kernel) ⟨Nat.le_of_ble_eq_true rfl, Nat.le_of_ble_eq_true rfl⟩) (by simp only [List.length_cons] at hn0; omega) hk0 (by decide) (q0 := (R_Md, F_Md, 30)) rfl rfl d_Md_propose_114
    · obtain ⟨⟨b0, t0, rfl, hk0⟩, hn0, hr0⟩ := h
      exact me_crV S hK mG_NW hNw (snd_Md_send hn0 hr0) (le_Md_send hr0).1 (le_Md_send hr0).2 (cwV (C := R_Md) 5 S.2.2.2.2 (gV cI (mT 701 (by decide +kernel) rfl) (mT 698 (by decide +kernel) rfl) (mT 700 (by decide +kernel) rfl) (mS 30 (by decide +kernel) rfl) (mT 6 (by decide +kernel) rfl)) rfl rfl rfl (by decide +kernel) ⟨Nat.le_of_ble_eq_true rfl, Nat.le_of_ble_eq_true rfl⟩) (by simp only [List.length_cons] at hn0; omega) hk0 (by decide) (q0 := (R_Md, F_Md, 30)) rfl rfl d_Md_propose_146
    · exact h.elim
theorem le_Md_prepare {ls : List (Option me_V)} {M N : me_M} {v : Option me_V} (h : RUN eL X_Md_prepare 0 ls [] M v N) : mSz M ≤ mSz N ∧ mSl M ≤ mSl N := by
  refine RUN.le (fun pc as M r M1 h => ?_) h
  unfold X_Md_prepare at h
  dsimp only [xCall] at h
  split at h
  · exact le_Md_known h.2.2
  · exact le_Md_start h.2.2
  · exact le_Md_sendAll h.2.2
  · exact h.elim
theorem snd_Md_prepare {l : Launch} {B : Nat} {Dd : va_G} {cA : Nat → ClassId} {as : List me_V} {M N : me_M} {v : Option me_V} (hlen : as.length = 3) (hrun : RUN eL X_Md_prepare 0 (as.map some ++ List.replicate (5 - 3) none) [] M v N) : Met l y_Md_prepare (Cond.code y_Md_prepare b_Md_prepare 5 (some .int) :: LW) { frames := 2, cells := mSz N - mSz M, slots := mSl N - mSl M, locals := 52 } (me_Pc (mG B Dd cA) as M) (me_Qc (mG B Dd cA) v N) (mSz N - mSz M) (mSl N - mSl M) (fun q => B ≤ q) := by
  refine me_met (X := X_Md_prepare) (el := eL) (G := mG B Dd cA) (cc := b_Md_prepare) (maxL := 5) (ws' := LW) (ret := (some .int)) (by decide +kernel) rfl rfl (Or.inr (Or.inl ⟨rfl, rfl⟩)) (by omega) rfl mG_CL mG_AT (le_Md_prepare hrun) (fun args s hts hNw => ?_) (fun p e s m args below meth c Q S hK hNw pc as2 M2 r M1 h => ?_) (by rw [hlen]; exact hrun)
  · have ht : ∀ w ∈ LW, w.before args s = true := fun w hw => hts w (List.mem_cons_of_mem _ hw)
    refine ⟨?_, ?_, ?_, ?_, ?_, ?_, ?_, ?_, ?_⟩
    · intro idx ci k key ty h
      unfold X_Md_prepare at h
      dsimp only [xF] at h
      split at h
      · cases h
        exact tf (r := (R_Md, F_Md, 30)) ht rfl (by decide) (by decide) rfl rfl cl_Md rfl (mT 593 (by decide +kernel) rfl) (fun _ h => h.elim)
      · cases h
        exact tf (r := (R_Md, F_Md, 30)) ht rfl (by decide) (by decide) rfl rfl cl_Md rfl (mT 596 (by decide +kernel) rfl) (fun _ h => h.elim)
      · cases h
        exact tf (r := (R_Md, F_Md, 30)) ht rfl (by decide) (by decide) rfl rfl cl_Md rfl (mT 601 (by decide +kernel) rfl) (fun _ h => h.elim)
      · cases h
        exact tf (r := (R_Md, F_Md, 30)) ht rfl (by decide) (by decide) rfl rfl cl_Md rfl (mT 590 (by decide +kernel) rfl) (fun _ h => h.elim)
      · cases h
    · exact tf_nil
    · exact fun _ _ _ _ _ _ (h : none = some _) => by cases h
    · exact tn_nil
    · exact ta_nil
    · exact fun (h : none = some _) => by cases h
    · exact fun (h : none = some _) => by cases h
    · exact fun _ _ (h : none = some _) => by cases h
    · exact fun h => absurd rfl h
  · unfold X_Md_prepare at h
    dsimp only [xCall] at h
    split at h
    · obtain ⟨⟨b0, t0, rfl, hk0⟩, hn0, hr0⟩ := h
      exact me_crV S hK mG_NW hNw (snd_Md_known hn0 hr0) (le_Md_known hr0).1 (le_Md_known hr0).2 (cwV (C := R_Md) 2 S.2.2.2.2 (gV cI (mT 788 (by decide +kernel) rfl) (mT 785 (by decide +kernel) rfl) (mT 787 (by decide +kernel) rfl) (mS 49 (by decide +kernel) rfl) (mT 6 (by decide +kernel) rfl)) rfl rfl rfl (by decide +kernel) ⟨Nat.le_of_ble_eq_true rfl, Nat.le_of_ble_eq_true rfl⟩) (by simp only [List.length_cons] at hn0; omega) hk0 (by decide) (q0 := (R_Md, F_Md, 30)) rfl rfl d_Md_prepare_3
    · obtain ⟨⟨b0, t0, rfl, hk0⟩, hn0, hr0⟩ := h
      exact me_crV S hK mG_NW hNw (snd_Md_start hn0 hr0) (le_Md_start hr0).1 (le_Md_start hr0).2 (cwV (C := R_Md) 3 S.2.2.2.2 (gV cI (mT 756 (by decide +kernel) rfl) (mT 753 (by decide +kernel) rfl) (mT 755 (by decide +kernel) rfl) (mS 43 (by decide +kernel) rfl) (mT 6 (by decide +kernel) rfl)) rfl rfl rfl (by decide +kernel) ⟨Nat.le_of_ble_eq_true rfl, Nat.le_of_ble_eq_true rfl⟩) (by simp only [List.length_cons] at hn0; omega) hk0 (by decide) (q0 := (R_Md, F_Md, 30)) rfl rfl d_Md_prepare_82
    · obtain ⟨⟨b0, t0, rfl, hk0⟩, hn0, hr0⟩ := h
      exact me_crV S hK mG_NW hNw (snd_Md_sendAll hn0 hr0) (le_Md_sendAll hr0).1 (le_Md_sendAll hr0).2 (cwV (C := R_Md) 4 S.2.2.2.2 (gV cI (mT 748 (by decide +kernel) rfl) (mT 745 (by decide +kernel) rfl) (mT 747 (by decide +kernel) rfl) (mS 41 (by decide +kernel) rfl) (mT 6 (by decide +kernel) rfl)) rfl rfl rfl (by decide +kernel) ⟨Nat.le_of_ble_eq_true rfl, Nat.le_of_ble_eq_true rfl⟩) (by simp only [List.length_cons] at hn0; omega) hk0 (by decide) (q0 := (R_Md, F_Md, 30)) rfl rfl d_Md_prepare_91
    · exact h.elim
theorem le_Md_crash {ls : List (Option me_V)} {M N : me_M} {v : Option me_V} (h : RUN eL X_Md_crash 0 ls [] M v N) : mSz M ≤ mSz N ∧ mSl M ≤ mSl N := by
  refine RUN.le (fun pc as M r M1 h => ?_) h
  exact False.elim h
theorem snd_Md_crash {l : Launch} {B : Nat} {Dd : va_G} {cA : Nat → ClassId} {as : List me_V} {M N : me_M} {v : Option me_V} (hlen : as.length = 2) (hrun : RUN eL X_Md_crash 0 (as.map some ++ List.replicate (4 - 2) none) [] M v N) : Met l y_Md_crash (Cond.code y_Md_crash b_Md_crash 4 (some .boolean) :: LW) { frames := 0, cells := mSz N - mSz M, slots := mSl N - mSl M, locals := 0 } (me_Pc (mG B Dd cA) as M) (me_Qc (mG B Dd cA) v N) (mSz N - mSz M) (mSl N - mSl M) (fun q => B ≤ q) := by
  refine me_met (X := X_Md_crash) (el := eL) (G := mG B Dd cA) (cc := b_Md_crash) (maxL := 4) (ws' := LW) (ret := (some .boolean)) (by decide +kernel) rfl rfl (Or.inr (Or.inr (Or.inl ⟨rfl, rfl⟩))) (by omega) rfl mG_CL mG_AT (le_Md_crash hrun) (fun args s hts hNw => ?_) (fun p e s m args below meth c Q S hK hNw pc as2 M2 r M1 h => ?_) (by rw [hlen]; exact hrun)
  · have ht : ∀ w ∈ LW, w.before args s = true := fun w hw => hts w (List.mem_cons_of_mem _ hw)
    refine ⟨?_, ?_, ?_, ?_, ?_, ?_, ?_, ?_, ?_⟩
    · intro idx ci k key ty h
      unfold X_Md_crash at h
      dsimp only [xF] at h
      split at h
      · cases h
        exact tf (r := (R_Md, F_Md, 30)) ht rfl (by decide) (by decide) rfl rfl cl_Md rfl (mT 593 (by decide +kernel) rfl) (fun _ h => h.elim)
      · cases h
        exact tf (r := (R_Md, F_Md, 30)) ht rfl (by decide) (by decide) rfl rfl cl_Md rfl (mT 590 (by decide +kernel) rfl) (fun _ h => h.elim)
      · cases h
        exact tf (r := (R_Md, F_Md, 30)) ht rfl (by decide) (by decide) rfl rfl cl_Md rfl (mT 591 (by decide +kernel) rfl) (fun _ h => h.elim)
      · cases h
    · exact tf_nil
    · exact fun _ _ _ _ _ _ (h : none = some _) => by cases h
    · exact tn_nil
    · exact ta_nil
    · exact fun (h : none = some _) => by cases h
    · exact fun (h : none = some _) => by cases h
    · exact fun _ _ (h : none = some _) => by cases h
    · exact fun h => absurd rfl h
  · exact False.elim h
theorem le_Md_reachable {ls : List (Option me_V)} {M N : me_M} {v : Option me_V} (h : RUN eL X_Md_reachable 0 ls [] M v N) : mSz M ≤ mSz N ∧ mSl M ≤ mSl N := by
  refine RUN.le (fun pc as M r M1 h => ?_) h
  exact False.elim h
theorem snd_Md_reachable {l : Launch} {B : Nat} {Dd : va_G} {cA : Nat → ClassId} {as : List me_V} {M N : me_M} {v : Option me_V} (hlen : as.length = 2) (hrun : RUN eL X_Md_reachable 0 (as.map some ++ List.replicate (5 - 2) none) [] M v N) : Met l y_Md_reachable (Cond.code y_Md_reachable b_Md_reachable 5 none :: LW) { frames := 0, cells := mSz N - mSz M, slots := mSl N - mSl M, locals := 0 } (me_Pc (mG B Dd cA) as M) (me_Qc (mG B Dd cA) v N) (mSz N - mSz M) (mSl N - mSl M) (fun q => B ≤ q) := by
  refine me_met (X := X_Md_reachable) (el := eL) (G := mG B Dd cA) (cc := b_Md_reachable) (maxL := 5) (ws' := LW) (ret := none) (by decide +kernel) rfl rfl (Or.inl ⟨rfl, rfl⟩) (by omega) rfl mG_CL mG_AT (le_Md_reachable hrun) (fun args s hts hNw => ?_) (fun p e s m args below meth c Q S hK hNw pc as2 M2 r M1 h => ?_) (by rw [hlen]; exact hrun)
  · have ht : ∀ w ∈ LW, w.before args s = true := fun w hw => hts w (List.mem_cons_of_mem _ hw)
    refine ⟨?_, ?_, ?_, ?_, ?_, ?_, ?_, ?_, ?_⟩
    · intro idx ci k key ty h
      unfold X_Md_reachable at h
      dsimp only [xF] at h
      split at h
      · cases h
        exact tf (r := (R_Md, F_Md, 30)) ht rfl (by decide) (by decide) rfl rfl cl_Md rfl (mT 596 (by decide +kernel) rfl) (fun _ h => h.elim)
      · cases h
        exact tf (r := (R_Md, F_Md, 30)) ht rfl (by decide) (by decide) rfl rfl cl_Md rfl (mT 600 (by decide +kernel) rfl) (fun _ h => h.elim)
      · cases h
        exact tf (r := (R_Md, F_Md, 30)) ht rfl (by decide) (by decide) rfl rfl cl_Md rfl (mT 619 (by decide +kernel) rfl) (fun _ h => h.elim)
      · cases h
        exact tf (r := (R_Md, F_Md, 30)) ht rfl (by decide) (by decide) rfl rfl cl_Md rfl (mT 592 (by decide +kernel) rfl) (fun _ h => h.elim)
      · cases h
    · exact tf_nil
    · exact fun _ _ _ _ _ _ (h : none = some _) => by cases h
    · exact tn_nil
    · exact ta_nil
    · exact fun (h : none = some _) => by cases h
    · exact fun (h : none = some _) => by cases h
    · exact fun _ _ (h : none = some _) => by cases h
    · exact fun h => absurd rfl h
  · exact False.elim h
theorem le_Md_component {ls : List (Option me_V)} {M N : me_M} {v : Option me_V} (h : RUN eL X_Md_component 0 ls [] M v N) : mSz M ≤ mSz N ∧ mSl M ≤ mSl N := by
  refine RUN.le (fun pc as M r M1 h => ?_) h
  exact False.elim h
theorem snd_Md_component {l : Launch} {B : Nat} {Dd : va_G} {cA : Nat → ClassId} {as : List me_V} {M N : me_M} {v : Option me_V} (hlen : as.length = 2) (hrun : RUN eL X_Md_component 0 (as.map some ++ List.replicate (4 - 2) none) [] M v N) : Met l y_Md_component (Cond.code y_Md_component b_Md_component 4 (some .int) :: LW) { frames := 0, cells := mSz N - mSz M, slots := mSl N - mSl M, locals := 0 } (me_Pc (mG B Dd cA) as M) (me_Qc (mG B Dd cA) v N) (mSz N - mSz M) (mSl N - mSl M) (fun q => B ≤ q) := by
  refine me_met (X := X_Md_component) (el := eL) (G := mG B Dd cA) (cc := b_Md_component) (maxL := 4) (ws' := LW) (ret := (some .int)) (by decide +kernel) rfl rfl (Or.inr (Or.inl ⟨rfl, rfl⟩)) (by omega) rfl mG_CL mG_AT (le_Md_component hrun) (fun args s hts hNw => ?_) (fun p e s m args below meth c Q S hK hNw pc as2 M2 r M1 h => ?_) (by rw [hlen]; exact hrun)
  · have ht : ∀ w ∈ LW, w.before args s = true := fun w hw => hts w (List.mem_cons_of_mem _ hw)
    refine ⟨?_, ?_, ?_, ?_, ?_, ?_, ?_, ?_, ?_⟩
    · intro idx ci k key ty h
      unfold X_Md_component at h
      dsimp only [xF] at h
      split at h
      · cases h
        exact tf (r := (R_Md, F_Md, 30)) ht rfl (by decide) (by decide) rfl rfl cl_Md rfl (mT 619 (by decide +kernel) rfl) (fun _ h => h.elim)
      · cases h
        exact tf (r := (R_Md, F_Md, 30)) ht rfl (by decide) (by decide) rfl rfl cl_Md rfl (mT 592 (by decide +kernel) rfl) (fun _ h => h.elim)
      · cases h
    · exact tf_nil
    · exact fun _ _ _ _ _ _ (h : none = some _) => by cases h
    · exact tn_nil
    · exact ta_nil
    · exact fun (h : none = some _) => by cases h
    · exact fun (h : none = some _) => by cases h
    · exact fun _ _ (h : none = some _) => by cases h
    · exact fun h => absurd rfl h
  · exact False.elim h
theorem le_Md_ready {ls : List (Option me_V)} {M N : me_M} {v : Option me_V} (h : RUN eL X_Md_ready 0 ls [] M v N) : mSz M ≤ mSz N ∧ mSl M ≤ mSl N := by
  refine RUN.le (fun pc as M r M1 h => ?_) h
  exact False.elim h
theorem snd_Md_ready {l : Launch} {B : Nat} {Dd : va_G} {cA : Nat → ClassId} {as : List me_V} {M N : me_M} {v : Option me_V} (hlen : as.length = 3) (hrun : RUN eL X_Md_ready 0 (as.map some ++ List.replicate (5 - 3) none) [] M v N) : Met l y_Md_ready (Cond.code y_Md_ready b_Md_ready 5 (some .boolean) :: LW) { frames := 0, cells := mSz N - mSz M, slots := mSl N - mSl M, locals := 0 } (me_Pc (mG B Dd cA) as M) (me_Qc (mG B Dd cA) v N) (mSz N - mSz M) (mSl N - mSl M) (fun q => B ≤ q) := by
  refine me_met (X := X_Md_ready) (el := eL) (G := mG B Dd cA) (cc := b_Md_ready) (maxL := 5) (ws' := LW) (ret := (some .boolean)) (by decide +kernel) rfl rfl (Or.inr (Or.inr (Or.inl ⟨rfl, rfl⟩))) (by omega) rfl mG_CL mG_AT (le_Md_ready hrun) (fun args s hts hNw => ?_) (fun p e s m args below meth c Q S hK hNw pc as2 M2 r M1 h => ?_) (by rw [hlen]; exact hrun)
  · have ht : ∀ w ∈ LW, w.before args s = true := fun w hw => hts w (List.mem_cons_of_mem _ hw)
    refine ⟨?_, ?_, ?_, ?_, ?_, ?_, ?_, ?_, ?_⟩
    · intro idx ci k key ty h
      unfold X_Md_ready at h
      dsimp only [xF] at h
      split at h
      · cases h
        exact tf (r := (R_Md, F_Md, 30)) ht rfl (by decide) (by decide) rfl rfl cl_Md rfl (mT 596 (by decide +kernel) rfl) (fun _ h => h.elim)
      · cases h
        exact tf (r := (R_Md, F_Md, 30)) ht rfl (by decide) (by decide) rfl rfl cl_Md rfl (mT 600 (by decide +kernel) rfl) (fun _ h => h.elim)
      · cases h
        exact tf (r := (R_Md, F_Md, 30)) ht rfl (by decide) (by decide) rfl rfl cl_Md rfl (mT 592 (by decide +kernel) rfl) (fun _ h => h.elim)
      · cases h
    · exact tf_nil
    · exact fun _ _ _ _ _ _ (h : none = some _) => by cases h
    · exact tn_nil
    · exact ta_nil
    · exact fun (h : none = some _) => by cases h
    · exact fun (h : none = some _) => by cases h
    · exact fun _ _ (h : none = some _) => by cases h
    · exact fun h => absurd rfl h
  · exact False.elim h
theorem le_Md_next {ls : List (Option me_V)} {M N : me_M} {v : Option me_V} (h : RUN eL X_Md_next 0 ls [] M v N) : mSz M ≤ mSz N ∧ mSl M ≤ mSl N := by
  refine RUN.le (fun pc as M r M1 h => ?_) h
  exact False.elim h
theorem snd_Md_next {l : Launch} {B : Nat} {Dd : va_G} {cA : Nat → ClassId} {as : List me_V} {M N : me_M} {v : Option me_V} (hlen : as.length = 3) (hrun : RUN eL X_Md_next 0 (as.map some ++ List.replicate (5 - 3) none) [] M v N) : Met l y_Md_next (Cond.code y_Md_next b_Md_next 5 (some .int) :: LW) { frames := 0, cells := mSz N - mSz M, slots := mSl N - mSl M, locals := 0 } (me_Pc (mG B Dd cA) as M) (me_Qc (mG B Dd cA) v N) (mSz N - mSz M) (mSl N - mSl M) (fun q => B ≤ q) := by
  refine me_met (X := X_Md_next) (el := eL) (G := mG B Dd cA) (cc := b_Md_next) (maxL := 5) (ws' := LW) (ret := (some .int)) (by decide +kernel) rfl rfl (Or.inr (Or.inl ⟨rfl, rfl⟩)) (by omega) rfl mG_CL mG_AT (le_Md_next hrun) (fun args s hts hNw => ?_) (fun p e s m args below meth c Q S hK hNw pc as2 M2 r M1 h => ?_) (by rw [hlen]; exact hrun)
  · have ht : ∀ w ∈ LW, w.before args s = true := fun w hw => hts w (List.mem_cons_of_mem _ hw)
    refine ⟨?_, ?_, ?_, ?_, ?_, ?_, ?_, ?_, ?_⟩
    · intro idx ci k key ty h
      unfold X_Md_next at h
      dsimp only [xF] at h
      split at h
      · cases h
        exact tf (r := (R_Md, F_Md, 30)) ht rfl (by decide) (by decide) rfl rfl cl_Md rfl (mT 599 (by decide +kernel) rfl) (fun _ h => h.elim)
      · cases h
        exact tf (r := (R_Md, F_Md, 30)) ht rfl (by decide) (by decide) rfl rfl cl_Md rfl (mT 592 (by decide +kernel) rfl) (fun _ h => h.elim)
      · cases h
    · exact tf_nil
    · exact fun _ _ _ _ _ _ (h : none = some _) => by cases h
    · exact tn_nil
    · exact ta_nil
    · exact fun (h : none = some _) => by cases h
    · exact fun (h : none = some _) => by cases h
    · exact fun _ _ (h : none = some _) => by cases h
    · exact fun h => absurd rfl h
  · exact False.elim h
theorem le_Md_act {ls : List (Option me_V)} {M N : me_M} {v : Option me_V} (h : RUN eL X_Md_act 0 ls [] M v N) : mSz M ≤ mSz N ∧ mSl M ≤ mSl N := by
  refine RUN.le (fun pc as M r M1 h => ?_) h
  exact False.elim h
theorem snd_Md_act {l : Launch} {B : Nat} {Dd : va_G} {cA : Nat → ClassId} {as : List me_V} {M N : me_M} {v : Option me_V} (hlen : as.length = 3) (hrun : RUN eL X_Md_act 0 (as.map some ++ List.replicate (5 - 3) none) [] M v N) : Met l y_Md_act (Cond.code y_Md_act b_Md_act 5 none :: LW) { frames := 0, cells := mSz N - mSz M, slots := mSl N - mSl M, locals := 0 } (me_Pc (mG B Dd cA) as M) (me_Qc (mG B Dd cA) v N) (mSz N - mSz M) (mSl N - mSl M) (fun q => B ≤ q) := by
  refine me_met (X := X_Md_act) (el := eL) (G := mG B Dd cA) (cc := b_Md_act) (maxL := 5) (ws' := LW) (ret := none) (by decide +kernel) rfl rfl (Or.inl ⟨rfl, rfl⟩) (by omega) rfl mG_CL mG_AT (le_Md_act hrun) (fun args s hts hNw => ?_) (fun p e s m args below meth c Q S hK hNw pc as2 M2 r M1 h => ?_) (by rw [hlen]; exact hrun)
  · have ht : ∀ w ∈ LW, w.before args s = true := fun w hw => hts w (List.mem_cons_of_mem _ hw)
    refine ⟨?_, ?_, ?_, ?_, ?_, ?_, ?_, ?_, ?_⟩
    · intro idx ci k key ty h
      unfold X_Md_act at h
      dsimp only [xF] at h
      split at h
      · cases h
        exact tf (r := (R_Md, F_Md, 30)) ht rfl (by decide) (by decide) rfl rfl cl_Md rfl (mT 594 (by decide +kernel) rfl) (fun _ h => h.elim)
      · cases h
        exact tf (r := (R_Md, F_Md, 30)) ht rfl (by decide) (by decide) rfl rfl cl_Md rfl (mT 595 (by decide +kernel) rfl) (fun _ h => h.elim)
      · cases h
        exact tf (r := (R_Md, F_Md, 30)) ht rfl (by decide) (by decide) rfl rfl cl_Md rfl (mT 596 (by decide +kernel) rfl) (fun _ h => h.elim)
      · cases h
        exact tf (r := (R_Md, F_Md, 30)) ht rfl (by decide) (by decide) rfl rfl cl_Md rfl (mT 597 (by decide +kernel) rfl) (fun _ h => h.elim)
      · cases h
        exact tf (r := (R_Md, F_Md, 30)) ht rfl (by decide) (by decide) rfl rfl cl_Md rfl (mT 598 (by decide +kernel) rfl) (fun _ h => h.elim)
      · cases h
        exact tf (r := (R_Md, F_Md, 30)) ht rfl (by decide) (by decide) rfl rfl cl_Md rfl (mT 603 (by decide +kernel) rfl) (fun _ h => h.elim)
      · cases h
        exact tf (r := (R_Md, F_Md, 30)) ht rfl (by decide) (by decide) rfl rfl cl_Md rfl (mT 604 (by decide +kernel) rfl) (fun _ h => h.elim)
      · cases h
    · exact tf_nil
    · exact fun _ _ _ _ _ _ (h : none = some _) => by cases h
    · exact tn_nil
    · exact ta_nil
    · exact fun (h : none = some _) => by cases h
    · exact fun (h : none = some _) => by cases h
    · exact fun _ _ (h : none = some _) => by cases h
    · exact fun h => absurd rfl h
  · exact False.elim h
theorem le_Md_execute {ls : List (Option me_V)} {M N : me_M} {v : Option me_V} (h : RUN eL X_Md_execute 0 ls [] M v N) : mSz M ≤ mSz N ∧ mSl M ≤ mSl N := by
  refine RUN.le (fun pc as M r M1 h => ?_) h
  unfold X_Md_execute at h
  dsimp only [xCall] at h
  split at h
  · exact le_Md_reachable h.2.2
  · exact le_Md_component h.2.2
  · exact le_Md_ready h.2.2
  · exact le_Md_next h.2.2
  · exact le_Md_act h.2.2
  · exact h.elim
theorem snd_Md_execute {l : Launch} {B : Nat} {Dd : va_G} {cA : Nat → ClassId} {as : List me_V} {M N : me_M} {v : Option me_V} (hlen : as.length = 2) (hrun : RUN eL X_Md_execute 0 (as.map some ++ List.replicate (8 - 2) none) [] M v N) : Met l y_Md_execute (Cond.code y_Md_execute b_Md_execute 8 (some .int) :: LW) { frames := 1, cells := mSz N - mSz M, slots := mSl N - mSl M, locals := 24 } (me_Pc (mG B Dd cA) as M) (me_Qc (mG B Dd cA) v N) (mSz N - mSz M) (mSl N - mSl M) (fun q => B ≤ q) := by
  refine me_met (X := X_Md_execute) (el := eL) (G := mG B Dd cA) (cc := b_Md_execute) (maxL := 8) (ws' := LW) (ret := (some .int)) (by decide +kernel) rfl rfl (Or.inr (Or.inl ⟨rfl, rfl⟩)) (by omega) rfl mG_CL mG_AT (le_Md_execute hrun) (fun args s hts hNw => ?_) (fun p e s m args below meth c Q S hK hNw pc as2 M2 r M1 h => ?_) (by rw [hlen]; exact hrun)
  · have ht : ∀ w ∈ LW, w.before args s = true := fun w hw => hts w (List.mem_cons_of_mem _ hw)
    refine ⟨?_, ?_, ?_, ?_, ?_, ?_, ?_, ?_, ?_⟩
    · intro idx ci k key ty h
      unfold X_Md_execute at h
      dsimp only [xF] at h
      split at h
      · cases h
        exact tf (r := (R_Md, F_Md, 30)) ht rfl (by decide) (by decide) rfl rfl cl_Md rfl (mT 593 (by decide +kernel) rfl) (fun _ h => h.elim)
      · cases h
        exact tf (r := (R_Md, F_Md, 30)) ht rfl (by decide) (by decide) rfl rfl cl_Md rfl (mT 595 (by decide +kernel) rfl) (fun _ h => h.elim)
      · cases h
        exact tf (r := (R_Md, F_Md, 30)) ht rfl (by decide) (by decide) rfl rfl cl_Md rfl (mT 590 (by decide +kernel) rfl) (fun _ h => h.elim)
      · cases h
        exact tf (r := (R_Md, F_Md, 30)) ht rfl (by decide) (by decide) rfl rfl cl_Md rfl (mT 592 (by decide +kernel) rfl) (fun _ h => h.elim)
      · cases h
    · exact tf_nil
    · exact fun _ _ _ _ _ _ (h : none = some _) => by cases h
    · exact tn_nil
    · exact ta_nil
    · exact fun (h : none = some _) => by cases h
    · exact fun (h : none = some _) => by cases h
    · exact fun _ _ (h : none = some _) => by cases h
    · exact fun h => absurd rfl h
  · unfold X_Md_execute at h
    dsimp only [xCall] at h
    split at h
    · obtain ⟨⟨b0, t0, rfl, hk0⟩, hn0, hr0⟩ := h
      exact me_crV S hK mG_NW hNw (snd_Md_reachable hn0 hr0) (le_Md_reachable hr0).1 (le_Md_reachable hr0).2 (cwV (C := R_Md) 1 S.2.2.2.2 (gV cI (mT 800 (by decide +kernel) rfl) (mT 797 (by decide +kernel) rfl) (mT 799 (by decide +kernel) rfl) (mS 50 (by decide +kernel) rfl) (mT 6 (by decide +kernel) rfl)) rfl rfl rfl (by decide +kernel) ⟨Nat.le_of_ble_eq_true rfl, Nat.le_of_ble_eq_true rfl⟩) (by simp only [List.length_cons] at hn0; omega) hk0 (by decide) (q0 := (R_Md, F_Md, 30)) rfl rfl d_Md_execute_48
    · obtain ⟨⟨b0, t0, rfl, hk0⟩, hn0, hr0⟩ := h
      exact me_crV S hK mG_NW hNw (snd_Md_component hn0 hr0) (le_Md_component hr0).1 (le_Md_component hr0).2 (cwV (C := R_Md) 1 S.2.2.2.2 (gV cI (mT 804 (by decide +kernel) rfl) (mT 801 (by decide +kernel) rfl) (mT 803 (by decide +kernel) rfl) (mS 51 (by decide +kernel) rfl) (mT 6 (by decide +kernel) rfl)) rfl rfl rfl (by decide +kernel) ⟨Nat.le_of_ble_eq_true rfl, Nat.le_of_ble_eq_true rfl⟩) (by simp only [List.length_cons] at hn0; omega) hk0 (by decide) (q0 := (R_Md, F_Md, 30)) rfl rfl d_Md_execute_70
    · obtain ⟨⟨b0, t0, rfl, hk0⟩, hn0, hr0⟩ := h
      exact me_crV S hK mG_NW hNw (snd_Md_ready hn0 hr0) (le_Md_ready hr0).1 (le_Md_ready hr0).2 (cwV (C := R_Md) 2 S.2.2.2.2 (gV cI (mT 808 (by decide +kernel) rfl) (mT 805 (by decide +kernel) rfl) (mT 807 (by decide +kernel) rfl) (mS 52 (by decide +kernel) rfl) (mT 6 (by decide +kernel) rfl)) rfl rfl rfl (by decide +kernel) ⟨Nat.le_of_ble_eq_true rfl, Nat.le_of_ble_eq_true rfl⟩) (by simp only [List.length_cons] at hn0; omega) hk0 (by decide) (q0 := (R_Md, F_Md, 30)) rfl rfl d_Md_execute_79
    · obtain ⟨⟨b0, t0, rfl, hk0⟩, hn0, hr0⟩ := h
      exact me_crV S hK mG_NW hNw (snd_Md_next hn0 hr0) (le_Md_next hr0).1 (le_Md_next hr0).2 (cwV (C := R_Md) 2 S.2.2.2.2 (gV cI (mT 812 (by decide +kernel) rfl) (mT 809 (by decide +kernel) rfl) (mT 811 (by decide +kernel) rfl) (mS 53 (by decide +kernel) rfl) (mT 6 (by decide +kernel) rfl)) rfl rfl rfl (by decide +kernel) ⟨Nat.le_of_ble_eq_true rfl, Nat.le_of_ble_eq_true rfl⟩) (by simp only [List.length_cons] at hn0; omega) hk0 (by decide) (q0 := (R_Md, F_Md, 30)) rfl rfl d_Md_execute_130
    · obtain ⟨⟨b0, t0, rfl, hk0⟩, hn0, hr0⟩ := h
      exact me_crV S hK mG_NW hNw (snd_Md_act hn0 hr0) (le_Md_act hr0).1 (le_Md_act hr0).2 (cwV (C := R_Md) 2 S.2.2.2.2 (gV cI (mT 816 (by decide +kernel) rfl) (mT 813 (by decide +kernel) rfl) (mT 815 (by decide +kernel) rfl) (mS 54 (by decide +kernel) rfl) (mT 6 (by decide +kernel) rfl)) rfl rfl rfl (by decide +kernel) ⟨Nat.le_of_ble_eq_true rfl, Nat.le_of_ble_eq_true rfl⟩) (by simp only [List.length_cons] at hn0; omega) hk0 (by decide) (q0 := (R_Md, F_Md, 30)) rfl rfl d_Md_execute_139
    · exact h.elim
theorem le_Md_waiting {ls : List (Option me_V)} {M N : me_M} {v : Option me_V} (h : RUN eL X_Md_waiting 0 ls [] M v N) : mSz M ≤ mSz N ∧ mSl M ≤ mSl N := by
  refine RUN.le (fun pc as M r M1 h => ?_) h
  exact False.elim h
theorem snd_Md_waiting {l : Launch} {B : Nat} {Dd : va_G} {cA : Nat → ClassId} {as : List me_V} {M N : me_M} {v : Option me_V} (hlen : as.length = 1) (hrun : RUN eL X_Md_waiting 0 (as.map some ++ List.replicate (1 - 1) none) [] M v N) : Met l y_Md_waiting (Cond.code y_Md_waiting b_Md_waiting 1 (some .int) :: LW) { frames := 0, cells := mSz N - mSz M, slots := mSl N - mSl M, locals := 0 } (me_Pc (mG B Dd cA) as M) (me_Qc (mG B Dd cA) v N) (mSz N - mSz M) (mSl N - mSl M) (fun q => B ≤ q) := by
  refine me_met (X := X_Md_waiting) (el := eL) (G := mG B Dd cA) (cc := b_Md_waiting) (maxL := 1) (ws' := LW) (ret := (some .int)) (by decide +kernel) rfl rfl (Or.inr (Or.inl ⟨rfl, rfl⟩)) (by omega) rfl mG_CL mG_AT (le_Md_waiting hrun) (fun args s hts hNw => ?_) (fun p e s m args below meth c Q S hK hNw pc as2 M2 r M1 h => ?_) (by rw [hlen]; exact hrun)
  · have ht : ∀ w ∈ LW, w.before args s = true := fun w hw => hts w (List.mem_cons_of_mem _ hw)
    refine ⟨?_, ?_, ?_, ?_, ?_, ?_, ?_, ?_, ?_⟩
    · intro idx ci k key ty h
      unfold X_Md_waiting at h
      dsimp only [xF] at h
      split at h
      · cases h
        exact tf (r := (R_Md, F_Md, 30)) ht rfl (by decide) (by decide) rfl rfl cl_Md rfl (mT 616 (by decide +kernel) rfl) (fun _ h => h.elim)
      · cases h
    · exact tf_nil
    · exact fun _ _ _ _ _ _ (h : none = some _) => by cases h
    · exact tn_nil
    · exact ta_nil
    · exact fun (h : none = some _) => by cases h
    · exact fun (h : none = some _) => by cases h
    · exact fun _ _ (h : none = some _) => by cases h
    · exact fun h => absurd rfl h
  · exact False.elim h
theorem le_Md_message {ls : List (Option me_V)} {M N : me_M} {v : Option me_V} (h : RUN eL X_Md_message 0 ls [] M v N) : mSz M ≤ mSz N ∧ mSl M ≤ mSl N := by
  refine RUN.le (fun pc as M r M1 h => ?_) h
  exact False.elim h
theorem snd_Md_message {l : Launch} {B : Nat} {Dd : va_G} {cA : Nat → ClassId} {as : List me_V} {M N : me_M} {v : Option me_V} (hlen : as.length = 2) (hrun : RUN eL X_Md_message 0 (as.map some ++ List.replicate (3 - 2) none) [] M v N) : Met l y_Md_message (Cond.code y_Md_message b_Md_message 3 (some .int) :: LW) { frames := 0, cells := mSz N - mSz M, slots := mSl N - mSl M, locals := 0 } (me_Pc (mG B Dd cA) as M) (me_Qc (mG B Dd cA) v N) (mSz N - mSz M) (mSl N - mSl M) (fun q => B ≤ q) := by
  refine me_met (X := X_Md_message) (el := eL) (G := mG B Dd cA) (cc := b_Md_message) (maxL := 3) (ws' := LW) (ret := (some .int)) (by decide +kernel) rfl rfl (Or.inr (Or.inl ⟨rfl, rfl⟩)) (by omega) rfl mG_CL mG_AT (le_Md_message hrun) (fun args s hts hNw => ?_) (fun p e s m args below meth c Q S hK hNw pc as2 M2 r M1 h => ?_) (by rw [hlen]; exact hrun)
  · have ht : ∀ w ∈ LW, w.before args s = true := fun w hw => hts w (List.mem_cons_of_mem _ hw)
    refine ⟨?_, ?_, ?_, ?_, ?_, ?_, ?_, ?_, ?_⟩
    · intro idx ci k key ty h
      unfold X_Md_message at h
      dsimp only [xF] at h
      split at h
      · cases h
        exact tf (r := (R_Md, F_Md, 30)) ht rfl (by decide) (by decide) rfl rfl cl_Md rfl (mT 618 (by decide +kernel) rfl) (fun _ h => h.elim)
      · cases h
        exact tf (r := (R_Md, F_Md, 30)) ht rfl (by decide) (by decide) rfl rfl cl_Md rfl (mT 616 (by decide +kernel) rfl) (fun _ h => h.elim)
      · cases h
    · exact tf_nil
    · exact fun _ _ _ _ _ _ (h : none = some _) => by cases h
    · exact tn_nil
    · exact ta_nil
    · exact fun (h : none = some _) => by cases h
    · exact fun (h : none = some _) => by cases h
    · exact fun _ _ (h : none = some _) => by cases h
    · exact fun h => absurd rfl h
  · exact False.elim h
theorem le_Md_lost {ls : List (Option me_V)} {M N : me_M} {v : Option me_V} (h : RUN eL X_Md_lost 0 ls [] M v N) : mSz M ≤ mSz N ∧ mSl M ≤ mSl N := by
  refine RUN.le (fun pc as M r M1 h => ?_) h
  exact False.elim h
theorem snd_Md_lost {l : Launch} {B : Nat} {Dd : va_G} {cA : Nat → ClassId} {as : List me_V} {M N : me_M} {v : Option me_V} (hlen : as.length = 1) (hrun : RUN eL X_Md_lost 0 (as.map some ++ List.replicate (1 - 1) none) [] M v N) : Met l y_Md_lost (Cond.code y_Md_lost b_Md_lost 1 (some .int) :: LW) { frames := 0, cells := mSz N - mSz M, slots := mSl N - mSl M, locals := 0 } (me_Pc (mG B Dd cA) as M) (me_Qc (mG B Dd cA) v N) (mSz N - mSz M) (mSl N - mSl M) (fun q => B ≤ q) := by
  refine me_met (X := X_Md_lost) (el := eL) (G := mG B Dd cA) (cc := b_Md_lost) (maxL := 1) (ws' := LW) (ret := (some .int)) (by decide +kernel) rfl rfl (Or.inr (Or.inl ⟨rfl, rfl⟩)) (by omega) rfl mG_CL mG_AT (le_Md_lost hrun) (fun args s hts hNw => ?_) (fun p e s m args below meth c Q S hK hNw pc as2 M2 r M1 h => ?_) (by rw [hlen]; exact hrun)
  · have ht : ∀ w ∈ LW, w.before args s = true := fun w hw => hts w (List.mem_cons_of_mem _ hw)
    refine ⟨?_, ?_, ?_, ?_, ?_, ?_, ?_, ?_, ?_⟩
    · intro idx ci k key ty h
      unfold X_Md_lost at h
      dsimp only [xF] at h
      split at h
      · cases h
        exact tf (r := (R_Md, F_Md, 30)) ht rfl (by decide) (by decide) rfl rfl cl_Md rfl (mT 617 (by decide +kernel) rfl) (fun _ h => h.elim)
      · cases h
    · exact tf_nil
    · exact fun _ _ _ _ _ _ (h : none = some _) => by cases h
    · exact tn_nil
    · exact ta_nil
    · exact fun (h : none = some _) => by cases h
    · exact fun (h : none = some _) => by cases h
    · exact fun _ _ (h : none = some _) => by cases h
    · exact fun h => absurd rfl h
  · exact False.elim h
theorem le_Md_named {ls : List (Option me_V)} {M N : me_M} {v : Option me_V} (h : RUN eL X_Md_named 0 ls [] M v N) : mSz M ≤ mSz N ∧ mSl M ≤ mSl N := by
  refine RUN.le (fun pc as M r M1 h => ?_) h
  unfold X_Md_named at h
  dsimp only [xCall] at h
  split at h
  · exact le_Md_known h.2.2
  · exact h.elim
theorem snd_Md_named {l : Launch} {B : Nat} {Dd : va_G} {cA : Nat → ClassId} {as : List me_V} {M N : me_M} {v : Option me_V} (hlen : as.length = 3) (hrun : RUN eL X_Md_named 0 (as.map some ++ List.replicate (3 - 3) none) [] M v N) : Met l y_Md_named (Cond.code y_Md_named b_Md_named 3 (some .boolean) :: LW) { frames := 1, cells := mSz N - mSz M, slots := mSl N - mSl M, locals := 22 } (me_Pc (mG B Dd cA) as M) (me_Qc (mG B Dd cA) v N) (mSz N - mSz M) (mSl N - mSl M) (fun q => B ≤ q) := by
  refine me_met (X := X_Md_named) (el := eL) (G := mG B Dd cA) (cc := b_Md_named) (maxL := 3) (ws' := LW) (ret := (some .boolean)) (by decide +kernel) rfl rfl (Or.inr (Or.inr (Or.inl ⟨rfl, rfl⟩))) (by omega) rfl mG_CL mG_AT (le_Md_named hrun) (fun args s hts hNw => ?_) (fun p e s m args below meth c Q S hK hNw pc as2 M2 r M1 h => ?_) (by rw [hlen]; exact hrun)
  · have ht : ∀ w ∈ LW, w.before args s = true := fun w hw => hts w (List.mem_cons_of_mem _ hw)
    refine ⟨?_, ?_, ?_, ?_, ?_, ?_, ?_, ?_, ?_⟩
    · intro idx ci k key ty h
      unfold X_Md_named at h
      dsimp only [xF] at h
      split at h
      · cases h
        exact tf (r := (R_Md, F_Md, 30)) ht rfl (by decide) (by decide) rfl rfl cl_Md rfl (mT 596 (by decide +kernel) rfl) (fun _ h => h.elim)
      · cases h
    · exact tf_nil
    · exact fun _ _ _ _ _ _ (h : none = some _) => by cases h
    · exact tn_nil
    · exact ta_nil
    · exact fun (h : none = some _) => by cases h
    · exact fun (h : none = some _) => by cases h
    · exact fun _ _ (h : none = some _) => by cases h
    · exact fun h => absurd rfl h
  · unfold X_Md_named at h
    dsimp only [xCall] at h
    split at h
    · obtain ⟨⟨b0, t0, rfl, hk0⟩, hn0, hr0⟩ := h
      exact me_crV S hK mG_NW hNw (snd_Md_known hn0 hr0) (le_Md_known hr0).1 (le_Md_known hr0).2 (cwV (C := R_Md) 2 S.2.2.2.2 (gV cI (mT 788 (by decide +kernel) rfl) (mT 785 (by decide +kernel) rfl) (mT 787 (by decide +kernel) rfl) (mS 49 (by decide +kernel) rfl) (mT 6 (by decide +kernel) rfl)) rfl rfl rfl (by decide +kernel) ⟨Nat.le_of_ble_eq_true rfl, Nat.le_of_ble_eq_true rfl⟩) (by simp only [List.length_cons] at hn0; omega) hk0 (by decide) (q0 := (R_Md, F_Md, 30)) rfl rfl d_Md_named_3
    · exact h.elim
theorem le_Md_state {ls : List (Option me_V)} {M N : me_M} {v : Option me_V} (h : RUN eL X_Md_state 0 ls [] M v N) : mSz M ≤ mSz N ∧ mSl M ≤ mSl N := by
  refine RUN.le (fun pc as M r M1 h => ?_) h
  unfold X_Md_state at h
  dsimp only [xCall] at h
  split at h
  · exact le_Md_known h.2.2
  · exact h.elim
theorem snd_Md_state {l : Launch} {B : Nat} {Dd : va_G} {cA : Nat → ClassId} {as : List me_V} {M N : me_M} {v : Option me_V} (hlen : as.length = 3) (hrun : RUN eL X_Md_state 0 (as.map some ++ List.replicate (3 - 3) none) [] M v N) : Met l y_Md_state (Cond.code y_Md_state b_Md_state 3 (some .int) :: LW) { frames := 1, cells := mSz N - mSz M, slots := mSl N - mSl M, locals := 22 } (me_Pc (mG B Dd cA) as M) (me_Qc (mG B Dd cA) v N) (mSz N - mSz M) (mSl N - mSl M) (fun q => B ≤ q) := by
  refine me_met (X := X_Md_state) (el := eL) (G := mG B Dd cA) (cc := b_Md_state) (maxL := 3) (ws' := LW) (ret := (some .int)) (by decide +kernel) rfl rfl (Or.inr (Or.inl ⟨rfl, rfl⟩)) (by omega) rfl mG_CL mG_AT (le_Md_state hrun) (fun args s hts hNw => ?_) (fun p e s m args below meth c Q S hK hNw pc as2 M2 r M1 h => ?_) (by rw [hlen]; exact hrun)
  · have ht : ∀ w ∈ LW, w.before args s = true := fun w hw => hts w (List.mem_cons_of_mem _ hw)
    refine ⟨?_, ?_, ?_, ?_, ?_, ?_, ?_, ?_, ?_⟩
    · intro idx ci k key ty h
      unfold X_Md_state at h
      dsimp only [xF] at h
      split at h
      · cases h
        exact tf (r := (R_Md, F_Md, 30)) ht rfl (by decide) (by decide) rfl rfl cl_Md rfl (mT 596 (by decide +kernel) rfl) (fun _ h => h.elim)
      · cases h
    · exact tf_nil
    · exact fun _ _ _ _ _ _ (h : none = some _) => by cases h
    · exact tn_nil
    · exact ta_nil
    · exact fun (h : none = some _) => by cases h
    · exact fun (h : none = some _) => by cases h
    · exact fun _ _ (h : none = some _) => by cases h
    · exact fun h => absurd rfl h
  · unfold X_Md_state at h
    dsimp only [xCall] at h
    split at h
    · obtain ⟨⟨b0, t0, rfl, hk0⟩, hn0, hr0⟩ := h
      exact me_crV S hK mG_NW hNw (snd_Md_known hn0 hr0) (le_Md_known hr0).1 (le_Md_known hr0).2 (cwV (C := R_Md) 2 S.2.2.2.2 (gV cI (mT 788 (by decide +kernel) rfl) (mT 785 (by decide +kernel) rfl) (mT 787 (by decide +kernel) rfl) (mS 49 (by decide +kernel) rfl) (mT 6 (by decide +kernel) rfl)) rfl rfl rfl (by decide +kernel) ⟨Nat.le_of_ble_eq_true rfl, Nat.le_of_ble_eq_true rfl⟩) (by simp only [List.length_cons] at hn0; omega) hk0 (by decide) (q0 := (R_Md, F_Md, 30)) rfl rfl d_Md_state_3
    · exact h.elim
theorem le_Md_command {ls : List (Option me_V)} {M N : me_M} {v : Option me_V} (h : RUN eL X_Md_command 0 ls [] M v N) : mSz M ≤ mSz N ∧ mSl M ≤ mSl N := by
  refine RUN.le (fun pc as M r M1 h => ?_) h
  unfold X_Md_command at h
  dsimp only [xCall] at h
  split at h
  · exact le_Md_named h.2.2
  · exact h.elim
theorem snd_Md_command {l : Launch} {B : Nat} {Dd : va_G} {cA : Nat → ClassId} {as : List me_V} {M N : me_M} {v : Option me_V} (hlen : as.length = 3) (hrun : RUN eL X_Md_command 0 (as.map some ++ List.replicate (3 - 3) none) [] M v N) : Met l y_Md_command (Cond.code y_Md_command b_Md_command 3 (some .int) :: LW) { frames := 2, cells := mSz N - mSz M, slots := mSl N - mSl M, locals := 44 } (me_Pc (mG B Dd cA) as M) (me_Qc (mG B Dd cA) v N) (mSz N - mSz M) (mSl N - mSl M) (fun q => B ≤ q) := by
  refine me_met (X := X_Md_command) (el := eL) (G := mG B Dd cA) (cc := b_Md_command) (maxL := 3) (ws' := LW) (ret := (some .int)) (by decide +kernel) rfl rfl (Or.inr (Or.inl ⟨rfl, rfl⟩)) (by omega) rfl mG_CL mG_AT (le_Md_command hrun) (fun args s hts hNw => ?_) (fun p e s m args below meth c Q S hK hNw pc as2 M2 r M1 h => ?_) (by rw [hlen]; exact hrun)
  · have ht : ∀ w ∈ LW, w.before args s = true := fun w hw => hts w (List.mem_cons_of_mem _ hw)
    refine ⟨?_, ?_, ?_, ?_, ?_, ?_, ?_, ?_, ?_⟩
    · intro idx ci k key ty h
      unfold X_Md_command at h
      dsimp only [xF] at h
      split at h
      · cases h
        exact tf (r := (R_Md, F_Md, 30)) ht rfl (by decide) (by decide) rfl rfl cl_Md rfl (mT 597 (by decide +kernel) rfl) (fun _ h => h.elim)
      · cases h
    · exact tf_nil
    · exact fun _ _ _ _ _ _ (h : none = some _) => by cases h
    · exact tn_nil
    · exact ta_nil
    · exact fun (h : none = some _) => by cases h
    · exact fun (h : none = some _) => by cases h
    · exact fun _ _ (h : none = some _) => by cases h
    · exact fun h => absurd rfl h
  · unfold X_Md_command at h
    dsimp only [xCall] at h
    split at h
    · obtain ⟨⟨b0, t0, rfl, hk0⟩, hn0, hr0⟩ := h
      exact me_crV S hK mG_NW hNw (snd_Md_named hn0 hr0) (le_Md_named hr0).1 (le_Md_named hr0).2 (cwV (C := R_Md) 2 S.2.2.2.2 (gV cI (mT 840 (by decide +kernel) rfl) (mT 837 (by decide +kernel) rfl) (mT 839 (by decide +kernel) rfl) (mS 55 (by decide +kernel) rfl) (mT 6 (by decide +kernel) rfl)) rfl rfl rfl (by decide +kernel) ⟨Nat.le_of_ble_eq_true rfl, Nat.le_of_ble_eq_true rfl⟩) (by simp only [List.length_cons] at hn0; omega) hk0 (by decide) (q0 := (R_Md, F_Md, 30)) rfl rfl d_Md_command_3
    · exact h.elim
theorem le_Md_seq {ls : List (Option me_V)} {M N : me_M} {v : Option me_V} (h : RUN eL X_Md_seq 0 ls [] M v N) : mSz M ≤ mSz N ∧ mSl M ≤ mSl N := by
  refine RUN.le (fun pc as M r M1 h => ?_) h
  unfold X_Md_seq at h
  dsimp only [xCall] at h
  split at h
  · exact le_Md_named h.2.2
  · exact h.elim
theorem snd_Md_seq {l : Launch} {B : Nat} {Dd : va_G} {cA : Nat → ClassId} {as : List me_V} {M N : me_M} {v : Option me_V} (hlen : as.length = 3) (hrun : RUN eL X_Md_seq 0 (as.map some ++ List.replicate (3 - 3) none) [] M v N) : Met l y_Md_seq (Cond.code y_Md_seq b_Md_seq 3 (some .int) :: LW) { frames := 2, cells := mSz N - mSz M, slots := mSl N - mSl M, locals := 44 } (me_Pc (mG B Dd cA) as M) (me_Qc (mG B Dd cA) v N) (mSz N - mSz M) (mSl N - mSl M) (fun q => B ≤ q) := by
  refine me_met (X := X_Md_seq) (el := eL) (G := mG B Dd cA) (cc := b_Md_seq) (maxL := 3) (ws' := LW) (ret := (some .int)) (by decide +kernel) rfl rfl (Or.inr (Or.inl ⟨rfl, rfl⟩)) (by omega) rfl mG_CL mG_AT (le_Md_seq hrun) (fun args s hts hNw => ?_) (fun p e s m args below meth c Q S hK hNw pc as2 M2 r M1 h => ?_) (by rw [hlen]; exact hrun)
  · have ht : ∀ w ∈ LW, w.before args s = true := fun w hw => hts w (List.mem_cons_of_mem _ hw)
    refine ⟨?_, ?_, ?_, ?_, ?_, ?_, ?_, ?_, ?_⟩
    · intro idx ci k key ty h
      unfold X_Md_seq at h
      dsimp only [xF] at h
      split at h
      · cases h
        exact tf (r := (R_Md, F_Md, 30)) ht rfl (by decide) (by decide) rfl rfl cl_Md rfl (mT 599 (by decide +kernel) rfl) (fun _ h => h.elim)
      · cases h
    · exact tf_nil
    · exact fun _ _ _ _ _ _ (h : none = some _) => by cases h
    · exact tn_nil
    · exact ta_nil
    · exact fun (h : none = some _) => by cases h
    · exact fun (h : none = some _) => by cases h
    · exact fun _ _ (h : none = some _) => by cases h
    · exact fun h => absurd rfl h
  · unfold X_Md_seq at h
    dsimp only [xCall] at h
    split at h
    · obtain ⟨⟨b0, t0, rfl, hk0⟩, hn0, hr0⟩ := h
      exact me_crV S hK mG_NW hNw (snd_Md_named hn0 hr0) (le_Md_named hr0).1 (le_Md_named hr0).2 (cwV (C := R_Md) 2 S.2.2.2.2 (gV cI (mT 840 (by decide +kernel) rfl) (mT 837 (by decide +kernel) rfl) (mT 839 (by decide +kernel) rfl) (mS 55 (by decide +kernel) rfl) (mT 6 (by decide +kernel) rfl)) rfl rfl rfl (by decide +kernel) ⟨Nat.le_of_ble_eq_true rfl, Nat.le_of_ble_eq_true rfl⟩) (by simp only [List.length_cons] at hn0; omega) hk0 (by decide) (q0 := (R_Md, F_Md, 30)) rfl rfl d_Md_seq_3
    · exact h.elim
theorem le_Md_deps {ls : List (Option me_V)} {M N : me_M} {v : Option me_V} (h : RUN eL X_Md_deps 0 ls [] M v N) : mSz M ≤ mSz N ∧ mSl M ≤ mSl N := by
  refine RUN.le (fun pc as M r M1 h => ?_) h
  unfold X_Md_deps at h
  dsimp only [xCall] at h
  split at h
  · exact le_Md_named h.2.2
  · exact h.elim
theorem snd_Md_deps {l : Launch} {B : Nat} {Dd : va_G} {cA : Nat → ClassId} {as : List me_V} {M N : me_M} {v : Option me_V} (hlen : as.length = 3) (hrun : RUN eL X_Md_deps 0 (as.map some ++ List.replicate (3 - 3) none) [] M v N) : Met l y_Md_deps (Cond.code y_Md_deps b_Md_deps 3 (some .int) :: LW) { frames := 2, cells := mSz N - mSz M, slots := mSl N - mSl M, locals := 44 } (me_Pc (mG B Dd cA) as M) (me_Qc (mG B Dd cA) v N) (mSz N - mSz M) (mSl N - mSl M) (fun q => B ≤ q) := by
  refine me_met (X := X_Md_deps) (el := eL) (G := mG B Dd cA) (cc := b_Md_deps) (maxL := 3) (ws' := LW) (ret := (some .int)) (by decide +kernel) rfl rfl (Or.inr (Or.inl ⟨rfl, rfl⟩)) (by omega) rfl mG_CL mG_AT (le_Md_deps hrun) (fun args s hts hNw => ?_) (fun p e s m args below meth c Q S hK hNw pc as2 M2 r M1 h => ?_) (by rw [hlen]; exact hrun)
  · have ht : ∀ w ∈ LW, w.before args s = true := fun w hw => hts w (List.mem_cons_of_mem _ hw)
    refine ⟨?_, ?_, ?_, ?_, ?_, ?_, ?_, ?_, ?_⟩
    · intro idx ci k key ty h
      unfold X_Md_deps at h
      dsimp only [xF] at h
      split at h
      · cases h
        exact tf (r := (R_Md, F_Md, 30)) ht rfl (by decide) (by decide) rfl rfl cl_Md rfl (mT 600 (by decide +kernel) rfl) (fun _ h => h.elim)
      · cases h
    · exact tf_nil
    · exact fun _ _ _ _ _ _ (h : none = some _) => by cases h
    · exact tn_nil
    · exact ta_nil
    · exact fun (h : none = some _) => by cases h
    · exact fun (h : none = some _) => by cases h
    · exact fun _ _ (h : none = some _) => by cases h
    · exact fun h => absurd rfl h
  · unfold X_Md_deps at h
    dsimp only [xCall] at h
    split at h
    · obtain ⟨⟨b0, t0, rfl, hk0⟩, hn0, hr0⟩ := h
      exact me_crV S hK mG_NW hNw (snd_Md_named hn0 hr0) (le_Md_named hr0).1 (le_Md_named hr0).2 (cwV (C := R_Md) 2 S.2.2.2.2 (gV cI (mT 840 (by decide +kernel) rfl) (mT 837 (by decide +kernel) rfl) (mT 839 (by decide +kernel) rfl) (mS 55 (by decide +kernel) rfl) (mT 6 (by decide +kernel) rfl)) rfl rfl rfl (by decide +kernel) ⟨Nat.le_of_ble_eq_true rfl, Nat.le_of_ble_eq_true rfl⟩) (by simp only [List.length_cons] at hn0; omega) hk0 (by decide) (q0 := (R_Md, F_Md, 30)) rfl rfl d_Md_deps_3
    · exact h.elim
theorem le_Md_promised {ls : List (Option me_V)} {M N : me_M} {v : Option me_V} (h : RUN eL X_Md_promised 0 ls [] M v N) : mSz M ≤ mSz N ∧ mSl M ≤ mSl N := by
  refine RUN.le (fun pc as M r M1 h => ?_) h
  unfold X_Md_promised at h
  dsimp only [xCall] at h
  split at h
  · exact le_Md_known h.2.2
  · exact h.elim
theorem snd_Md_promised {l : Launch} {B : Nat} {Dd : va_G} {cA : Nat → ClassId} {as : List me_V} {M N : me_M} {v : Option me_V} (hlen : as.length = 3) (hrun : RUN eL X_Md_promised 0 (as.map some ++ List.replicate (3 - 3) none) [] M v N) : Met l y_Md_promised (Cond.code y_Md_promised b_Md_promised 3 (some .int) :: LW) { frames := 1, cells := mSz N - mSz M, slots := mSl N - mSl M, locals := 22 } (me_Pc (mG B Dd cA) as M) (me_Qc (mG B Dd cA) v N) (mSz N - mSz M) (mSl N - mSl M) (fun q => B ≤ q) := by
  refine me_met (X := X_Md_promised) (el := eL) (G := mG B Dd cA) (cc := b_Md_promised) (maxL := 3) (ws' := LW) (ret := (some .int)) (by decide +kernel) rfl rfl (Or.inr (Or.inl ⟨rfl, rfl⟩)) (by omega) rfl mG_CL mG_AT (le_Md_promised hrun) (fun args s hts hNw => ?_) (fun p e s m args below meth c Q S hK hNw pc as2 M2 r M1 h => ?_) (by rw [hlen]; exact hrun)
  · have ht : ∀ w ∈ LW, w.before args s = true := fun w hw => hts w (List.mem_cons_of_mem _ hw)
    refine ⟨?_, ?_, ?_, ?_, ?_, ?_, ?_, ?_, ?_⟩
    · intro idx ci k key ty h
      unfold X_Md_promised at h
      dsimp only [xF] at h
      split at h
      · cases h
        exact tf (r := (R_Md, F_Md, 30)) ht rfl (by decide) (by decide) rfl rfl cl_Md rfl (mT 601 (by decide +kernel) rfl) (fun _ h => h.elim)
      · cases h
    · exact tf_nil
    · exact fun _ _ _ _ _ _ (h : none = some _) => by cases h
    · exact tn_nil
    · exact ta_nil
    · exact fun (h : none = some _) => by cases h
    · exact fun (h : none = some _) => by cases h
    · exact fun _ _ (h : none = some _) => by cases h
    · exact fun h => absurd rfl h
  · unfold X_Md_promised at h
    dsimp only [xCall] at h
    split at h
    · obtain ⟨⟨b0, t0, rfl, hk0⟩, hn0, hr0⟩ := h
      exact me_crV S hK mG_NW hNw (snd_Md_known hn0 hr0) (le_Md_known hr0).1 (le_Md_known hr0).2 (cwV (C := R_Md) 2 S.2.2.2.2 (gV cI (mT 788 (by decide +kernel) rfl) (mT 785 (by decide +kernel) rfl) (mT 787 (by decide +kernel) rfl) (mS 49 (by decide +kernel) rfl) (mT 6 (by decide +kernel) rfl)) rfl rfl rfl (by decide +kernel) ⟨Nat.le_of_ble_eq_true rfl, Nat.le_of_ble_eq_true rfl⟩) (by simp only [List.length_cons] at hn0; omega) hk0 (by decide) (q0 := (R_Md, F_Md, 30)) rfl rfl d_Md_promised_3
    · exact h.elim
theorem le_Md_over {ls : List (Option me_V)} {M N : me_M} {v : Option me_V} (h : RUN eL X_Md_over 0 ls [] M v N) : mSz M ≤ mSz N ∧ mSl M ≤ mSl N := by
  refine RUN.le (fun pc as M r M1 h => ?_) h
  unfold X_Md_over at h
  dsimp only [xCall] at h
  split at h
  · exact le_Md_known h.2.2
  · exact h.elim
theorem snd_Md_over {l : Launch} {B : Nat} {Dd : va_G} {cA : Nat → ClassId} {as : List me_V} {M N : me_M} {v : Option me_V} (hlen : as.length = 3) (hrun : RUN eL X_Md_over 0 (as.map some ++ List.replicate (3 - 3) none) [] M v N) : Met l y_Md_over (Cond.code y_Md_over b_Md_over 3 (some .boolean) :: LW) { frames := 1, cells := mSz N - mSz M, slots := mSl N - mSl M, locals := 22 } (me_Pc (mG B Dd cA) as M) (me_Qc (mG B Dd cA) v N) (mSz N - mSz M) (mSl N - mSl M) (fun q => B ≤ q) := by
  refine me_met (X := X_Md_over) (el := eL) (G := mG B Dd cA) (cc := b_Md_over) (maxL := 3) (ws' := LW) (ret := (some .boolean)) (by decide +kernel) rfl rfl (Or.inr (Or.inr (Or.inl ⟨rfl, rfl⟩))) (by omega) rfl mG_CL mG_AT (le_Md_over hrun) (fun args s hts hNw => ?_) (fun p e s m args below meth c Q S hK hNw pc as2 M2 r M1 h => ?_) (by rw [hlen]; exact hrun)
  · have ht : ∀ w ∈ LW, w.before args s = true := fun w hw => hts w (List.mem_cons_of_mem _ hw)
    refine ⟨?_, ?_, ?_, ?_, ?_, ?_, ?_, ?_, ?_⟩
    · intro idx ci k key ty h
      unfold X_Md_over at h
      dsimp only [xF] at h
      split at h
      · cases h
        exact tf (r := (R_Md, F_Md, 30)) ht rfl (by decide) (by decide) rfl rfl cl_Md rfl (mT 596 (by decide +kernel) rfl) (fun _ h => h.elim)
      · cases h
    · exact tf_nil
    · exact fun _ _ _ _ _ _ (h : none = some _) => by cases h
    · exact tn_nil
    · exact ta_nil
    · exact fun (h : none = some _) => by cases h
    · exact fun (h : none = some _) => by cases h
    · exact fun _ _ (h : none = some _) => by cases h
    · exact fun h => absurd rfl h
  · unfold X_Md_over at h
    dsimp only [xCall] at h
    split at h
    · obtain ⟨⟨b0, t0, rfl, hk0⟩, hn0, hr0⟩ := h
      exact me_crV S hK mG_NW hNw (snd_Md_known hn0 hr0) (le_Md_known hr0).1 (le_Md_known hr0).2 (cwV (C := R_Md) 2 S.2.2.2.2 (gV cI (mT 788 (by decide +kernel) rfl) (mT 785 (by decide +kernel) rfl) (mT 787 (by decide +kernel) rfl) (mS 49 (by decide +kernel) rfl) (mT 6 (by decide +kernel) rfl)) rfl rfl rfl (by decide +kernel) ⟨Nat.le_of_ble_eq_true rfl, Nat.le_of_ble_eq_true rfl⟩) (by simp only [List.length_cons] at hn0; omega) hk0 (by decide) (q0 := (R_Md, F_Md, 30)) rfl rfl d_Md_over_3
    · exact h.elim
theorem le_Md_result {ls : List (Option me_V)} {M N : me_M} {v : Option me_V} (h : RUN eL X_Md_result 0 ls [] M v N) : mSz M ≤ mSz N ∧ mSl M ≤ mSl N := by
  refine RUN.le (fun pc as M r M1 h => ?_) h
  unfold X_Md_result at h
  dsimp only [xCall] at h
  split at h
  · exact le_Md_over h.2.2
  · exact h.elim
theorem snd_Md_result {l : Launch} {B : Nat} {Dd : va_G} {cA : Nat → ClassId} {as : List me_V} {M N : me_M} {v : Option me_V} (hlen : as.length = 3) (hrun : RUN eL X_Md_result 0 (as.map some ++ List.replicate (3 - 3) none) [] M v N) : Met l y_Md_result (Cond.code y_Md_result b_Md_result 3 (some .int) :: LW) { frames := 2, cells := mSz N - mSz M, slots := mSl N - mSl M, locals := 44 } (me_Pc (mG B Dd cA) as M) (me_Qc (mG B Dd cA) v N) (mSz N - mSz M) (mSl N - mSl M) (fun q => B ≤ q) := by
  refine me_met (X := X_Md_result) (el := eL) (G := mG B Dd cA) (cc := b_Md_result) (maxL := 3) (ws' := LW) (ret := (some .int)) (by decide +kernel) rfl rfl (Or.inr (Or.inl ⟨rfl, rfl⟩)) (by omega) rfl mG_CL mG_AT (le_Md_result hrun) (fun args s hts hNw => ?_) (fun p e s m args below meth c Q S hK hNw pc as2 M2 r M1 h => ?_) (by rw [hlen]; exact hrun)
  · have ht : ∀ w ∈ LW, w.before args s = true := fun w hw => hts w (List.mem_cons_of_mem _ hw)
    refine ⟨?_, ?_, ?_, ?_, ?_, ?_, ?_, ?_, ?_⟩
    · intro idx ci k key ty h
      unfold X_Md_result at h
      dsimp only [xF] at h
      split at h
      · cases h
        exact tf (r := (R_Md, F_Md, 30)) ht rfl (by decide) (by decide) rfl rfl cl_Md rfl (mT 604 (by decide +kernel) rfl) (fun _ h => h.elim)
      · cases h
    · exact tf_nil
    · exact fun _ _ _ _ _ _ (h : none = some _) => by cases h
    · exact tn_nil
    · exact ta_nil
    · exact fun (h : none = some _) => by cases h
    · exact fun (h : none = some _) => by cases h
    · exact fun _ _ (h : none = some _) => by cases h
    · exact fun h => absurd rfl h
  · unfold X_Md_result at h
    dsimp only [xCall] at h
    split at h
    · obtain ⟨⟨b0, t0, rfl, hk0⟩, hn0, hr0⟩ := h
      exact me_crV S hK mG_NW hNw (snd_Md_over hn0 hr0) (le_Md_over hr0).1 (le_Md_over hr0).2 (cwV (C := R_Md) 2 S.2.2.2.2 (gV cI (mT 860 (by decide +kernel) rfl) (mT 857 (by decide +kernel) rfl) (mT 859 (by decide +kernel) rfl) (mS 56 (by decide +kernel) rfl) (mT 6 (by decide +kernel) rfl)) rfl rfl rfl (by decide +kernel) ⟨Nat.le_of_ble_eq_true rfl, Nat.le_of_ble_eq_true rfl⟩) (by simp only [List.length_cons] at hn0; omega) hk0 (by decide) (q0 := (R_Md, F_Md, 30)) rfl rfl d_Md_result_3
    · exact h.elim
theorem le_Md_place {ls : List (Option me_V)} {M N : me_M} {v : Option me_V} (h : RUN eL X_Md_place 0 ls [] M v N) : mSz M ≤ mSz N ∧ mSl M ≤ mSl N := by
  refine RUN.le (fun pc as M r M1 h => ?_) h
  unfold X_Md_place at h
  dsimp only [xCall] at h
  split at h
  · exact le_Md_over h.2.2
  · exact h.elim
theorem snd_Md_place {l : Launch} {B : Nat} {Dd : va_G} {cA : Nat → ClassId} {as : List me_V} {M N : me_M} {v : Option me_V} (hlen : as.length = 3) (hrun : RUN eL X_Md_place 0 (as.map some ++ List.replicate (3 - 3) none) [] M v N) : Met l y_Md_place (Cond.code y_Md_place b_Md_place 3 (some .int) :: LW) { frames := 2, cells := mSz N - mSz M, slots := mSl N - mSl M, locals := 44 } (me_Pc (mG B Dd cA) as M) (me_Qc (mG B Dd cA) v N) (mSz N - mSz M) (mSl N - mSl M) (fun q => B ≤ q) := by
  refine me_met (X := X_Md_place) (el := eL) (G := mG B Dd cA) (cc := b_Md_place) (maxL := 3) (ws' := LW) (ret := (some .int)) (by decide +kernel) rfl rfl (Or.inr (Or.inl ⟨rfl, rfl⟩)) (by omega) rfl mG_CL mG_AT (le_Md_place hrun) (fun args s hts hNw => ?_) (fun p e s m args below meth c Q S hK hNw pc as2 M2 r M1 h => ?_) (by rw [hlen]; exact hrun)
  · have ht : ∀ w ∈ LW, w.before args s = true := fun w hw => hts w (List.mem_cons_of_mem _ hw)
    refine ⟨?_, ?_, ?_, ?_, ?_, ?_, ?_, ?_, ?_⟩
    · intro idx ci k key ty h
      unfold X_Md_place at h
      dsimp only [xF] at h
      split at h
      · cases h
        exact tf (r := (R_Md, F_Md, 30)) ht rfl (by decide) (by decide) rfl rfl cl_Md rfl (mT 603 (by decide +kernel) rfl) (fun _ h => h.elim)
      · cases h
    · exact tf_nil
    · exact fun _ _ _ _ _ _ (h : none = some _) => by cases h
    · exact tn_nil
    · exact ta_nil
    · exact fun (h : none = some _) => by cases h
    · exact fun (h : none = some _) => by cases h
    · exact fun _ _ (h : none = some _) => by cases h
    · exact fun h => absurd rfl h
  · unfold X_Md_place at h
    dsimp only [xCall] at h
    split at h
    · obtain ⟨⟨b0, t0, rfl, hk0⟩, hn0, hr0⟩ := h
      exact me_crV S hK mG_NW hNw (snd_Md_over hn0 hr0) (le_Md_over hr0).1 (le_Md_over hr0).2 (cwV (C := R_Md) 2 S.2.2.2.2 (gV cI (mT 860 (by decide +kernel) rfl) (mT 857 (by decide +kernel) rfl) (mT 859 (by decide +kernel) rfl) (mS 56 (by decide +kernel) rfl) (mT 6 (by decide +kernel) rfl)) rfl rfl rfl (by decide +kernel) ⟨Nat.le_of_ble_eq_true rfl, Nat.le_of_ble_eq_true rfl⟩) (by simp only [List.length_cons] at hn0; omega) hk0 (by decide) (q0 := (R_Md, F_Md, 30)) rfl rfl d_Md_place_3
    · exact h.elim
theorem le_Md_value {ls : List (Option me_V)} {M N : me_M} {v : Option me_V} (h : RUN eL X_Md_value 0 ls [] M v N) : mSz M ≤ mSz N ∧ mSl M ≤ mSl N := by
  refine RUN.le (fun pc as M r M1 h => ?_) h
  exact False.elim h
theorem snd_Md_value {l : Launch} {B : Nat} {Dd : va_G} {cA : Nat → ClassId} {as : List me_V} {M N : me_M} {v : Option me_V} (hlen : as.length = 3) (hrun : RUN eL X_Md_value 0 (as.map some ++ List.replicate (3 - 3) none) [] M v N) : Met l y_Md_value (Cond.code y_Md_value b_Md_value 3 (some .int) :: LW) { frames := 0, cells := mSz N - mSz M, slots := mSl N - mSl M, locals := 0 } (me_Pc (mG B Dd cA) as M) (me_Qc (mG B Dd cA) v N) (mSz N - mSz M) (mSl N - mSl M) (fun q => B ≤ q) := by
  refine me_met (X := X_Md_value) (el := eL) (G := mG B Dd cA) (cc := b_Md_value) (maxL := 3) (ws' := LW) (ret := (some .int)) (by decide +kernel) rfl rfl (Or.inr (Or.inl ⟨rfl, rfl⟩)) (by omega) rfl mG_CL mG_AT (le_Md_value hrun) (fun args s hts hNw => ?_) (fun p e s m args below meth c Q S hK hNw pc as2 M2 r M1 h => ?_) (by rw [hlen]; exact hrun)
  · have ht : ∀ w ∈ LW, w.before args s = true := fun w hw => hts w (List.mem_cons_of_mem _ hw)
    refine ⟨?_, ?_, ?_, ?_, ?_, ?_, ?_, ?_, ?_⟩
    · intro idx ci k key ty h
      unfold X_Md_value at h
      dsimp only [xF] at h
      split at h
      · cases h
        exact tf (r := (R_Md, F_Md, 30)) ht rfl (by decide) (by decide) rfl rfl cl_Md rfl (mT 594 (by decide +kernel) rfl) (fun _ h => h.elim)
      · cases h
        exact tf (r := (R_Md, F_Md, 30)) ht rfl (by decide) (by decide) rfl rfl cl_Md rfl (mT 590 (by decide +kernel) rfl) (fun _ h => h.elim)
      · cases h
    · exact tf_nil
    · exact fun _ _ _ _ _ _ (h : none = some _) => by cases h
    · exact tn_nil
    · exact ta_nil
    · exact fun (h : none = some _) => by cases h
    · exact fun (h : none = some _) => by cases h
    · exact fun _ _ (h : none = some _) => by cases h
    · exact fun h => absurd rfl h
  · exact False.elim h
