theorem le_Md_accept {ls : List (Option me_V)} {M N : me_M} {v : Option me_V} (h : RUN eL X_Md_accept 0 ls [] M v N) : mSz M ≤ mSz N ∧ mSl M ≤ mSl N := by
  refine RUN.le (fun pc as M r M1 h => ?_) h
  unfold X_Md_accept at h
  dsimp only [xCall] at h
  split at h
  · exact le_Md_put h.2.2
  · exact le_Md_send h.2.2
  · exact h.elim
theorem snd_Md_accept {l : Launch} {B : Nat} {Dd : va_G} {cA : Nat → ClassId} {as : List me_V} {M N : me_M} {v : Option me_V} (hlen : as.length = 4) (hrun : RUN eL X_Md_accept 0 (as.map some ++ List.replicate (6 - 4) none) [] M v N) : Met l y_Md_accept (Cond.code y_Md_accept b_Md_accept 6 none :: LW) { frames := 1, cells := mSz N - mSz M, slots := mSl N - mSl M, locals := 27 } (me_Pc (mG B Dd cA) as M) (me_Qc (mG B Dd cA) v N) (mSz N - mSz M) (mSl N - mSl M) (fun q => B ≤ q) := by
  refine me_met (X := X_Md_accept) (el := eL) (G := mG B Dd cA) (cc := b_Md_accept) (maxL := 6) (ws' := LW) (ret := none) (by decide +kernel) rfl rfl (Or.inl ⟨rfl, rfl⟩) (by omega) rfl mG_CL mG_AT (le_Md_accept hrun) (fun args s hts hNw => ?_) (fun p e s m args below meth c Q S hK hNw pc as2 M2 r M1 h => ?_) (by rw [hlen]; exact hrun)
  · have ht : ∀ w ∈ LW, w.before args s = true := fun w hw => hts w (List.mem_cons_of_mem _ hw)
    refine ⟨?_, ?_, ?_, ?_, ?_, ?_, ?_, ?_, ?_⟩
    · intro idx ci k key ty h
      unfold X_Md_accept at h
      dsimp only [xF] at h
      split at h
      · cases h
        exact tf (r := (R_Md, F_Md, 30)) ht rfl (by decide) (by decide) rfl rfl cl_Md rfl (mT 599 (by decide +kernel) rfl) (fun _ h => h.elim)
      · cases h
        exact tf (r := (R_Md, F_Md, 30)) ht rfl (by decide) (by decide) rfl rfl cl_Md rfl (mT 600 (by decide +kernel) rfl) (fun _ h => h.elim)
      · cases h
        exact tf (r := (R_Md, F_Md, 30)) ht rfl (by decide) (by decide) rfl rfl cl_Md rfl (mT 601 (by decide +kernel) rfl) (fun _ h => h.elim)
      · cases h
        exact tf (r := (R_Md, F_Md, 30)) ht rfl (by decide) (by decide) rfl rfl cl_Md rfl (mT 602 (by decide +kernel) rfl) (fun _ h => h.elim)
      · cases h
        exact tf (r := (R_Md, F_Md, 30)) ht rfl (by decide) (by decide) rfl rfl cl_Md rfl (mT 618 (by decide +kernel) rfl) (fun _ h => h.elim)
      · cases h
    · exact tf_nil
    · exact fun _ _ _ _ _ _ (h : none = some _) => by cases h
    · exact tn_nil
    · exact ta_nil
    · exact fun (h : none = some _) => by cases h
    · exact fun (h : none = some _) => by cases h
    · exact fun _ _ (h : none = some _) => by cases h
    · exact fun h => absurd rfl h
  · unfold X_Md_accept at h
    dsimp only [xCall] at h
    split at h
    · obtain ⟨⟨b0, t0, rfl, hk0⟩, hn0, hr0⟩ := h
      exact me_crV S hK mG_NW hNw (snd_Md_put hn0 hr0) (le_Md_put hr0).1 (le_Md_put hr0).2 (cwV (C := R_Md) 4 S.2.2.2.2 (gV cI (mT 720 (by decide +kernel) rfl) (mT 717 (by decide +kernel) rfl) (mT 719 (by decide +kernel) rfl) (mS 34 (by decide +kernel) rfl) (mT 6 (by decide +kernel) rfl)) rfl rfl rfl (by decide +kernel) ⟨Nat.le_of_ble_eq_true rfl, Nat.le_of_ble_eq_true rfl⟩) (by simp only [List.length_cons] at hn0; omega) hk0 (by decide) (q0 := (R_Md, F_Md, 30)) rfl rfl d_Md_accept_69
    · obtain ⟨⟨b0, t0, rfl, hk0⟩, hn0, hr0⟩ := h
      exact me_crV S hK mG_NW hNw (snd_Md_send hn0 hr0) (le_Md_send hr0).1 (le_Md_send hr0).2 (cwV (C := R_Md) 5 S.2.2.2.2 (gV cI (mT 701 (by decide +kernel) rfl) (mT 698 (by decide +kernel) rfl) (mT 700 (by decide +kernel) rfl) (mS 30 (by decide +kernel) rfl) (mT 6 (by decide +kernel) rfl)) rfl rfl rfl (by decide +kernel) ⟨Nat.le_of_ble_eq_true rfl, Nat.le_of_ble_eq_true rfl⟩) (by simp only [List.length_cons] at hn0; omega) hk0 (by decide) (q0 := (R_Md, F_Md, 30)) rfl rfl d_Md_accept_109
    · exact h.elim
theorem le_Md_asked {ls : List (Option me_V)} {M N : me_M} {v : Option me_V} (h : RUN eL X_Md_asked 0 ls [] M v N) : mSz M ≤ mSz N ∧ mSl M ≤ mSl N := by
  refine RUN.le (fun pc as M r M1 h => ?_) h
  unfold X_Md_asked at h
  dsimp only [xCall] at h
  split at h
  · exact le_Md_send h.2.2
  · exact h.elim
theorem snd_Md_asked {l : Launch} {B : Nat} {Dd : va_G} {cA : Nat → ClassId} {as : List me_V} {M N : me_M} {v : Option me_V} (hlen : as.length = 4) (hrun : RUN eL X_Md_asked 0 (as.map some ++ List.replicate (6 - 4) none) [] M v N) : Met l y_Md_asked (Cond.code y_Md_asked b_Md_asked 6 none :: LW) { frames := 1, cells := mSz N - mSz M, slots := mSl N - mSl M, locals := 27 } (me_Pc (mG B Dd cA) as M) (me_Qc (mG B Dd cA) v N) (mSz N - mSz M) (mSl N - mSl M) (fun q => B ≤ q) := by
  refine me_met (X := X_Md_asked) (el := eL) (G := mG B Dd cA) (cc := b_Md_asked) (maxL := 6) (ws' := LW) (ret := none) (by decide +kernel) rfl rfl (Or.inl ⟨rfl, rfl⟩) (by omega) rfl mG_CL mG_AT (le_Md_asked hrun) (fun args s hts hNw => ?_) (fun p e s m args below meth c Q S hK hNw pc as2 M2 r M1 h => ?_) (by rw [hlen]; exact hrun)
  · have ht : ∀ w ∈ LW, w.before args s = true := fun w hw => hts w (List.mem_cons_of_mem _ hw)
    refine ⟨?_, ?_, ?_, ?_, ?_, ?_, ?_, ?_, ?_⟩
    · intro idx ci k key ty h
      unfold X_Md_asked at h
      dsimp only [xF] at h
      split at h
      · cases h
        exact tf (r := (R_Md, F_Md, 30)) ht rfl (by decide) (by decide) rfl rfl cl_Md rfl (mT 601 (by decide +kernel) rfl) (fun _ h => h.elim)
      · cases h
        exact tf (r := (R_Md, F_Md, 30)) ht rfl (by decide) (by decide) rfl rfl cl_Md rfl (mT 618 (by decide +kernel) rfl) (fun _ h => h.elim)
      · cases h
    · exact tf_nil
    · exact fun _ _ _ _ _ _ (h : none = some _) => by cases h
    · exact tn_nil
    · exact ta_nil
    · exact fun (h : none = some _) => by cases h
    · exact fun (h : none = some _) => by cases h
    · exact fun _ _ (h : none = some _) => by cases h
    · exact fun h => absurd rfl h
  · unfold X_Md_asked at h
    dsimp only [xCall] at h
    split at h
    · obtain ⟨⟨b0, t0, rfl, hk0⟩, hn0, hr0⟩ := h
      exact me_crV S hK mG_NW hNw (snd_Md_send hn0 hr0) (le_Md_send hr0).1 (le_Md_send hr0).2 (cwV (C := R_Md) 5 S.2.2.2.2 (gV cI (mT 701 (by decide +kernel) rfl) (mT 698 (by decide +kernel) rfl) (mT 700 (by decide +kernel) rfl) (mS 30 (by decide +kernel) rfl) (mT 6 (by decide +kernel) rfl)) rfl rfl rfl (by decide +kernel) ⟨Nat.le_of_ble_eq_true rfl, Nat.le_of_ble_eq_true rfl⟩) (by simp only [List.length_cons] at hn0; omega) hk0 (by decide) (q0 := (R_Md, F_Md, 30)) rfl rfl d_Md_asked_48
    · exact h.elim
theorem le_Md_settle {ls : List (Option me_V)} {M N : me_M} {v : Option me_V} (h : RUN eL X_Md_settle 0 ls [] M v N) : mSz M ≤ mSz N ∧ mSl M ≤ mSl N := by
  refine RUN.le (fun pc as M r M1 h => ?_) h
  unfold X_Md_settle at h
  dsimp only [xCall] at h
  split at h
  · exact le_Md_put h.2.2
  · exact h.elim
theorem snd_Md_settle {l : Launch} {B : Nat} {Dd : va_G} {cA : Nat → ClassId} {as : List me_V} {M N : me_M} {v : Option me_V} (hlen : as.length = 2) (hrun : RUN eL X_Md_settle 0 (as.map some ++ List.replicate (2 - 2) none) [] M v N) : Met l y_Md_settle (Cond.code y_Md_settle b_Md_settle 2 none :: LW) { frames := 1, cells := mSz N - mSz M, slots := mSl N - mSl M, locals := 24 } (me_Pc (mG B Dd cA) as M) (me_Qc (mG B Dd cA) v N) (mSz N - mSz M) (mSl N - mSl M) (fun q => B ≤ q) := by
  refine me_met (X := X_Md_settle) (el := eL) (G := mG B Dd cA) (cc := b_Md_settle) (maxL := 2) (ws' := LW) (ret := none) (by decide +kernel) rfl rfl (Or.inl ⟨rfl, rfl⟩) (by omega) rfl mG_CL mG_AT (le_Md_settle hrun) (fun args s hts hNw => ?_) (fun p e s m args below meth c Q S hK hNw pc as2 M2 r M1 h => ?_) (by rw [hlen]; exact hrun)
  · have ht : ∀ w ∈ LW, w.before args s = true := fun w hw => hts w (List.mem_cons_of_mem _ hw)
    refine ⟨?_, ?_, ?_, ?_, ?_, ?_, ?_, ?_, ?_⟩
    · intro idx ci k key ty h
      unfold X_Md_settle at h
      dsimp only [xF] at h
      split at h
      · cases h
        exact tf (r := (R_Md, F_Md, 30)) ht rfl (by decide) (by decide) rfl rfl cl_Md rfl (mT 599 (by decide +kernel) rfl) (fun _ h => h.elim)
      · cases h
        exact tf (r := (R_Md, F_Md, 30)) ht rfl (by decide) (by decide) rfl rfl cl_Md rfl (mT 600 (by decide +kernel) rfl) (fun _ h => h.elim)
      · cases h
        exact tf (r := (R_Md, F_Md, 30)) ht rfl (by decide) (by decide) rfl rfl cl_Md rfl (mT 618 (by decide +kernel) rfl) (fun _ h => h.elim)
      · cases h
    · exact tf_nil
    · exact fun _ _ _ _ _ _ (h : none = some _) => by cases h
    · exact tn_nil
    · exact ta_nil
    · exact fun (h : none = some _) => by cases h
    · exact fun (h : none = some _) => by cases h
    · exact fun _ _ (h : none = some _) => by cases h
    · exact fun h => absurd rfl h
  · unfold X_Md_settle at h
    dsimp only [xCall] at h
    split at h
    · obtain ⟨⟨b0, t0, rfl, hk0⟩, hn0, hr0⟩ := h
      exact me_crV S hK mG_NW hNw (snd_Md_put hn0 hr0) (le_Md_put hr0).1 (le_Md_put hr0).2 (cwV (C := R_Md) 4 S.2.2.2.2 (gV cI (mT 720 (by decide +kernel) rfl) (mT 717 (by decide +kernel) rfl) (mT 719 (by decide +kernel) rfl) (mS 34 (by decide +kernel) rfl) (mT 6 (by decide +kernel) rfl)) rfl rfl rfl (by decide +kernel) ⟨Nat.le_of_ble_eq_true rfl, Nat.le_of_ble_eq_true rfl⟩) (by simp only [List.length_cons] at hn0; omega) hk0 (by decide) (q0 := (R_Md, F_Md, 30)) rfl rfl d_Md_settle_19
    · exact h.elim
theorem le_Md_counts {ls : List (Option me_V)} {M N : me_M} {v : Option me_V} (h : RUN eL X_Md_counts 0 ls [] M v N) : mSz M ≤ mSz N ∧ mSl M ≤ mSl N := by
  refine RUN.le (fun pc as M r M1 h => ?_) h
  exact False.elim h
theorem snd_Md_counts {l : Launch} {B : Nat} {Dd : va_G} {cA : Nat → ClassId} {as : List me_V} {M N : me_M} {v : Option me_V} (hlen : as.length = 3) (hrun : RUN eL X_Md_counts 0 (as.map some ++ List.replicate (7 - 3) none) [] M v N) : Met l y_Md_counts (Cond.code y_Md_counts b_Md_counts 7 (some .boolean) :: LW) { frames := 0, cells := mSz N - mSz M, slots := mSl N - mSl M, locals := 0 } (me_Pc (mG B Dd cA) as M) (me_Qc (mG B Dd cA) v N) (mSz N - mSz M) (mSl N - mSl M) (fun q => B ≤ q) := by
  refine me_met (X := X_Md_counts) (el := eL) (G := mG B Dd cA) (cc := b_Md_counts) (maxL := 7) (ws' := LW) (ret := (some .boolean)) (by decide +kernel) rfl rfl (Or.inr (Or.inr (Or.inl ⟨rfl, rfl⟩))) (by omega) rfl mG_CL mG_AT (le_Md_counts hrun) (fun args s hts hNw => ?_) (fun p e s m args below meth c Q S hK hNw pc as2 M2 r M1 h => ?_) (by rw [hlen]; exact hrun)
  · have ht : ∀ w ∈ LW, w.before args s = true := fun w hw => hts w (List.mem_cons_of_mem _ hw)
    refine ⟨?_, ?_, ?_, ?_, ?_, ?_, ?_, ?_, ?_⟩
    · intro idx ci k key ty h
      unfold X_Md_counts at h
      dsimp only [xF] at h
      split at h
      · cases h
        exact tf (r := (R_Md, F_Md, 30)) ht rfl (by decide) (by decide) rfl rfl cl_Md rfl (mT 596 (by decide +kernel) rfl) (fun _ h => h.elim)
      · cases h
        exact tf (r := (R_Md, F_Md, 30)) ht rfl (by decide) (by decide) rfl rfl cl_Md rfl (mT 601 (by decide +kernel) rfl) (fun _ h => h.elim)
      · cases h
        exact tf (r := (R_Md, F_Md, 30)) ht rfl (by decide) (by decide) rfl rfl cl_Md rfl (mT 605 (by decide +kernel) rfl) (fun _ h => h.elim)
      · cases h
        exact tf (r := (R_Md, F_Md, 30)) ht rfl (by decide) (by decide) rfl rfl cl_Md rfl (mT 606 (by decide +kernel) rfl) (fun _ h => h.elim)
      · cases h
        exact tf (r := (R_Md, F_Md, 30)) ht rfl (by decide) (by decide) rfl rfl cl_Md rfl (mT 607 (by decide +kernel) rfl) (fun _ h => h.elim)
      · cases h
        exact tf (r := (R_Md, F_Md, 30)) ht rfl (by decide) (by decide) rfl rfl cl_Md rfl (mT 608 (by decide +kernel) rfl) (fun _ h => h.elim)
      · cases h
        exact tf (r := (R_Md, F_Md, 30)) ht rfl (by decide) (by decide) rfl rfl cl_Md rfl (mT 609 (by decide +kernel) rfl) (fun _ h => h.elim)
      · cases h
        exact tf (r := (R_Md, F_Md, 30)) ht rfl (by decide) (by decide) rfl rfl cl_Md rfl (mT 610 (by decide +kernel) rfl) (fun _ h => h.elim)
      · cases h
        exact tf (r := (R_Md, F_Md, 30)) ht rfl (by decide) (by decide) rfl rfl cl_Md rfl (mT 611 (by decide +kernel) rfl) (fun _ h => h.elim)
      · cases h
        exact tf (r := (R_Md, F_Md, 30)) ht rfl (by decide) (by decide) rfl rfl cl_Md rfl (mT 612 (by decide +kernel) rfl) (fun _ h => h.elim)
      · cases h
        exact tf (r := (R_Md, F_Md, 30)) ht rfl (by decide) (by decide) rfl rfl cl_Md rfl (mT 613 (by decide +kernel) rfl) (fun _ h => h.elim)
      · cases h
        exact tf (r := (R_Md, F_Md, 30)) ht rfl (by decide) (by decide) rfl rfl cl_Md rfl (mT 614 (by decide +kernel) rfl) (fun _ h => h.elim)
      · cases h
        exact tf (r := (R_Md, F_Md, 30)) ht rfl (by decide) (by decide) rfl rfl cl_Md rfl (mT 615 (by decide +kernel) rfl) (fun _ h => h.elim)
      · cases h
        exact tf (r := (R_Md, F_Md, 30)) ht rfl (by decide) (by decide) rfl rfl cl_Md rfl (mT 618 (by decide +kernel) rfl) (fun _ h => h.elim)
      · cases h
    · exact tf_nil
    · exact fun _ _ _ _ _ _ (h : none = some _) => by cases h
    · exact tn_nil
    · exact ta_nil
    · exact fun (h : none = some _) => by cases h
    · exact fun (h : none = some _) => by cases h
    · exact fun _ _ (h : none = some _) => by cases h
    · exact fun h => absurd rfl h
  · exact False.elim h
theorem le_Md_finish {ls : List (Option me_V)} {M N : me_M} {v : Option me_V} (h : RUN eL X_Md_finish 0 ls [] M v N) : mSz M ≤ mSz N ∧ mSl M ≤ mSl N := by
  refine RUN.le (fun pc as M r M1 h => ?_) h
  unfold X_Md_finish at h
  dsimp only [xCall] at h
  split at h
  · exact le_Md_sendAll h.2.2
  · exact h.elim
theorem snd_Md_finish {l : Launch} {B : Nat} {Dd : va_G} {cA : Nat → ClassId} {as : List me_V} {M N : me_M} {v : Option me_V} (hlen : as.length = 5) (hrun : RUN eL X_Md_finish 0 (as.map some ++ List.replicate (6 - 5) none) [] M v N) : Met l y_Md_finish (Cond.code y_Md_finish b_Md_finish 6 none :: LW) { frames := 2, cells := mSz N - mSz M, slots := mSl N - mSl M, locals := 52 } (me_Pc (mG B Dd cA) as M) (me_Qc (mG B Dd cA) v N) (mSz N - mSz M) (mSl N - mSl M) (fun q => B ≤ q) := by
  refine me_met (X := X_Md_finish) (el := eL) (G := mG B Dd cA) (cc := b_Md_finish) (maxL := 6) (ws' := LW) (ret := none) (by decide +kernel) rfl rfl (Or.inl ⟨rfl, rfl⟩) (by omega) rfl mG_CL mG_AT (le_Md_finish hrun) (fun args s hts hNw => ?_) (fun p e s m args below meth c Q S hK hNw pc as2 M2 r M1 h => ?_) (by rw [hlen]; exact hrun)
  · have ht : ∀ w ∈ LW, w.before args s = true := fun w hw => hts w (List.mem_cons_of_mem _ hw)
    refine ⟨?_, ?_, ?_, ?_, ?_, ?_, ?_, ?_, ?_⟩
    · intro idx ci k key ty h
      unfold X_Md_finish at h
      dsimp only [xF] at h
      split at h
      · cases h
        exact tf (r := (R_Md, F_Md, 30)) ht rfl (by decide) (by decide) rfl rfl cl_Md rfl (mT 596 (by decide +kernel) rfl) (fun _ h => h.elim)
      · cases h
        exact tf (r := (R_Md, F_Md, 30)) ht rfl (by decide) (by decide) rfl rfl cl_Md rfl (mT 599 (by decide +kernel) rfl) (fun _ h => h.elim)
      · cases h
        exact tf (r := (R_Md, F_Md, 30)) ht rfl (by decide) (by decide) rfl rfl cl_Md rfl (mT 600 (by decide +kernel) rfl) (fun _ h => h.elim)
      · cases h
    · exact tf_nil
    · exact fun _ _ _ _ _ _ (h : none = some _) => by cases h
    · exact tn_nil
    · exact ta_nil
    · exact fun (h : none = some _) => by cases h
    · exact fun (h : none = some _) => by cases h
    · exact fun _ _ (h : none = some _) => by cases h
    · exact fun h => absurd rfl h
  · unfold X_Md_finish at h
    dsimp only [xCall] at h
    split at h
    · obtain ⟨⟨b0, t0, rfl, hk0⟩, hn0, hr0⟩ := h
      exact me_crV S hK mG_NW hNw (snd_Md_sendAll hn0 hr0) (le_Md_sendAll hr0).1 (le_Md_sendAll hr0).2 (cwV (C := R_Md) 4 S.2.2.2.2 (gV cI (mT 748 (by decide +kernel) rfl) (mT 745 (by decide +kernel) rfl) (mT 747 (by decide +kernel) rfl) (mS 41 (by decide +kernel) rfl) (mT 6 (by decide +kernel) rfl)) rfl rfl rfl (by decide +kernel) ⟨Nat.le_of_ble_eq_true rfl, Nat.le_of_ble_eq_true rfl⟩) (by simp only [List.length_cons] at hn0; omega) hk0 (by decide) (q0 := (R_Md, F_Md, 30)) rfl rfl d_Md_finish_38
    · exact h.elim
theorem le_Md_start {ls : List (Option me_V)} {M N : me_M} {v : Option me_V} (h : RUN eL X_Md_start 0 ls [] M v N) : mSz M ≤ mSz N ∧ mSl M ≤ mSl N := by
  refine RUN.le (fun pc as M r M1 h => ?_) h
  exact False.elim h
theorem snd_Md_start {l : Launch} {B : Nat} {Dd : va_G} {cA : Nat → ClassId} {as : List me_V} {M N : me_M} {v : Option me_V} (hlen : as.length = 4) (hrun : RUN eL X_Md_start 0 (as.map some ++ List.replicate (4 - 4) none) [] M v N) : Met l y_Md_start (Cond.code y_Md_start b_Md_start 4 none :: LW) { frames := 0, cells := mSz N - mSz M, slots := mSl N - mSl M, locals := 0 } (me_Pc (mG B Dd cA) as M) (me_Qc (mG B Dd cA) v N) (mSz N - mSz M) (mSl N - mSl M) (fun q => B ≤ q) := by
  refine me_met (X := X_Md_start) (el := eL) (G := mG B Dd cA) (cc := b_Md_start) (maxL := 4) (ws' := LW) (ret := none) (by decide +kernel) rfl rfl (Or.inl ⟨rfl, rfl⟩) (by omega) rfl mG_CL mG_AT (le_Md_start hrun) (fun args s hts hNw => ?_) (fun p e s m args below meth c Q S hK hNw pc as2 M2 r M1 h => ?_) (by rw [hlen]; exact hrun)
  · have ht : ∀ w ∈ LW, w.before args s = true := fun w hw => hts w (List.mem_cons_of_mem _ hw)
    refine ⟨?_, ?_, ?_, ?_, ?_, ?_, ?_, ?_, ?_⟩
    · intro idx ci k key ty h
      unfold X_Md_start at h
      dsimp only [xF] at h
      split at h
      · cases h
        exact tf (r := (R_Md, F_Md, 30)) ht rfl (by decide) (by decide) rfl rfl cl_Md rfl (mT 605 (by decide +kernel) rfl) (fun _ h => h.elim)
      · cases h
        exact tf (r := (R_Md, F_Md, 30)) ht rfl (by decide) (by decide) rfl rfl cl_Md rfl (mT 606 (by decide +kernel) rfl) (fun _ h => h.elim)
      · cases h
        exact tf (r := (R_Md, F_Md, 30)) ht rfl (by decide) (by decide) rfl rfl cl_Md rfl (mT 607 (by decide +kernel) rfl) (fun _ h => h.elim)
      · cases h
        exact tf (r := (R_Md, F_Md, 30)) ht rfl (by decide) (by decide) rfl rfl cl_Md rfl (mT 608 (by decide +kernel) rfl) (fun _ h => h.elim)
      · cases h
    · exact tf_nil
    · exact fun _ _ _ _ _ _ (h : none = some _) => by cases h
    · exact tn_nil
    · exact ta_nil
    · exact fun (h : none = some _) => by cases h
    · exact fun (h : none = some _) => by cases h
    · exact fun _ _ (h : none = some _) => by cases h
    · exact fun h => absurd rfl h
  · exact False.elim h
theorem le_Md_agree {ls : List (Option me_V)} {M N : me_M} {v : Option me_V} (h : RUN eL X_Md_agree 0 ls [] M v N) : mSz M ≤ mSz N ∧ mSl M ≤ mSl N := by
  refine RUN.le (fun pc as M r M1 h => ?_) h
  unfold X_Md_agree at h
  dsimp only [xCall] at h
  split at h
  · exact le_Md_put h.2.2
  · exact le_Md_start h.2.2
  · exact le_Md_sendAll h.2.2
  · exact h.elim
theorem snd_Md_agree {l : Launch} {B : Nat} {Dd : va_G} {cA : Nat → ClassId} {as : List me_V} {M N : me_M} {v : Option me_V} (hlen : as.length = 7) (hrun : RUN eL X_Md_agree 0 (as.map some ++ List.replicate (8 - 7) none) [] M v N) : Met l y_Md_agree (Cond.code y_Md_agree b_Md_agree 8 none :: LW) { frames := 2, cells := mSz N - mSz M, slots := mSl N - mSl M, locals := 52 } (me_Pc (mG B Dd cA) as M) (me_Qc (mG B Dd cA) v N) (mSz N - mSz M) (mSl N - mSl M) (fun q => B ≤ q) := by
  refine me_met (X := X_Md_agree) (el := eL) (G := mG B Dd cA) (cc := b_Md_agree) (maxL := 8) (ws' := LW) (ret := none) (by decide +kernel) rfl rfl (Or.inl ⟨rfl, rfl⟩) (by omega) rfl mG_CL mG_AT (le_Md_agree hrun) (fun args s hts hNw => ?_) (fun p e s m args below meth c Q S hK hNw pc as2 M2 r M1 h => ?_) (by rw [hlen]; exact hrun)
  · have ht : ∀ w ∈ LW, w.before args s = true := fun w hw => hts w (List.mem_cons_of_mem _ hw)
    refine ⟨?_, ?_, ?_, ?_, ?_, ?_, ?_, ?_, ?_⟩
    · intro idx ci k key ty h
      unfold X_Md_agree at h
      dsimp only [xF] at h
      split at h
      · cases h
        exact tf (r := (R_Md, F_Md, 30)) ht rfl (by decide) (by decide) rfl rfl cl_Md rfl (mT 599 (by decide +kernel) rfl) (fun _ h => h.elim)
      · cases h
        exact tf (r := (R_Md, F_Md, 30)) ht rfl (by decide) (by decide) rfl rfl cl_Md rfl (mT 600 (by decide +kernel) rfl) (fun _ h => h.elim)
      · cases h
        exact tf (r := (R_Md, F_Md, 30)) ht rfl (by decide) (by decide) rfl rfl cl_Md rfl (mT 602 (by decide +kernel) rfl) (fun _ h => h.elim)
      · cases h
        exact tf (r := (R_Md, F_Md, 30)) ht rfl (by decide) (by decide) rfl rfl cl_Md rfl (mT 607 (by decide +kernel) rfl) (fun _ h => h.elim)
      · cases h
    · exact tf_nil
    · exact fun _ _ _ _ _ _ (h : none = some _) => by cases h
    · exact tn_nil
    · exact ta_nil
    · exact fun (h : none = some _) => by cases h
    · exact fun (h : none = some _) => by cases h
    · exact fun _ _ (h : none = some _) => by cases h
    · exact fun h => absurd rfl h
  · unfold X_Md_agree at h
    dsimp only [xCall] at h
    split at h
    · obtain ⟨⟨b0, t0, rfl, hk0⟩, hn0, hr0⟩ := h
      exact me_crV S hK mG_NW hNw (snd_Md_put hn0 hr0) (le_Md_put hr0).1 (le_Md_put hr0).2 (cwV (C := R_Md) 4 S.2.2.2.2 (gV cI (mT 720 (by decide +kernel) rfl) (mT 717 (by decide +kernel) rfl) (mT 719 (by decide +kernel) rfl) (mS 34 (by decide +kernel) rfl) (mT 6 (by decide +kernel) rfl)) rfl rfl rfl (by decide +kernel) ⟨Nat.le_of_ble_eq_true rfl, Nat.le_of_ble_eq_true rfl⟩) (by simp only [List.length_cons] at hn0; omega) hk0 (by decide) (q0 := (R_Md, F_Md, 30)) rfl rfl d_Md_agree_15
    · obtain ⟨⟨b0, t0, rfl, hk0⟩, hn0, hr0⟩ := h
      exact me_crV S hK mG_NW hNw (snd_Md_start hn0 hr0) (le_Md_start hr0).1 (le_Md_start hr0).2 (cwV (C := R_Md) 3 S.2.2.2.2 (gV cI (mT 756 (by decide +kernel) rfl) (mT 753 (by decide +kernel) rfl) (mT 755 (by decide +kernel) rfl) (mS 43 (by decide +kernel) rfl) (mT 6 (by decide +kernel) rfl)) rfl rfl rfl (by decide +kernel) ⟨Nat.le_of_ble_eq_true rfl, Nat.le_of_ble_eq_true rfl⟩) (by simp only [List.length_cons] at hn0; omega) hk0 (by decide) (q0 := (R_Md, F_Md, 30)) rfl rfl d_Md_agree_61
    · obtain ⟨⟨b0, t0, rfl, hk0⟩, hn0, hr0⟩ := h
      exact me_crV S hK mG_NW hNw (snd_Md_sendAll hn0 hr0) (le_Md_sendAll hr0).1 (le_Md_sendAll hr0).2 (cwV (C := R_Md) 4 S.2.2.2.2 (gV cI (mT 748 (by decide +kernel) rfl) (mT 745 (by decide +kernel) rfl) (mT 747 (by decide +kernel) rfl) (mS 41 (by decide +kernel) rfl) (mT 6 (by decide +kernel) rfl)) rfl rfl rfl (by decide +kernel) ⟨Nat.le_of_ble_eq_true rfl, Nat.le_of_ble_eq_true rfl⟩) (by simp only [List.length_cons] at hn0; omega) hk0 (by decide) (q0 := (R_Md, F_Md, 30)) rfl rfl d_Md_agree_75
    · exact h.elim
theorem le_Md_afterPreaccept {ls : List (Option me_V)} {M N : me_M} {v : Option me_V} (h : RUN eL X_Md_afterPreaccept 0 ls [] M v N) : mSz M ≤ mSz N ∧ mSl M ≤ mSl N := by
  refine RUN.le (fun pc as M r M1 h => ?_) h
  unfold X_Md_afterPreaccept at h
  dsimp only [xCall] at h
  split at h
  · exact le_Md_finish h.2.2
  · exact le_Md_agree h.2.2
  · exact h.elim
theorem snd_Md_afterPreaccept {l : Launch} {B : Nat} {Dd : va_G} {cA : Nat → ClassId} {as : List me_V} {M N : me_M} {v : Option me_V} (hlen : as.length = 3) (hrun : RUN eL X_Md_afterPreaccept 0 (as.map some ++ List.replicate (8 - 3) none) [] M v N) : Met l y_Md_afterPreaccept (Cond.code y_Md_afterPreaccept b_Md_afterPreaccept 8 none :: LW) { frames := 3, cells := mSz N - mSz M, slots := mSl N - mSl M, locals := 79 } (me_Pc (mG B Dd cA) as M) (me_Qc (mG B Dd cA) v N) (mSz N - mSz M) (mSl N - mSl M) (fun q => B ≤ q) := by
  refine me_met (X := X_Md_afterPreaccept) (el := eL) (G := mG B Dd cA) (cc := b_Md_afterPreaccept) (maxL := 8) (ws' := LW) (ret := none) (by decide +kernel) rfl rfl (Or.inl ⟨rfl, rfl⟩) (by omega) rfl mG_CL mG_AT (le_Md_afterPreaccept hrun) (fun args s hts hNw => ?_) (fun p e s m args below meth c Q S hK hNw pc as2 M2 r M1 h => ?_) (by rw [hlen]; exact hrun)
  · have ht : ∀ w ∈ LW, w.before args s = true := fun w hw => hts w (List.mem_cons_of_mem _ hw)
    refine ⟨?_, ?_, ?_, ?_, ?_, ?_, ?_, ?_, ?_⟩
    · intro idx ci k key ty h
      unfold X_Md_afterPreaccept at h
      dsimp only [xF] at h
      split at h
      · cases h
        exact tf (r := (R_Md, F_Md, 30)) ht rfl (by decide) (by decide) rfl rfl cl_Md rfl (mT 597 (by decide +kernel) rfl) (fun _ h => h.elim)
      · cases h
        exact tf (r := (R_Md, F_Md, 30)) ht rfl (by decide) (by decide) rfl rfl cl_Md rfl (mT 598 (by decide +kernel) rfl) (fun _ h => h.elim)
      · cases h
        exact tf (r := (R_Md, F_Md, 30)) ht rfl (by decide) (by decide) rfl rfl cl_Md rfl (mT 606 (by decide +kernel) rfl) (fun _ h => h.elim)
      · cases h
        exact tf (r := (R_Md, F_Md, 30)) ht rfl (by decide) (by decide) rfl rfl cl_Md rfl (mT 608 (by decide +kernel) rfl) (fun _ h => h.elim)
      · cases h
        exact tf (r := (R_Md, F_Md, 30)) ht rfl (by decide) (by decide) rfl rfl cl_Md rfl (mT 613 (by decide +kernel) rfl) (fun _ h => h.elim)
      · cases h
        exact tf (r := (R_Md, F_Md, 30)) ht rfl (by decide) (by decide) rfl rfl cl_Md rfl (mT 614 (by decide +kernel) rfl) (fun _ h => h.elim)
      · cases h
        exact tf (r := (R_Md, F_Md, 30)) ht rfl (by decide) (by decide) rfl rfl cl_Md rfl (mT 590 (by decide +kernel) rfl) (fun _ h => h.elim)
      · cases h
        exact tf (r := (R_Md, F_Md, 30)) ht rfl (by decide) (by decide) rfl rfl cl_Md rfl (mT 591 (by decide +kernel) rfl) (fun _ h => h.elim)
      · cases h
    · exact tf_nil
    · exact fun _ _ _ _ _ _ (h : none = some _) => by cases h
    · exact tn_nil
    · exact ta_nil
    · exact fun (h : none = some _) => by cases h
    · exact fun (h : none = some _) => by cases h
    · exact fun _ _ (h : none = some _) => by cases h
    · exact fun h => absurd rfl h
  · unfold X_Md_afterPreaccept at h
    dsimp only [xCall] at h
    split at h
    · obtain ⟨⟨b0, t0, rfl, hk0⟩, hn0, hr0⟩ := h
      exact me_crV S hK mG_NW hNw (snd_Md_finish hn0 hr0) (le_Md_finish hr0).1 (le_Md_finish hr0).2 (cwV (C := R_Md) 4 S.2.2.2.2 (gV cI (mT 744 (by decide +kernel) rfl) (mT 741 (by decide +kernel) rfl) (mT 743 (by decide +kernel) rfl) (mS 40 (by decide +kernel) rfl) (mT 6 (by decide +kernel) rfl)) rfl rfl rfl (by decide +kernel) ⟨Nat.le_of_ble_eq_true rfl, Nat.le_of_ble_eq_true rfl⟩) (by simp only [List.length_cons] at hn0; omega) hk0 (by decide) (q0 := (R_Md, F_Md, 30)) rfl rfl d_Md_afterPreaccept_183
    · obtain ⟨⟨b0, t0, rfl, hk0⟩, hn0, hr0⟩ := h
      exact me_crV S hK mG_NW hNw (snd_Md_agree hn0 hr0) (le_Md_agree hr0).1 (le_Md_agree hr0).2 (cwV (C := R_Md) 6 S.2.2.2.2 (gV cI (mT 752 (by decide +kernel) rfl) (mT 749 (by decide +kernel) rfl) (mT 751 (by decide +kernel) rfl) (mS 42 (by decide +kernel) rfl) (mT 6 (by decide +kernel) rfl)) rfl rfl rfl (by decide +kernel) ⟨Nat.le_of_ble_eq_true rfl, Nat.le_of_ble_eq_true rfl⟩) (by simp only [List.length_cons] at hn0; omega) hk0 (by decide) (q0 := (R_Md, F_Md, 30)) rfl rfl d_Md_afterPreaccept_226
    · exact h.elim
theorem le_Md_accepted {ls : List (Option me_V)} {M N : me_M} {v : Option me_V} (h : RUN eL X_Md_accepted 0 ls [] M v N) : mSz M ≤ mSz N ∧ mSl M ≤ mSl N := by
  refine RUN.le (fun pc as M r M1 h => ?_) h
  exact False.elim h
theorem snd_Md_accepted {l : Launch} {B : Nat} {Dd : va_G} {cA : Nat → ClassId} {as : List me_V} {M N : me_M} {v : Option me_V} (hlen : as.length = 3) (hrun : RUN eL X_Md_accepted 0 (as.map some ++ List.replicate (5 - 3) none) [] M v N) : Met l y_Md_accepted (Cond.code y_Md_accepted b_Md_accepted 5 (some .int) :: LW) { frames := 0, cells := mSz N - mSz M, slots := mSl N - mSl M, locals := 0 } (me_Pc (mG B Dd cA) as M) (me_Qc (mG B Dd cA) v N) (mSz N - mSz M) (mSl N - mSl M) (fun q => B ≤ q) := by
  refine me_met (X := X_Md_accepted) (el := eL) (G := mG B Dd cA) (cc := b_Md_accepted) (maxL := 5) (ws' := LW) (ret := (some .int)) (by decide +kernel) rfl rfl (Or.inr (Or.inl ⟨rfl, rfl⟩)) (by omega) rfl mG_CL mG_AT (le_Md_accepted hrun) (fun args s hts hNw => ?_) (fun p e s m args below meth c Q S hK hNw pc as2 M2 r M1 h => ?_) (by rw [hlen]; exact hrun)
  · have ht : ∀ w ∈ LW, w.before args s = true := fun w hw => hts w (List.mem_cons_of_mem _ hw)
    refine ⟨?_, ?_, ?_, ?_, ?_, ?_, ?_, ?_, ?_⟩
    · intro idx ci k key ty h
      unfold X_Md_accepted at h
      dsimp only [xF] at h
      split at h
      · cases h
        exact tf (r := (R_Md, F_Md, 30)) ht rfl (by decide) (by decide) rfl rfl cl_Md rfl (mT 610 (by decide +kernel) rfl) (fun _ h => h.elim)
      · cases h
        exact tf (r := (R_Md, F_Md, 30)) ht rfl (by decide) (by decide) rfl rfl cl_Md rfl (mT 615 (by decide +kernel) rfl) (fun _ h => h.elim)
      · cases h
    · exact tf_nil
    · exact fun _ _ _ _ _ _ (h : none = some _) => by cases h
    · exact tn_nil
    · exact ta_nil
    · exact fun (h : none = some _) => by cases h
    · exact fun (h : none = some _) => by cases h
    · exact fun _ _ (h : none = some _) => by cases h
    · exact fun h => absurd rfl h
  · exact False.elim h
theorem le_Md_plain {ls : List (Option me_V)} {M N : me_M} {v : Option me_V} (h : RUN eL X_Md_plain 0 ls [] M v N) : mSz M ≤ mSz N ∧ mSl M ≤ mSl N := by
  refine RUN.le (fun pc as M r M1 h => ?_) h
  exact False.elim h
theorem snd_Md_plain {l : Launch} {B : Nat} {Dd : va_G} {cA : Nat → ClassId} {as : List me_V} {M N : me_M} {v : Option me_V} (hlen : as.length = 3) (hrun : RUN eL X_Md_plain 0 (as.map some ++ List.replicate (3 - 3) none) [] M v N) : Met l y_Md_plain (Cond.code y_Md_plain b_Md_plain 3 (some .boolean) :: LW) { frames := 0, cells := mSz N - mSz M, slots := mSl N - mSl M, locals := 0 } (me_Pc (mG B Dd cA) as M) (me_Qc (mG B Dd cA) v N) (mSz N - mSz M) (mSl N - mSl M) (fun q => B ≤ q) := by
  refine me_met (X := X_Md_plain) (el := eL) (G := mG B Dd cA) (cc := b_Md_plain) (maxL := 3) (ws' := LW) (ret := (some .boolean)) (by decide +kernel) rfl rfl (Or.inr (Or.inr (Or.inl ⟨rfl, rfl⟩))) (by omega) rfl mG_CL mG_AT (le_Md_plain hrun) (fun args s hts hNw => ?_) (fun p e s m args below meth c Q S hK hNw pc as2 M2 r M1 h => ?_) (by rw [hlen]; exact hrun)
  · have ht : ∀ w ∈ LW, w.before args s = true := fun w hw => hts w (List.mem_cons_of_mem _ hw)
    refine ⟨?_, ?_, ?_, ?_, ?_, ?_, ?_, ?_, ?_⟩
    · intro idx ci k key ty h
      unfold X_Md_plain at h
      dsimp only [xF] at h
      split at h
      · cases h
        exact tf (r := (R_Md, F_Md, 30)) ht rfl (by decide) (by decide) rfl rfl cl_Md rfl (mT 609 (by decide +kernel) rfl) (fun _ h => h.elim)
      · cases h
        exact tf (r := (R_Md, F_Md, 30)) ht rfl (by decide) (by decide) rfl rfl cl_Md rfl (mT 610 (by decide +kernel) rfl) (fun _ h => h.elim)
      · cases h
        exact tf (r := (R_Md, F_Md, 30)) ht rfl (by decide) (by decide) rfl rfl cl_Md rfl (mT 615 (by decide +kernel) rfl) (fun _ h => h.elim)
      · cases h
    · exact tf_nil
    · exact fun _ _ _ _ _ _ (h : none = some _) => by cases h
    · exact tn_nil
    · exact ta_nil
    · exact fun (h : none = some _) => by cases h
    · exact fun (h : none = some _) => by cases h
    · exact fun _ _ (h : none = some _) => by cases h
    · exact fun h => absurd rfl h
  · exact False.elim h
theorem le_Md_common {ls : List (Option me_V)} {M N : me_M} {v : Option me_V} (h : RUN eL X_Md_common 0 ls [] M v N) : mSz M ≤ mSz N ∧ mSl M ≤ mSl N := by
  refine RUN.le (fun pc as M r M1 h => ?_) h
  unfold X_Md_common at h
  dsimp only [xCall] at h
  split at h
  · exact le_Md_plain h.2.2
  · exact le_Md_plain h.2.2
  · exact h.elim
theorem snd_Md_common {l : Launch} {B : Nat} {Dd : va_G} {cA : Nat → ClassId} {as : List me_V} {M N : me_M} {v : Option me_V} (hlen : as.length = 4) (hrun : RUN eL X_Md_common 0 (as.map some ++ List.replicate (7 - 4) none) [] M v N) : Met l y_Md_common (Cond.code y_Md_common b_Md_common 7 (some .int) :: LW) { frames := 1, cells := mSz N - mSz M, slots := mSl N - mSl M, locals := 22 } (me_Pc (mG B Dd cA) as M) (me_Qc (mG B Dd cA) v N) (mSz N - mSz M) (mSl N - mSl M) (fun q => B ≤ q) := by
  refine me_met (X := X_Md_common) (el := eL) (G := mG B Dd cA) (cc := b_Md_common) (maxL := 7) (ws' := LW) (ret := (some .int)) (by decide +kernel) rfl rfl (Or.inr (Or.inl ⟨rfl, rfl⟩)) (by omega) rfl mG_CL mG_AT (le_Md_common hrun) (fun args s hts hNw => ?_) (fun p e s m args below meth c Q S hK hNw pc as2 M2 r M1 h => ?_) (by rw [hlen]; exact hrun)
  · have ht : ∀ w ∈ LW, w.before args s = true := fun w hw => hts w (List.mem_cons_of_mem _ hw)
    refine ⟨?_, ?_, ?_, ?_, ?_, ?_, ?_, ?_, ?_⟩
    · intro idx ci k key ty h
      unfold X_Md_common at h
      dsimp only [xF] at h
      split at h
      · cases h
        exact tf (r := (R_Md, F_Md, 30)) ht rfl (by decide) (by decide) rfl rfl cl_Md rfl (mT 613 (by decide +kernel) rfl) (fun _ h => h.elim)
      · cases h
        exact tf (r := (R_Md, F_Md, 30)) ht rfl (by decide) (by decide) rfl rfl cl_Md rfl (mT 614 (by decide +kernel) rfl) (fun _ h => h.elim)
      · cases h
        exact tf (r := (R_Md, F_Md, 30)) ht rfl (by decide) (by decide) rfl rfl cl_Md rfl (mT 591 (by decide +kernel) rfl) (fun _ h => h.elim)
      · cases h
    · exact tf_nil
    · exact fun _ _ _ _ _ _ (h : none = some _) => by cases h
    · exact tn_nil
    · exact ta_nil
    · exact fun (h : none = some _) => by cases h
    · exact fun (h : none = some _) => by cases h
    · exact fun _ _ (h : none = some _) => by cases h
    · exact fun h => absurd rfl h
  · unfold X_Md_common at h
    dsimp only [xCall] at h
    split at h
    · obtain ⟨⟨b0, t0, rfl, hk0⟩, hn0, hr0⟩ := h
      exact me_crV S hK mG_NW hNw (snd_Md_plain hn0 hr0) (le_Md_plain hr0).1 (le_Md_plain hr0).2 (cwV (C := R_Md) 2 S.2.2.2.2 (gV cI (mT 772 (by decide +kernel) rfl) (mT 769 (by decide +kernel) rfl) (mT 771 (by decide +kernel) rfl) (mS 47 (by decide +kernel) rfl) (mT 6 (by decide +kernel) rfl)) rfl rfl rfl (by decide +kernel) ⟨Nat.le_of_ble_eq_true rfl, Nat.le_of_ble_eq_true rfl⟩) (by simp only [List.length_cons] at hn0; omega) hk0 (by decide) (q0 := (R_Md, F_Md, 30)) rfl rfl d_Md_common_29
    · obtain ⟨⟨b0, t0, rfl, hk0⟩, hn0, hr0⟩ := h
      exact me_crV S hK mG_NW hNw (snd_Md_plain hn0 hr0) (le_Md_plain hr0).1 (le_Md_plain hr0).2 (cwV (C := R_Md) 2 S.2.2.2.2 (gV cI (mT 772 (by decide +kernel) rfl) (mT 769 (by decide +kernel) rfl) (mT 771 (by decide +kernel) rfl) (mS 47 (by decide +kernel) rfl) (mT 6 (by decide +kernel) rfl)) rfl rfl rfl (by decide +kernel) ⟨Nat.le_of_ble_eq_true rfl, Nat.le_of_ble_eq_true rfl⟩) (by simp only [List.length_cons] at hn0; omega) hk0 (by decide) (q0 := (R_Md, F_Md, 30)) rfl rfl d_Md_common_39
    · exact h.elim
theorem le_Md_preaccepted {ls : List (Option me_V)} {M N : me_M} {v : Option me_V} (h : RUN eL X_Md_preaccepted 0 ls [] M v N) : mSz M ≤ mSz N ∧ mSl M ≤ mSl N := by
  refine RUN.le (fun pc as M r M1 h => ?_) h
  exact False.elim h
theorem snd_Md_preaccepted {l : Launch} {B : Nat} {Dd : va_G} {cA : Nat → ClassId} {as : List me_V} {M N : me_M} {v : Option me_V} (hlen : as.length = 3) (hrun : RUN eL X_Md_preaccepted 0 (as.map some ++ List.replicate (4 - 3) none) [] M v N) : Met l y_Md_preaccepted (Cond.code y_Md_preaccepted b_Md_preaccepted 4 (some .int) :: LW) { frames := 0, cells := mSz N - mSz M, slots := mSl N - mSl M, locals := 0 } (me_Pc (mG B Dd cA) as M) (me_Qc (mG B Dd cA) v N) (mSz N - mSz M) (mSl N - mSl M) (fun q => B ≤ q) := by
  refine me_met (X := X_Md_preaccepted) (el := eL) (G := mG B Dd cA) (cc := b_Md_preaccepted) (maxL := 4) (ws' := LW) (ret := (some .int)) (by decide +kernel) rfl rfl (Or.inr (Or.inl ⟨rfl, rfl⟩)) (by omega) rfl mG_CL mG_AT (le_Md_preaccepted hrun) (fun args s hts hNw => ?_) (fun p e s m args below meth c Q S hK hNw pc as2 M2 r M1 h => ?_) (by rw [hlen]; exact hrun)
  · have ht : ∀ w ∈ LW, w.before args s = true := fun w hw => hts w (List.mem_cons_of_mem _ hw)
    refine ⟨?_, ?_, ?_, ?_, ?_, ?_, ?_, ?_, ?_⟩
    · intro idx ci k key ty h
      unfold X_Md_preaccepted at h
      dsimp only [xF] at h
      split at h
      · cases h
        exact tf (r := (R_Md, F_Md, 30)) ht rfl (by decide) (by decide) rfl rfl cl_Md rfl (mT 610 (by decide +kernel) rfl) (fun _ h => h.elim)
      · cases h
    · exact tf_nil
    · exact fun _ _ _ _ _ _ (h : none = some _) => by cases h
    · exact tn_nil
    · exact ta_nil
    · exact fun (h : none = some _) => by cases h
    · exact fun (h : none = some _) => by cases h
    · exact fun _ _ (h : none = some _) => by cases h
    · exact fun h => absurd rfl h
  · exact False.elim h
theorem le_Md_afterPromise {ls : List (Option me_V)} {M N : me_M} {v : Option me_V} (h : RUN eL X_Md_afterPromise 0 ls [] M v N) : mSz M ≤ mSz N ∧ mSl M ≤ mSl N := by
  refine RUN.le (fun pc as M r M1 h => ?_) h
  unfold X_Md_afterPromise at h
  dsimp only [xCall] at h
  split at h
  · exact le_Md_accepted h.2.2
  · exact le_Md_common h.2.2
  · exact le_Md_agree h.2.2
  · exact le_Md_preaccepted h.2.2
  · exact le_Md_agree h.2.2
  · exact le_Md_fit h.2.2
  · exact le_Md_start h.2.2
  · exact le_Md_sendAll h.2.2
  · exact h.elim
theorem snd_Md_afterPromise {l : Launch} {B : Nat} {Dd : va_G} {cA : Nat → ClassId} {as : List me_V} {M N : me_M} {v : Option me_V} (hlen : as.length = 3) (hrun : RUN eL X_Md_afterPromise 0 (as.map some ++ List.replicate (7 - 3) none) [] M v N) : Met l y_Md_afterPromise (Cond.code y_Md_afterPromise b_Md_afterPromise 7 none :: LW) { frames := 3, cells := mSz N - mSz M, slots := mSl N - mSl M, locals := 79 } (me_Pc (mG B Dd cA) as M) (me_Qc (mG B Dd cA) v N) (mSz N - mSz M) (mSl N - mSl M) (fun q => B ≤ q) := by
  refine me_met (X := X_Md_afterPromise) (el := eL) (G := mG B Dd cA) (cc := b_Md_afterPromise) (maxL := 7) (ws' := LW) (ret := none) (by decide +kernel) rfl rfl (Or.inl ⟨rfl, rfl⟩) (by omega) rfl mG_CL mG_AT (le_Md_afterPromise hrun) (fun args s hts hNw => ?_) (fun p e s m args below meth c Q S hK hNw pc as2 M2 r M1 h => ?_) (by rw [hlen]; exact hrun)
  · have ht : ∀ w ∈ LW, w.before args s = true := fun w hw => hts w (List.mem_cons_of_mem _ hw)
    refine ⟨?_, ?_, ?_, ?_, ?_, ?_, ?_, ?_, ?_⟩
    · intro idx ci k key ty h
      unfold X_Md_afterPromise at h
      dsimp only [xF] at h
      split at h
      · cases h
        exact tf (r := (R_Md, F_Md, 30)) ht rfl (by decide) (by decide) rfl rfl cl_Md rfl (mT 596 (by decide +kernel) rfl) (fun _ h => h.elim)
      · cases h
        exact tf (r := (R_Md, F_Md, 30)) ht rfl (by decide) (by decide) rfl rfl cl_Md rfl (mT 597 (by decide +kernel) rfl) (fun _ h => h.elim)
      · cases h
        exact tf (r := (R_Md, F_Md, 30)) ht rfl (by decide) (by decide) rfl rfl cl_Md rfl (mT 598 (by decide +kernel) rfl) (fun _ h => h.elim)
      · cases h
        exact tf (r := (R_Md, F_Md, 30)) ht rfl (by decide) (by decide) rfl rfl cl_Md rfl (mT 599 (by decide +kernel) rfl) (fun _ h => h.elim)
      · cases h
        exact tf (r := (R_Md, F_Md, 30)) ht rfl (by decide) (by decide) rfl rfl cl_Md rfl (mT 600 (by decide +kernel) rfl) (fun _ h => h.elim)
      · cases h
        exact tf (r := (R_Md, F_Md, 30)) ht rfl (by decide) (by decide) rfl rfl cl_Md rfl (mT 602 (by decide +kernel) rfl) (fun _ h => h.elim)
      · cases h
        exact tf (r := (R_Md, F_Md, 30)) ht rfl (by decide) (by decide) rfl rfl cl_Md rfl (mT 607 (by decide +kernel) rfl) (fun _ h => h.elim)
      · cases h
        exact tf (r := (R_Md, F_Md, 30)) ht rfl (by decide) (by decide) rfl rfl cl_Md rfl (mT 608 (by decide +kernel) rfl) (fun _ h => h.elim)
      · cases h
        exact tf (r := (R_Md, F_Md, 30)) ht rfl (by decide) (by decide) rfl rfl cl_Md rfl (mT 609 (by decide +kernel) rfl) (fun _ h => h.elim)
      · cases h
        exact tf (r := (R_Md, F_Md, 30)) ht rfl (by decide) (by decide) rfl rfl cl_Md rfl (mT 610 (by decide +kernel) rfl) (fun _ h => h.elim)
      · cases h
        exact tf (r := (R_Md, F_Md, 30)) ht rfl (by decide) (by decide) rfl rfl cl_Md rfl (mT 611 (by decide +kernel) rfl) (fun _ h => h.elim)
      · cases h
        exact tf (r := (R_Md, F_Md, 30)) ht rfl (by decide) (by decide) rfl rfl cl_Md rfl (mT 612 (by decide +kernel) rfl) (fun _ h => h.elim)
      · cases h
        exact tf (r := (R_Md, F_Md, 30)) ht rfl (by decide) (by decide) rfl rfl cl_Md rfl (mT 613 (by decide +kernel) rfl) (fun _ h => h.elim)
      · cases h
        exact tf (r := (R_Md, F_Md, 30)) ht rfl (by decide) (by decide) rfl rfl cl_Md rfl (mT 614 (by decide +kernel) rfl) (fun _ h => h.elim)
      · cases h
        exact tf (r := (R_Md, F_Md, 30)) ht rfl (by decide) (by decide) rfl rfl cl_Md rfl (mT 615 (by decide +kernel) rfl) (fun _ h => h.elim)
      · cases h
        exact tf (r := (R_Md, F_Md, 30)) ht rfl (by decide) (by decide) rfl rfl cl_Md rfl (mT 591 (by decide +kernel) rfl) (fun _ h => h.elim)
      · cases h
    · exact tf_nil
    · exact fun _ _ _ _ _ _ (h : none = some _) => by cases h
    · exact tn_nil
    · exact ta_nil
    · exact fun (h : none = some _) => by cases h
    · exact fun (h : none = some _) => by cases h
    · exact fun _ _ (h : none = some _) => by cases h
    · exact fun h => absurd rfl h
  · unfold X_Md_afterPromise at h
    dsimp only [xCall] at h
    split at h
    · obtain ⟨⟨b0, t0, rfl, hk0⟩, hn0, hr0⟩ := h
      exact me_crV S hK mG_NW hNw (snd_Md_accepted hn0 hr0) (le_Md_accepted hr0).1 (le_Md_accepted hr0).2 (cwV (C := R_Md) 2 S.2.2.2.2 (gV cI (mT 764 (by decide +kernel) rfl) (mT 761 (by decide +kernel) rfl) (mT 763 (by decide +kernel) rfl) (mS 45 (by decide +kernel) rfl) (mT 6 (by decide +kernel) rfl)) rfl rfl rfl (by decide +kernel) ⟨Nat.le_of_ble_eq_true rfl, Nat.le_of_ble_eq_true rfl⟩) (by simp only [List.length_cons] at hn0; omega) hk0 (by decide) (q0 := (R_Md, F_Md, 30)) rfl rfl d_Md_afterPromise_118
    · obtain ⟨⟨b0, t0, rfl, hk0⟩, hn0, hr0⟩ := h
      exact me_crV S hK mG_NW hNw (snd_Md_common hn0 hr0) (le_Md_common hr0).1 (le_Md_common hr0).2 (cwV (C := R_Md) 3 S.2.2.2.2 (gV cI (mT 768 (by decide +kernel) rfl) (mT 765 (by decide +kernel) rfl) (mT 767 (by decide +kernel) rfl) (mS 46 (by decide +kernel) rfl) (mT 6 (by decide +kernel) rfl)) rfl rfl rfl (by decide +kernel) ⟨Nat.le_of_ble_eq_true rfl, Nat.le_of_ble_eq_true rfl⟩) (by simp only [List.length_cons] at hn0; omega) hk0 (by decide) (q0 := (R_Md, F_Md, 30)) rfl rfl d_Md_afterPromise_138
    · obtain ⟨⟨b0, t0, rfl, hk0⟩, hn0, hr0⟩ := h
      exact me_crV S hK mG_NW hNw (snd_Md_agree hn0 hr0) (le_Md_agree hr0).1 (le_Md_agree hr0).2 (cwV (C := R_Md) 6 S.2.2.2.2 (gV cI (mT 752 (by decide +kernel) rfl) (mT 749 (by decide +kernel) rfl) (mT 751 (by decide +kernel) rfl) (mS 42 (by decide +kernel) rfl) (mT 6 (by decide +kernel) rfl)) rfl rfl rfl (by decide +kernel) ⟨Nat.le_of_ble_eq_true rfl, Nat.le_of_ble_eq_true rfl⟩) (by simp only [List.length_cons] at hn0; omega) hk0 (by decide) (q0 := (R_Md, F_Md, 30)) rfl rfl d_Md_afterPromise_179
    · obtain ⟨⟨b0, t0, rfl, hk0⟩, hn0, hr0⟩ := h
      exact me_crV S hK mG_NW hNw (snd_Md_preaccepted hn0 hr0) (le_Md_preaccepted hr0).1 (le_Md_preaccepted hr0).2 (cwV (C := R_Md) 2 S.2.2.2.2 (gV cI (mT 776 (by decide +kernel) rfl) (mT 773 (by decide +kernel) rfl) (mT 775 (by decide +kernel) rfl) (mS 48 (by decide +kernel) rfl) (mT 6 (by decide +kernel) rfl)) rfl rfl rfl (by decide +kernel) ⟨Nat.le_of_ble_eq_true rfl, Nat.le_of_ble_eq_true rfl⟩) (by simp only [List.length_cons] at hn0; omega) hk0 (by decide) (q0 := (R_Md, F_Md, 30)) rfl rfl d_Md_afterPromise_192
    · obtain ⟨⟨b0, t0, rfl, hk0⟩, hn0, hr0⟩ := h
      exact me_crV S hK mG_NW hNw (snd_Md_agree hn0 hr0) (le_Md_agree hr0).1 (le_Md_agree hr0).2 (cwV (C := R_Md) 6 S.2.2.2.2 (gV cI (mT 752 (by decide +kernel) rfl) (mT 749 (by decide +kernel) rfl) (mT 751 (by decide +kernel) rfl) (mS 42 (by decide +kernel) rfl) (mT 6 (by decide +kernel) rfl)) rfl rfl rfl (by decide +kernel) ⟨Nat.le_of_ble_eq_true rfl, Nat.le_of_ble_eq_true rfl⟩) (by simp only [List.length_cons] at hn0; omega) hk0 (by decide) (q0 := (R_Md, F_Md, 30)) rfl rfl d_Md_afterPromise_210
    · obtain ⟨⟨b0, t0, rfl, hk0⟩, hn0, hr0⟩ := h
      exact me_crV S hK mG_NW hNw (snd_Md_fit hn0 hr0) (le_Md_fit hr0).1 (le_Md_fit hr0).2 (cwV (C := R_Md) 6 S.2.2.2.2 (gV cI (mT 709 (by decide +kernel) rfl) (mT 706 (by decide +kernel) rfl) (mT 708 (by decide +kernel) rfl) (mS 32 (by decide +kernel) rfl) (mT 6 (by decide +kernel) rfl)) rfl rfl rfl (by decide +kernel) ⟨Nat.le_of_ble_eq_true rfl, Nat.le_of_ble_eq_true rfl⟩) (by simp only [List.length_cons] at hn0; omega) hk0 (by decide) (q0 := (R_Md, F_Md, 30)) rfl rfl d_Md_afterPromise_233
    · obtain ⟨⟨b0, t0, rfl, hk0⟩, hn0, hr0⟩ := h
      exact me_crV S hK mG_NW hNw (snd_Md_start hn0 hr0) (le_Md_start hr0).1 (le_Md_start hr0).2 (cwV (C := R_Md) 3 S.2.2.2.2 (gV cI (mT 756 (by decide +kernel) rfl) (mT 753 (by decide +kernel) rfl) (mT 755 (by decide +kernel) rfl) (mS 43 (by decide +kernel) rfl) (mT 6 (by decide +kernel) rfl)) rfl rfl rfl (by decide +kernel) ⟨Nat.le_of_ble_eq_true rfl, Nat.le_of_ble_eq_true rfl⟩) (by simp only [List.length_cons] at hn0; omega) hk0 (by decide) (q0 := (R_Md, F_Md, 30)) rfl rfl d_Md_afterPromise_257
    · obtain ⟨⟨b0, t0, rfl, hk0⟩, hn0, hr0⟩ := h
      exact me_crV S hK mG_NW hNw (snd_Md_sendAll hn0 hr0) (le_Md_sendAll hr0).1 (le_Md_sendAll hr0).2 (cwV (C := R_Md) 4 S.2.2.2.2 (gV cI (mT 748 (by decide +kernel) rfl) (mT 745 (by decide +kernel) rfl) (mT 747 (by decide +kernel) rfl) (mS 41 (by decide +kernel) rfl) (mT 6 (by decide +kernel) rfl)) rfl rfl rfl (by decide +kernel) ⟨Nat.le_of_ble_eq_true rfl, Nat.le_of_ble_eq_true rfl⟩) (by simp only [List.length_cons] at hn0; omega) hk0 (by decide) (q0 := (R_Md, F_Md, 30)) rfl rfl d_Md_afterPromise_270
    · exact h.elim
theorem le_Md_receive {ls : List (Option me_V)} {M N : me_M} {v : Option me_V} (h : RUN eL X_Md_receive 0 ls [] M v N) : mSz M ≤ mSz N ∧ mSl M ≤ mSl N := by
  refine RUN.le (fun pc as M r M1 h => ?_) h
  unfold X_Md_receive at h
  dsimp only [xCall] at h
  split at h
  · exact le_Md_send h.2.2
  · exact le_Md_preaccept h.2.2
  · exact le_Md_accept h.2.2
  · exact le_Md_asked h.2.2
  · exact le_Md_settle h.2.2
  · exact le_Md_counts h.2.2
  · exact le_Md_afterPreaccept h.2.2
  · exact le_Md_counts h.2.2
  · exact le_Md_finish h.2.2
  · exact le_Md_counts h.2.2
  · exact le_Md_afterPromise h.2.2
  · exact h.elim
theorem snd_Md_receive {l : Launch} {B : Nat} {Dd : va_G} {cA : Nat → ClassId} {as : List me_V} {M N : me_M} {v : Option me_V} (hlen : as.length = 5) (hrun : RUN eL X_Md_receive 0 (as.map some ++ List.replicate (7 - 5) none) [] M v N) : Met l y_Md_receive (Cond.code y_Md_receive b_Md_receive 7 none :: LW) { frames := 4, cells := mSz N - mSz M, slots := mSl N - mSl M, locals := 106 } (me_Pc (mG B Dd cA) as M) (me_Qc (mG B Dd cA) v N) (mSz N - mSz M) (mSl N - mSl M) (fun q => B ≤ q) := by
  refine me_met (X := X_Md_receive) (el := eL) (G := mG B Dd cA) (cc := b_Md_receive) (maxL := 7) (ws' := LW) (ret := none) (by decide +kernel) rfl rfl (Or.inl ⟨rfl, rfl⟩) (by omega) rfl mG_CL mG_AT (le_Md_receive hrun) (fun args s hts hNw => ?_) (fun p e s m args below meth c Q S hK hNw pc as2 M2 r M1 h => ?_) (by rw [hlen]; exact hrun)
  · have ht : ∀ w ∈ LW, w.before args s = true := fun w hw => hts w (List.mem_cons_of_mem _ hw)
    refine ⟨?_, ?_, ?_, ?_, ?_, ?_, ?_, ?_, ?_⟩
    · intro idx ci k key ty h
      unfold X_Md_receive at h
      dsimp only [xF] at h
      split at h
      · cases h
        exact tf (r := (R_Md, F_Md, 30)) ht rfl (by decide) (by decide) rfl rfl cl_Md rfl (mT 596 (by decide +kernel) rfl) (fun _ h => h.elim)
      · cases h
        exact tf (r := (R_Md, F_Md, 30)) ht rfl (by decide) (by decide) rfl rfl cl_Md rfl (mT 599 (by decide +kernel) rfl) (fun _ h => h.elim)
      · cases h
        exact tf (r := (R_Md, F_Md, 30)) ht rfl (by decide) (by decide) rfl rfl cl_Md rfl (mT 600 (by decide +kernel) rfl) (fun _ h => h.elim)
      · cases h
        exact tf (r := (R_Md, F_Md, 30)) ht rfl (by decide) (by decide) rfl rfl cl_Md rfl (mT 608 (by decide +kernel) rfl) (fun _ h => h.elim)
      · cases h
        exact tf (r := (R_Md, F_Md, 30)) ht rfl (by decide) (by decide) rfl rfl cl_Md rfl (mT 591 (by decide +kernel) rfl) (fun _ h => h.elim)
      · cases h
    · exact tf_nil
    · exact fun _ _ _ _ _ _ (h : none = some _) => by cases h
    · exact tn_nil
    · exact ta_nil
    · exact fun (h : none = some _) => by cases h
    · exact fun (h : none = some _) => by cases h
    · exact fun _ _ (h : none = some _) => by cases h
    · exact fun h => absurd rfl h
  · unfold X_Md_receive at h
    dsimp only [xCall] at h
    split at h
    · obtain ⟨⟨b0, t0, rfl, hk0⟩, hn0, hr0⟩ := h
      exact me_crV S hK mG_NW hNw (snd_Md_send hn0 hr0) (le_Md_send hr0).1 (le_Md_send hr0).2 (cwV (C := R_Md) 5 S.2.2.2.2 (gV cI (mT 701 (by decide +kernel) rfl) (mT 698 (by decide +kernel) rfl) (mT 700 (by decide +kernel) rfl) (mS 30 (by decide +kernel) rfl) (mT 6 (by decide +kernel) rfl)) rfl rfl rfl (by decide +kernel) ⟨Nat.le_of_ble_eq_true rfl, Nat.le_of_ble_eq_true rfl⟩) (by simp only [List.length_cons] at hn0; omega) hk0 (by decide) (q0 := (R_Md, F_Md, 30)) rfl rfl d_Md_receive_53
    · obtain ⟨⟨b0, t0, rfl, hk0⟩, hn0, hr0⟩ := h
      exact me_crV S hK mG_NW hNw (snd_Md_preaccept hn0 hr0) (le_Md_preaccept hr0).1 (le_Md_preaccept hr0).2 (cwV (C := R_Md) 3 S.2.2.2.2 (gV cI (mT 705 (by decide +kernel) rfl) (mT 702 (by decide +kernel) rfl) (mT 704 (by decide +kernel) rfl) (mS 31 (by decide +kernel) rfl) (mT 6 (by decide +kernel) rfl)) rfl rfl rfl (by decide +kernel) ⟨Nat.le_of_ble_eq_true rfl, Nat.le_of_ble_eq_true rfl⟩) (by simp only [List.length_cons] at hn0; omega) hk0 (by decide) (q0 := (R_Md, F_Md, 30)) rfl rfl d_Md_receive_66
    · obtain ⟨⟨b0, t0, rfl, hk0⟩, hn0, hr0⟩ := h
      exact me_crV S hK mG_NW hNw (snd_Md_accept hn0 hr0) (le_Md_accept hr0).1 (le_Md_accept hr0).2 (cwV (C := R_Md) 3 S.2.2.2.2 (gV cI (mT 724 (by decide +kernel) rfl) (mT 721 (by decide +kernel) rfl) (mT 723 (by decide +kernel) rfl) (mS 35 (by decide +kernel) rfl) (mT 6 (by decide +kernel) rfl)) rfl rfl rfl (by decide +kernel) ⟨Nat.le_of_ble_eq_true rfl, Nat.le_of_ble_eq_true rfl⟩) (by simp only [List.length_cons] at hn0; omega) hk0 (by decide) (q0 := (R_Md, F_Md, 30)) rfl rfl d_Md_receive_79
    · obtain ⟨⟨b0, t0, rfl, hk0⟩, hn0, hr0⟩ := h
      exact me_crV S hK mG_NW hNw (snd_Md_asked hn0 hr0) (le_Md_asked hr0).1 (le_Md_asked hr0).2 (cwV (C := R_Md) 3 S.2.2.2.2 (gV cI (mT 728 (by decide +kernel) rfl) (mT 725 (by decide +kernel) rfl) (mT 727 (by decide +kernel) rfl) (mS 36 (by decide +kernel) rfl) (mT 6 (by decide +kernel) rfl)) rfl rfl rfl (by decide +kernel) ⟨Nat.le_of_ble_eq_true rfl, Nat.le_of_ble_eq_true rfl⟩) (by simp only [List.length_cons] at hn0; omega) hk0 (by decide) (q0 := (R_Md, F_Md, 30)) rfl rfl d_Md_receive_92
    · obtain ⟨⟨b0, t0, rfl, hk0⟩, hn0, hr0⟩ := h
      exact me_crV S hK mG_NW hNw (snd_Md_settle hn0 hr0) (le_Md_settle hr0).1 (le_Md_settle hr0).2 (cwV (C := R_Md) 1 S.2.2.2.2 (gV cI (mT 732 (by decide +kernel) rfl) (mT 729 (by decide +kernel) rfl) (mT 731 (by decide +kernel) rfl) (mS 37 (by decide +kernel) rfl) (mT 6 (by decide +kernel) rfl)) rfl rfl rfl (by decide +kernel) ⟨Nat.le_of_ble_eq_true rfl, Nat.le_of_ble_eq_true rfl⟩) (by simp only [List.length_cons] at hn0; omega) hk0 (by decide) (q0 := (R_Md, F_Md, 30)) rfl rfl d_Md_receive_114
    · obtain ⟨⟨b0, t0, rfl, hk0⟩, hn0, hr0⟩ := h
      exact me_crV S hK mG_NW hNw (snd_Md_counts hn0 hr0) (le_Md_counts hr0).1 (le_Md_counts hr0).2 (cwV (C := R_Md) 2 S.2.2.2.2 (gV cI (mT 736 (by decide +kernel) rfl) (mT 733 (by decide +kernel) rfl) (mT 735 (by decide +kernel) rfl) (mS 38 (by decide +kernel) rfl) (mT 6 (by decide +kernel) rfl)) rfl rfl rfl (by decide +kernel) ⟨Nat.le_of_ble_eq_true rfl, Nat.le_of_ble_eq_true rfl⟩) (by simp only [List.length_cons] at hn0; omega) hk0 (by decide) (q0 := (R_Md, F_Md, 30)) rfl rfl d_Md_receive_126
    · obtain ⟨⟨b0, t0, rfl, hk0⟩, hn0, hr0⟩ := h
      exact me_crV S hK mG_NW hNw (snd_Md_afterPreaccept hn0 hr0) (le_Md_afterPreaccept hr0).1 (le_Md_afterPreaccept hr0).2 (cwV (C := R_Md) 2 S.2.2.2.2 (gV cI (mT 740 (by decide +kernel) rfl) (mT 737 (by decide +kernel) rfl) (mT 739 (by decide +kernel) rfl) (mS 39 (by decide +kernel) rfl) (mT 6 (by decide +kernel) rfl)) rfl rfl rfl (by decide +kernel) ⟨Nat.le_of_ble_eq_true rfl, Nat.le_of_ble_eq_true rfl⟩) (by simp only [List.length_cons] at hn0; omega) hk0 (by decide) (q0 := (R_Md, F_Md, 30)) rfl rfl d_Md_receive_136
    · obtain ⟨⟨b0, t0, rfl, hk0⟩, hn0, hr0⟩ := h
      exact me_crV S hK mG_NW hNw (snd_Md_counts hn0 hr0) (le_Md_counts hr0).1 (le_Md_counts hr0).2 (cwV (C := R_Md) 2 S.2.2.2.2 (gV cI (mT 736 (by decide +kernel) rfl) (mT 733 (by decide +kernel) rfl) (mT 735 (by decide +kernel) rfl) (mS 38 (by decide +kernel) rfl) (mT 6 (by decide +kernel) rfl)) rfl rfl rfl (by decide +kernel) ⟨Nat.le_of_ble_eq_true rfl, Nat.le_of_ble_eq_true rfl⟩) (by simp only [List.length_cons] at hn0; omega) hk0 (by decide) (q0 := (R_Md, F_Md, 30)) rfl rfl d_Md_receive_148
    · obtain ⟨⟨b0, t0, rfl, hk0⟩, hn0, hr0⟩ := h
      exact me_crV S hK mG_NW hNw (snd_Md_finish hn0 hr0) (le_Md_finish hr0).1 (le_Md_finish hr0).2 (cwV (C := R_Md) 4 S.2.2.2.2 (gV cI (mT 744 (by decide +kernel) rfl) (mT 741 (by decide +kernel) rfl) (mT 743 (by decide +kernel) rfl) (mS 40 (by decide +kernel) rfl) (mT 6 (by decide +kernel) rfl)) rfl rfl rfl (by decide +kernel) ⟨Nat.le_of_ble_eq_true rfl, Nat.le_of_ble_eq_true rfl⟩) (by simp only [List.length_cons] at hn0; omega) hk0 (by decide) (q0 := (R_Md, F_Md, 30)) rfl rfl d_Md_receive_186
    · obtain ⟨⟨b0, t0, rfl, hk0⟩, hn0, hr0⟩ := h
      exact me_crV S hK mG_NW hNw (snd_Md_counts hn0 hr0) (le_Md_counts hr0).1 (le_Md_counts hr0).2 (cwV (C := R_Md) 2 S.2.2.2.2 (gV cI (mT 736 (by decide +kernel) rfl) (mT 733 (by decide +kernel) rfl) (mT 735 (by decide +kernel) rfl) (mS 38 (by decide +kernel) rfl) (mT 6 (by decide +kernel) rfl)) rfl rfl rfl (by decide +kernel) ⟨Nat.le_of_ble_eq_true rfl, Nat.le_of_ble_eq_true rfl⟩) (by simp only [List.length_cons] at hn0; omega) hk0 (by decide) (q0 := (R_Md, F_Md, 30)) rfl rfl d_Md_receive_199
    · obtain ⟨⟨b0, t0, rfl, hk0⟩, hn0, hr0⟩ := h
      exact me_crV S hK mG_NW hNw (snd_Md_afterPromise hn0 hr0) (le_Md_afterPromise hr0).1 (le_Md_afterPromise hr0).2 (cwV (C := R_Md) 2 S.2.2.2.2 (gV cI (mT 760 (by decide +kernel) rfl) (mT 757 (by decide +kernel) rfl) (mT 759 (by decide +kernel) rfl) (mS 44 (by decide +kernel) rfl) (mT 6 (by decide +kernel) rfl)) rfl rfl rfl (by decide +kernel) ⟨Nat.le_of_ble_eq_true rfl, Nat.le_of_ble_eq_true rfl⟩) (by simp only [List.length_cons] at hn0; omega) hk0 (by decide) (q0 := (R_Md, F_Md, 30)) rfl rfl d_Md_receive_223
    · exact h.elim
theorem le_Md_deliver {ls : List (Option me_V)} {M N : me_M} {v : Option me_V} (h : RUN eL X_Md_deliver 0 ls [] M v N) : mSz M ≤ mSz N ∧ mSl M ≤ mSl N := by
  refine RUN.le (fun pc as M r M1 h => ?_) h
  unfold X_Md_deliver at h
  dsimp only [xCall] at h
  split at h
  · exact le_Md_take h.2.2
  · exact le_Md_receive h.2.2
  · exact h.elim
theorem snd_Md_deliver {l : Launch} {B : Nat} {Dd : va_G} {cA : Nat → ClassId} {as : List me_V} {M N : me_M} {v : Option me_V} (hlen : as.length = 2) (hrun : RUN eL X_Md_deliver 0 (as.map some ++ List.replicate (3 - 2) none) [] M v N) : Met l y_Md_deliver (Cond.code y_Md_deliver b_Md_deliver 3 (some .int) :: LW) { frames := 5, cells := mSz N - mSz M, slots := mSl N - mSl M, locals := 132 } (me_Pc (mG B Dd cA) as M) (me_Qc (mG B Dd cA) v N) (mSz N - mSz M) (mSl N - mSl M) (fun q => B ≤ q) := by
  refine me_met (X := X_Md_deliver) (el := eL) (G := mG B Dd cA) (cc := b_Md_deliver) (maxL := 3) (ws' := LW) (ret := (some .int)) (by decide +kernel) rfl rfl (Or.inr (Or.inl ⟨rfl, rfl⟩)) (by omega) rfl mG_CL mG_AT (le_Md_deliver hrun) (fun args s hts hNw => ?_) (fun p e s m args below meth c Q S hK hNw pc as2 M2 r M1 h => ?_) (by rw [hlen]; exact hrun)
  · have ht : ∀ w ∈ LW, w.before args s = true := fun w hw => hts w (List.mem_cons_of_mem _ hw)
    refine ⟨?_, ?_, ?_, ?_, ?_, ?_, ?_, ?_, ?_⟩
    · intro idx ci k key ty h
      unfold X_Md_deliver at h
      dsimp only [xF] at h
      split at h
      · cases h
        exact tf (r := (R_Md, F_Md, 30)) ht rfl (by decide) (by decide) rfl rfl cl_Md rfl (mT 593 (by decide +kernel) rfl) (fun _ h => h.elim)
      · cases h
        exact tf (r := (R_Md, F_Md, 30)) ht rfl (by decide) (by decide) rfl rfl cl_Md rfl (mT 618 (by decide +kernel) rfl) (fun _ h => h.elim)
      · cases h
        exact tf (r := (R_Md, F_Md, 30)) ht rfl (by decide) (by decide) rfl rfl cl_Md rfl (mT 616 (by decide +kernel) rfl) (fun _ h => h.elim)
      · cases h
    · exact tf_nil
    · exact fun _ _ _ _ _ _ (h : none = some _) => by cases h
    · exact tn_nil
    · exact ta_nil
    · exact fun (h : none = some _) => by cases h
    · exact fun (h : none = some _) => by cases h
    · exact fun _ _ (h : none = some _) => by cases h
    · exact fun h => absurd rfl h
  · unfold X_Md_deliver at h
    dsimp only [xCall] at h
    split at h
    · obtain ⟨⟨b0, t0, rfl, hk0⟩, hn0, hr0⟩ := h
      exact me_crV S hK mG_NW hNw (snd_Md_take hn0 hr0) (le_Md_take hr0).1 (le_Md_take hr0).2 (cwV (C := R_Md) 1 S.2.2.2.2 (gV cI (mT 689 (by decide +kernel) rfl) (mT 686 (by decide +kernel) rfl) (mT 688 (by decide +kernel) rfl) (mS 28 (by decide +kernel) rfl) (mT 6 (by decide +kernel) rfl)) rfl rfl rfl (by decide +kernel) ⟨Nat.le_of_ble_eq_true rfl, Nat.le_of_ble_eq_true rfl⟩) (by simp only [List.length_cons] at hn0; omega) hk0 (by decide) (q0 := (R_Md, F_Md, 30)) rfl rfl d_Md_deliver_16
    · obtain ⟨⟨b0, t0, rfl, hk0⟩, hn0, hr0⟩ := h
      exact me_crV S hK mG_NW hNw (snd_Md_receive hn0 hr0) (le_Md_receive hr0).1 (le_Md_receive hr0).2 (cwV (C := R_Md) 4 S.2.2.2.2 (gV cI (mT 697 (by decide +kernel) rfl) (mT 694 (by decide +kernel) rfl) (mT 696 (by decide +kernel) rfl) (mS 29 (by decide +kernel) rfl) (mT 6 (by decide +kernel) rfl)) rfl rfl rfl (by decide +kernel) ⟨Nat.le_of_ble_eq_true rfl, Nat.le_of_ble_eq_true rfl⟩) (by simp only [List.length_cons] at hn0; omega) hk0 (by decide) (q0 := (R_Md, F_Md, 30)) rfl rfl d_Md_deliver_70
    · exact h.elim
