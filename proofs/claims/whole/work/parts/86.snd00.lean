theorem le_Net_init {ls : List (Option me_V)} {M N : me_M} {v : Option me_V} (h : RUN eL X_Net_init 0 ls [] M v N) : mSz M ≤ mSz N ∧ mSl M ≤ mSl N := by
  refine RUN.le (fun pc as M r M1 h => ?_) h
  exact False.elim h
theorem snd_Net_init {l : Launch} {B : Nat} {Dd : va_G} {cA : Nat → ClassId} {as : List me_V} {M N : me_M} {v : Option me_V} (hlen : as.length = 1) (hrun : RUN eL X_Net_init 0 (as.map some ++ List.replicate (1 - 1) none) [] M v N) : Met l y_Net_init (Cond.code y_Net_init b_Net_init 1 none :: LW) { frames := 1, cells := mSz N - mSz M, slots := mSl N - mSl M, locals := 20 } (me_Pc (mG B Dd cA) as M) (me_Qc (mG B Dd cA) v N) (mSz N - mSz M) (mSl N - mSl M) (fun q => B ≤ q) := by
  refine me_met (X := X_Net_init) (el := eL) (G := mG B Dd cA) (cc := b_Net_init) (maxL := 1) (ws' := LW) (ret := none) (by decide +kernel) rfl rfl (Or.inl ⟨rfl, rfl⟩) (by omega) rfl mG_CL mG_AT (le_Net_init hrun) (fun args s hts hNw => ?_) (fun p e s m args below meth c Q S hK hNw pc as2 M2 r M1 h => ?_) (by rw [hlen]; exact hrun)
  · have ht : ∀ w ∈ LW, w.before args s = true := fun w hw => hts w (List.mem_cons_of_mem _ hw)
    refine ⟨?_, ?_, ?_, ?_, ?_, ?_, ?_, ?_, ?_⟩
    · exact tf_nil
    · intro idx ci k key ty h
      unfold X_Net_init at h
      dsimp only [xG] at h
      split at h
      · cases h
        exact tf (r := (R_Net, F_Net, 3)) ht rfl (by decide) (by decide) rfl rfl cl_Net rfl (mT 29 (by decide +kernel) rfl) (fun _ _ => rfl)
      · cases h
    · exact fun _ _ _ _ _ _ _ _ _ => rfl
    · exact tn_nil
    · intro idx a h hi
      unfold X_Net_init at h
      dsimp only [xA] at h
      split at h
      · cases h
        exact ta (cA := cA 2) ht hNw (by decide) rfl (mT 27 (by decide +kernel) rfl) (List.mem_of_getElem? (i := 2) rfl)
      · cases h
    · exact fun (h : none = some _) => by cases h
    · exact fun (h : none = some _) => by cases h
    · exact fun _ _ (h : none = some _) => by cases h
    · exact fun _ => ⟨ht _ (mT 26 (by decide +kernel) rfl), ht _ (mT 19 (by decide +kernel) rfl), ht _ (mT 20 (by decide +kernel) rfl), Nat.le_of_ble_eq_true rfl, Nat.le_of_ble_eq_true rfl⟩
  · exact False.elim h
theorem le_En_init {ls : List (Option me_V)} {M N : me_M} {v : Option me_V} (h : RUN eL X_En_init 0 ls [] M v N) : mSz M ≤ mSz N ∧ mSl M ≤ mSl N := by
  refine RUN.le (fun pc as M r M1 h => ?_) h
  exact False.elim h
theorem snd_En_init {l : Launch} {B : Nat} {Dd : va_G} {cA : Nat → ClassId} {as : List me_V} {M N : me_M} {v : Option me_V} (hlen : as.length = 1) (hrun : RUN eL X_En_init 0 (as.map some ++ List.replicate (1 - 1) none) [] M v N) : Met l y_En_init (Cond.code y_En_init b_En_init 1 none :: LW) { frames := 1, cells := mSz N - mSz M, slots := mSl N - mSl M, locals := 20 } (me_Pc (mG B Dd cA) as M) (me_Qc (mG B Dd cA) v N) (mSz N - mSz M) (mSl N - mSl M) (fun q => B ≤ q) := by
  refine me_met (X := X_En_init) (el := eL) (G := mG B Dd cA) (cc := b_En_init) (maxL := 1) (ws' := LW) (ret := none) (by decide +kernel) rfl rfl (Or.inl ⟨rfl, rfl⟩) (by omega) rfl mG_CL mG_AT (le_En_init hrun) (fun args s hts hNw => ?_) (fun p e s m args below meth c Q S hK hNw pc as2 M2 r M1 h => ?_) (by rw [hlen]; exact hrun)
  · have ht : ∀ w ∈ LW, w.before args s = true := fun w hw => hts w (List.mem_cons_of_mem _ hw)
    refine ⟨?_, ?_, ?_, ?_, ?_, ?_, ?_, ?_, ?_⟩
    · exact tf_nil
    · exact tf_nil
    · exact fun _ _ _ _ _ _ _ _ _ => rfl
    · exact tn_nil
    · exact ta_nil
    · exact fun (h : none = some _) => by cases h
    · exact fun (h : none = some _) => by cases h
    · exact fun _ _ (h : none = some _) => by cases h
    · exact fun _ => ⟨ht _ (mT 54 (by decide +kernel) rfl), ht _ (mT 19 (by decide +kernel) rfl), ht _ (mT 20 (by decide +kernel) rfl), Nat.le_of_ble_eq_true rfl, Nat.le_of_ble_eq_true rfl⟩
  · exact False.elim h
theorem le_Sto_init {ls : List (Option me_V)} {M N : me_M} {v : Option me_V} (h : RUN eL X_Sto_init 0 ls [] M v N) : mSz M ≤ mSz N ∧ mSl M ≤ mSl N := by
  refine RUN.le (fun pc as M r M1 h => ?_) h
  exact False.elim h
theorem snd_Sto_init {l : Launch} {B : Nat} {Dd : va_G} {cA : Nat → ClassId} {as : List me_V} {M N : me_M} {v : Option me_V} (hlen : as.length = 2) (hrun : RUN eL X_Sto_init 0 (as.map some ++ List.replicate (2 - 2) none) [] M v N) : Met l y_Sto_init (Cond.code y_Sto_init b_Sto_init 2 none :: LW) { frames := 1, cells := mSz N - mSz M, slots := mSl N - mSl M, locals := 20 } (me_Pc (mG B Dd cA) as M) (me_Qc (mG B Dd cA) v N) (mSz N - mSz M) (mSl N - mSl M) (fun q => B ≤ q) := by
  refine me_met (X := X_Sto_init) (el := eL) (G := mG B Dd cA) (cc := b_Sto_init) (maxL := 2) (ws' := LW) (ret := none) (by decide +kernel) rfl rfl (Or.inl ⟨rfl, rfl⟩) (by omega) rfl mG_CL mG_AT (le_Sto_init hrun) (fun args s hts hNw => ?_) (fun p e s m args below meth c Q S hK hNw pc as2 M2 r M1 h => ?_) (by rw [hlen]; exact hrun)
  · have ht : ∀ w ∈ LW, w.before args s = true := fun w hw => hts w (List.mem_cons_of_mem _ hw)
    refine ⟨?_, ?_, ?_, ?_, ?_, ?_, ?_, ?_, ?_⟩
    · exact tf_nil
    · intro idx ci k key ty h
      unfold X_Sto_init at h
      dsimp only [xG] at h
      split at h
      · cases h
        exact tf (r := (R_Sto, F_Sto, 4)) ht rfl (by decide) (by decide) rfl rfl cl_Sto rfl (mT 96 (by decide +kernel) rfl) (fun _ _ => rfl)
      · cases h
        exact tf (r := (R_Sto, F_Sto, 4)) ht rfl (by decide) (by decide) rfl rfl cl_Sto rfl (mT 98 (by decide +kernel) rfl) (fun _ _ => rfl)
      · cases h
    · exact fun _ _ _ _ _ _ _ _ _ => rfl
    · exact tn_nil
    · intro idx a h hi
      unfold X_Sto_init at h
      dsimp only [xA] at h
      split at h
      · omega
      · cases h
    · exact fun _ => ht _ (mT 110 (by decide +kernel) rfl)
    · exact fun (h : none = some _) => by cases h
    · exact fun _ _ (h : none = some _) => by cases h
    · exact fun _ => ⟨ht _ (mT 95 (by decide +kernel) rfl), ht _ (mT 19 (by decide +kernel) rfl), ht _ (mT 20 (by decide +kernel) rfl), Nat.le_of_ble_eq_true rfl, Nat.le_of_ble_eq_true rfl⟩
  · exact False.elim h
theorem le_Rp_init {ls : List (Option me_V)} {M N : me_M} {v : Option me_V} (h : RUN eL X_Rp_init 0 ls [] M v N) : mSz M ≤ mSz N ∧ mSl M ≤ mSl N := by
  refine RUN.le (fun pc as M r M1 h => ?_) h
  unfold X_Rp_init at h
  dsimp only [xCall] at h
  split at h
  · exact le_En_init h.2.2
  · exact le_Sto_init h.2.2
  · exact h.elim
theorem snd_Rp_init {l : Launch} {B : Nat} {Dd : va_G} {cA : Nat → ClassId} {as : List me_V} {M N : me_M} {v : Option me_V} (hlen : as.length = 4) (hrun : RUN eL X_Rp_init 0 (as.map some ++ List.replicate (5 - 4) none) [] M v N) : Met l y_Rp_init (Cond.code y_Rp_init b_Rp_init 5 none :: LW) { frames := 2, cells := mSz N - mSz M, slots := mSl N - mSl M, locals := 41 } (me_Pc (mG B Dd cA) as M) (me_Qc (mG B Dd cA) v N) (mSz N - mSz M) (mSl N - mSl M) (fun q => B ≤ q) := by
  refine me_met (X := X_Rp_init) (el := eL) (G := mG B Dd cA) (cc := b_Rp_init) (maxL := 5) (ws' := LW) (ret := none) (by decide +kernel) rfl rfl (Or.inl ⟨rfl, rfl⟩) (by omega) rfl mG_CL mG_AT (le_Rp_init hrun) (fun args s hts hNw => ?_) (fun p e s m args below meth c Q S hK hNw pc as2 M2 r M1 h => ?_) (by rw [hlen]; exact hrun)
  · have ht : ∀ w ∈ LW, w.before args s = true := fun w hw => hts w (List.mem_cons_of_mem _ hw)
    refine ⟨?_, ?_, ?_, ?_, ?_, ?_, ?_, ?_, ?_⟩
    · intro idx ci k key ty h
      unfold X_Rp_init at h
      dsimp only [xF] at h
      split at h
      · cases h
        exact tf (r := (R_Rp, F_Rp, 8)) ht rfl (by decide) (by decide) rfl rfl cl_Rp rfl (mT 115 (by decide +kernel) rfl) (fun _ h => h.elim)
      · cases h
    · intro idx ci k key ty h
      unfold X_Rp_init at h
      dsimp only [xG] at h
      split at h
      · cases h
        exact tf (r := (R_Rp, F_Rp, 8)) ht rfl (by decide) (by decide) rfl rfl cl_Rp rfl (mT 111 (by decide +kernel) rfl) (fun _ _ => rfl)
      · cases h
        exact tf (r := (R_Rp, F_Rp, 8)) ht rfl (by decide) (by decide) rfl rfl cl_Rp rfl (mT 112 (by decide +kernel) rfl) (fun _ _ => rfl)
      · cases h
        exact tf (r := (R_Rp, F_Rp, 8)) ht rfl (by decide) (by decide) rfl rfl cl_Rp rfl (mT 113 (by decide +kernel) rfl) (fun _ _ => rfl)
      · cases h
        exact tf (r := (R_Rp, F_Rp, 8)) ht rfl (by decide) (by decide) rfl rfl cl_Rp rfl (mT 114 (by decide +kernel) rfl) (fun _ _ => rfl)
      · cases h
        exact tf (r := (R_Rp, F_Rp, 8)) ht rfl (by decide) (by decide) rfl rfl cl_Rp rfl (mT 115 (by decide +kernel) rfl) (fun _ _ => rfl)
      · cases h
        exact tf (r := (R_Rp, F_Rp, 8)) ht rfl (by decide) (by decide) rfl rfl cl_Rp rfl (mT 117 (by decide +kernel) rfl) (fun _ _ => rfl)
      · cases h
        exact tf (r := (R_Rp, F_Rp, 8)) ht rfl (by decide) (by decide) rfl rfl cl_Rp rfl (mT 118 (by decide +kernel) rfl) (fun _ _ => rfl)
      · cases h
    · exact fun _ _ _ _ _ _ _ _ _ => rfl
    · intro idx ci n h
      unfold X_Rp_init at h
      dsimp only [xN] at h
      split at h
      · cases h
        exact tn (r := (R_En, F_En, 6)) ht rfl (by decide) rfl cl_En (mT 48 (by decide +kernel) rfl) (mT 50 (by decide +kernel) rfl) (mT 4 (by decide +kernel) rfl)
      · cases h
        exact tn (r := (R_Sto, F_Sto, 4)) ht rfl (by decide) rfl cl_Sto (mT 90 (by decide +kernel) rfl) (mT 91 (by decide +kernel) rfl) (mT 5 (by decide +kernel) rfl)
      · cases h
    · intro idx a h hi
      unfold X_Rp_init at h
      dsimp only [xA] at h
      split at h
      · cases h
        exact ta (cA := cA 4) ht hNw (by decide) rfl (mT 48 (by decide +kernel) rfl) (List.mem_of_getElem? (i := 4) rfl)
      · cases h
        exact ta (cA := cA 5) ht hNw (by decide) rfl (mT 88 (by decide +kernel) rfl) (List.mem_of_getElem? (i := 5) rfl)
      · cases h
    · exact fun (h : none = some _) => by cases h
    · exact fun (h : none = some _) => by cases h
    · exact fun _ _ (h : none = some _) => by cases h
    · exact fun _ => ⟨ht _ (mT 47 (by decide +kernel) rfl), ht _ (mT 19 (by decide +kernel) rfl), ht _ (mT 20 (by decide +kernel) rfl), Nat.le_of_ble_eq_true rfl, Nat.le_of_ble_eq_true rfl⟩
  · unfold X_Rp_init at h
    dsimp only [xCall] at h
    split at h
    · obtain ⟨⟨b0, t0, rfl, hk0⟩, hn0, hr0⟩ := h
      exact me_crIN (host := "LeaderlessMap") S hK mG_NW hNw (snd_En_init hn0 hr0) (le_En_init hr0).1 (le_En_init hr0).2 ⟨va_cnB 0 S.2.2.2.2 (gI cI (mT 53 (by decide +kernel) rfl)) rfl rfl rfl (hNw _ (List.mem_of_getElem? (i := 1) rfl)) (S.2.2.2.2 _ (cI _ (mT 4 (by decide +kernel) rfl))) (by decide +kernel) ⟨Nat.le_of_ble_eq_true rfl, Nat.le_of_ble_eq_true rfl⟩, rfl, S.2.2.2.2 _ (cI _ (mT 52 (by decide +kernel) rfl))⟩ (by simp only [List.length_cons] at hn0; omega) d_Rp_init_60
    · obtain ⟨⟨b0, t0, rfl, hk0⟩, hn0, hr0⟩ := h
      exact me_crI S hK mG_NW hNw (snd_Sto_init hn0 hr0) (le_Sto_init hr0).1 (le_Sto_init hr0).2 (cwI 1 S.2.2.2.2 (gI cI (mT 94 (by decide +kernel) rfl)) rfl rfl rfl (S.2.2.2.2 _ (cI _ (mT 5 (by decide +kernel) rfl))) (S.2.2.2.2 _ (cI _ (mT 92 (by decide +kernel) rfl))) (S.2.2.2.2 _ (cI _ (mT 93 (by decide +kernel) rfl))) rfl (by decide +kernel) ⟨Nat.le_of_ble_eq_true rfl, Nat.le_of_ble_eq_true rfl⟩) (by simp only [List.length_cons] at hn0; omega) d_Rp_init_92
    · exact h.elim
theorem le_LM_init {ls : List (Option me_V)} {M N : me_M} {v : Option me_V} (h : RUN eL X_LM_init 0 ls [] M v N) : mSz M ≤ mSz N ∧ mSl M ≤ mSl N := by
  refine RUN.le (fun pc as M r M1 h => ?_) h
  unfold X_LM_init at h
  dsimp only [xCall] at h
  split at h
  · exact le_Net_init h.2.2
  · exact le_Rp_init h.2.2
  · exact h.elim
theorem snd_LM_init {l : Launch} {B : Nat} {Dd : va_G} {cA : Nat → ClassId} {as : List me_V} {M N : me_M} {v : Option me_V} (hlen : as.length = 2) (hrun : RUN eL X_LM_init 0 (as.map some ++ List.replicate (3 - 2) none) [] M v N) : Met l y_LM_init (Cond.code y_LM_init b_LM_init 3 none :: LW) { frames := 3, cells := mSz N - mSz M, slots := mSl N - mSl M, locals := 65 } (me_Pc (mG B Dd cA) as M) (me_Qc (mG B Dd cA) v N) (mSz N - mSz M) (mSl N - mSl M) (fun q => B ≤ q) := by
  refine me_met (X := X_LM_init) (el := eL) (G := mG B Dd cA) (cc := b_LM_init) (maxL := 3) (ws' := LW) (ret := none) (by decide +kernel) rfl rfl (Or.inl ⟨rfl, rfl⟩) (by omega) rfl mG_CL mG_AT (le_LM_init hrun) (fun args s hts hNw => ?_) (fun p e s m args below meth c Q S hK hNw pc as2 M2 r M1 h => ?_) (by rw [hlen]; exact hrun)
  · have ht : ∀ w ∈ LW, w.before args s = true := fun w hw => hts w (List.mem_cons_of_mem _ hw)
    refine ⟨?_, ?_, ?_, ?_, ?_, ?_, ?_, ?_, ?_⟩
    · intro idx ci k key ty h
      unfold X_LM_init at h
      dsimp only [xF] at h
      split at h
      · cases h
        exact tf (r := (R_LM, F_LM, 5)) ht rfl (by decide) (by decide) rfl rfl cl_LM rfl (mT 139 (by decide +kernel) rfl) (fun _ h => h.elim)
      · cases h
        exact tf (r := (R_LM, F_LM, 5)) ht rfl (by decide) (by decide) rfl rfl cl_LM rfl (mT 141 (by decide +kernel) rfl) (fun _ h => h.elim)
      · cases h
        exact tf (r := (R_LM, F_LM, 5)) ht rfl (by decide) (by decide) rfl rfl cl_LM rfl (mT 142 (by decide +kernel) rfl) (fun _ h => h.elim)
      · cases h
    · intro idx ci k key ty h
      unfold X_LM_init at h
      dsimp only [xG] at h
      split at h
      · cases h
        exact tf (r := (R_LM, F_LM, 5)) ht rfl (by decide) (by decide) rfl rfl cl_LM rfl (mT 139 (by decide +kernel) rfl) (fun _ _ => rfl)
      · cases h
        exact tf (r := (R_LM, F_LM, 5)) ht rfl (by decide) (by decide) rfl rfl cl_LM rfl (mT 140 (by decide +kernel) rfl) (fun _ _ => rfl)
      · cases h
        exact tf (r := (R_LM, F_LM, 5)) ht rfl (by decide) (by decide) rfl rfl cl_LM rfl (mT 141 (by decide +kernel) rfl) (fun _ _ => rfl)
      · cases h
        exact tf (r := (R_LM, F_LM, 5)) ht rfl (by decide) (by decide) rfl rfl cl_LM rfl (mT 142 (by decide +kernel) rfl) (fun _ _ => rfl)
      · cases h
    · exact fun _ _ _ _ _ _ _ _ _ => rfl
    · intro idx ci n h
      unfold X_LM_init at h
      dsimp only [xN] at h
      split at h
      · cases h
        exact tn (r := (R_Net, F_Net, 3)) ht rfl (by decide) rfl cl_Net (mT 21 (by decide +kernel) rfl) (mT 22 (by decide +kernel) rfl) (mT 2 (by decide +kernel) rfl)
      · cases h
        exact tn (r := (R_Rp, F_Rp, 8)) ht rfl (by decide) rfl cl_Rp (mT 41 (by decide +kernel) rfl) (mT 43 (by decide +kernel) rfl) (mT 3 (by decide +kernel) rfl)
      · cases h
    · intro idx a h hi
      unfold X_LM_init at h
      dsimp only [xA] at h
      split at h
      · cases h
        exact ta (cA := cA 3) ht hNw (by decide) rfl (mT 41 (by decide +kernel) rfl) (List.mem_of_getElem? (i := 3) rfl)
      · cases h
    · exact fun (h : none = some _) => by cases h
    · exact fun (h : none = some _) => by cases h
    · exact fun _ _ (h : none = some _) => by cases h
    · exact fun _ => ⟨ht _ (mT 18 (by decide +kernel) rfl), ht _ (mT 19 (by decide +kernel) rfl), ht _ (mT 20 (by decide +kernel) rfl), Nat.le_of_ble_eq_true rfl, Nat.le_of_ble_eq_true rfl⟩
  · unfold X_LM_init at h
    dsimp only [xCall] at h
    split at h
    · obtain ⟨⟨b0, t0, rfl, hk0⟩, hn0, hr0⟩ := h
      exact me_crIN (host := "LeaderlessMap") S hK mG_NW hNw (snd_Net_init hn0 hr0) (le_Net_init hr0).1 (le_Net_init hr0).2 ⟨va_cnB 0 S.2.2.2.2 (gI cI (mT 25 (by decide +kernel) rfl)) rfl rfl rfl (hNw _ (List.mem_of_getElem? (i := 0) rfl)) (S.2.2.2.2 _ (cI _ (mT 2 (by decide +kernel) rfl))) (by decide +kernel) ⟨Nat.le_of_ble_eq_true rfl, Nat.le_of_ble_eq_true rfl⟩, rfl, S.2.2.2.2 _ (cI _ (mT 24 (by decide +kernel) rfl))⟩ (by simp only [List.length_cons] at hn0; omega) d_LM_init_33
    · obtain ⟨⟨b0, t0, rfl, hk0⟩, hn0, hr0⟩ := h
      exact me_crI S hK mG_NW hNw (snd_Rp_init hn0 hr0) (le_Rp_init hr0).1 (le_Rp_init hr0).2 (cwI 3 S.2.2.2.2 (gI cI (mT 46 (by decide +kernel) rfl)) rfl rfl rfl (S.2.2.2.2 _ (cI _ (mT 3 (by decide +kernel) rfl))) (S.2.2.2.2 _ (cI _ (mT 44 (by decide +kernel) rfl))) (S.2.2.2.2 _ (cI _ (mT 45 (by decide +kernel) rfl))) rfl (by decide +kernel) ⟨Nat.le_of_ble_eq_true rfl, Nat.le_of_ble_eq_true rfl⟩) (by simp only [List.length_cons] at hn0; omega) d_LM_init_78
    · exact h.elim
theorem le_LM_isReplica {ls : List (Option me_V)} {M N : me_M} {v : Option me_V} (h : RUN eL X_LM_isReplica 0 ls [] M v N) : mSz M ≤ mSz N ∧ mSl M ≤ mSl N := by
  refine RUN.le (fun pc as M r M1 h => ?_) h
  exact False.elim h
theorem snd_LM_isReplica {l : Launch} {B : Nat} {Dd : va_G} {cA : Nat → ClassId} {as : List me_V} {M N : me_M} {v : Option me_V} (hlen : as.length = 2) (hrun : RUN eL X_LM_isReplica 0 (as.map some ++ List.replicate (2 - 2) none) [] M v N) : Met l y_LM_isReplica (Cond.code y_LM_isReplica b_LM_isReplica 2 (some .boolean) :: LW) { frames := 0, cells := mSz N - mSz M, slots := mSl N - mSl M, locals := 0 } (me_Pc (mG B Dd cA) as M) (me_Qc (mG B Dd cA) v N) (mSz N - mSz M) (mSl N - mSl M) (fun q => B ≤ q) := by
  refine me_met (X := X_LM_isReplica) (el := eL) (G := mG B Dd cA) (cc := b_LM_isReplica) (maxL := 2) (ws' := LW) (ret := (some .boolean)) (by decide +kernel) rfl rfl (Or.inr (Or.inr (Or.inl ⟨rfl, rfl⟩))) (by omega) rfl mG_CL mG_AT (le_LM_isReplica hrun) (fun args s hts hNw => ?_) (fun p e s m args below meth c Q S hK hNw pc as2 M2 r M1 h => ?_) (by rw [hlen]; exact hrun)
  · have ht : ∀ w ∈ LW, w.before args s = true := fun w hw => hts w (List.mem_cons_of_mem _ hw)
    refine ⟨?_, ?_, ?_, ?_, ?_, ?_, ?_, ?_, ?_⟩
    · intro idx ci k key ty h
      unfold X_LM_isReplica at h
      dsimp only [xF] at h
      split at h
      · cases h
        exact tf (r := (R_LM, F_LM, 5)) ht rfl (by decide) (by decide) rfl rfl cl_LM rfl (mT 139 (by decide +kernel) rfl) (fun _ h => h.elim)
      · cases h
    · exact tf_nil
    · exact fun _ _ _ _ _ _ (h : none = some _) => by cases h
    · exact tn_nil
    · exact ta_nil
    · exact fun (h : none = some _) => by cases h
    · exact fun (h : none = some _) => by cases h
    · exact fun _ _ (h : none = some _) => by cases h
    · exact fun h => absurd rfl h
  · exact False.elim h
theorem le_LM_workingReplica {ls : List (Option me_V)} {M N : me_M} {v : Option me_V} (h : RUN eL X_LM_workingReplica 0 ls [] M v N) : mSz M ≤ mSz N ∧ mSl M ≤ mSl N := by
  refine RUN.le (fun pc as M r M1 h => ?_) h
  unfold X_LM_workingReplica at h
  dsimp only [xCall] at h
  split at h
  · exact le_LM_isReplica h.2.2
  · exact h.elim
theorem snd_LM_workingReplica {l : Launch} {B : Nat} {Dd : va_G} {cA : Nat → ClassId} {as : List me_V} {M N : me_M} {v : Option me_V} (hlen : as.length = 2) (hrun : RUN eL X_LM_workingReplica 0 (as.map some ++ List.replicate (2 - 2) none) [] M v N) : Met l y_LM_workingReplica (Cond.code y_LM_workingReplica b_LM_workingReplica 2 (some (.object "LeaderlessMap$Replica")) :: LW) { frames := 1, cells := mSz N - mSz M, slots := mSl N - mSl M, locals := 21 } (me_Pc (mG B Dd cA) as M) (me_Qc (mG B Dd cA) v N) (mSz N - mSz M) (mSl N - mSl M) (fun q => B ≤ q) := by
  refine me_met (X := X_LM_workingReplica) (el := eL) (G := mG B Dd cA) (cc := b_LM_workingReplica) (maxL := 2) (ws' := LW) (ret := (some (.object "LeaderlessMap$Replica"))) (by decide +kernel) rfl rfl (Or.inr (Or.inr (Or.inr ⟨rfl, Or.inl ⟨_, rfl⟩⟩))) (by omega) rfl mG_CL mG_AT (le_LM_workingReplica hrun) (fun args s hts hNw => ?_) (fun p e s m args below meth c Q S hK hNw pc as2 M2 r M1 h => ?_) (by rw [hlen]; exact hrun)
  · have ht : ∀ w ∈ LW, w.before args s = true := fun w hw => hts w (List.mem_cons_of_mem _ hw)
    refine ⟨?_, ?_, ?_, ?_, ?_, ?_, ?_, ?_, ?_⟩
    · intro idx ci k key ty h
      unfold X_LM_workingReplica at h
      dsimp only [xF] at h
      split at h
      · cases h
        exact tf (r := (R_LM, F_LM, 5)) ht rfl (by decide) (by decide) rfl rfl cl_LM rfl (mT 142 (by decide +kernel) rfl) (fun _ h => h.elim)
      · cases h
        exact tf (r := (R_Rp, F_Rp, 8)) ht rfl (by decide) (by decide) rfl rfl cl_Rp rfl (mT 121 (by decide +kernel) rfl) (fun _ h => h.elim)
      · cases h
    · exact tf_nil
    · exact fun _ _ _ _ _ _ (h : none = some _) => by cases h
    · exact tn_nil
    · exact ta_nil
    · exact fun (h : none = some _) => by cases h
    · exact fun (h : none = some _) => by cases h
    · exact fun _ _ (h : none = some _) => by cases h
    · exact fun h => absurd rfl h
  · unfold X_LM_workingReplica at h
    dsimp only [xCall] at h
    split at h
    · obtain ⟨⟨b0, t0, rfl, hk0⟩, hn0, hr0⟩ := h
      exact me_crV S hK mG_NW hNw (snd_LM_isReplica hn0 hr0) (le_LM_isReplica hr0).1 (le_LM_isReplica hr0).2 (cwV (C := R_LM) 1 S.2.2.2.2 (gV cI (mT 166 (by decide +kernel) rfl) (mT 163 (by decide +kernel) rfl) (mT 165 (by decide +kernel) rfl) (mS 1 (by decide +kernel) rfl) (mT 1 (by decide +kernel) rfl)) rfl rfl rfl (by decide +kernel) ⟨Nat.le_of_ble_eq_true rfl, Nat.le_of_ble_eq_true rfl⟩) (by simp only [List.length_cons] at hn0; omega) hk0 (by decide) (q0 := (R_LM, F_LM, 5)) rfl rfl d_LM_workingReplica_2
    · exact h.elim
theorem le_LM_isKey {ls : List (Option me_V)} {M N : me_M} {v : Option me_V} (h : RUN eL X_LM_isKey 0 ls [] M v N) : mSz M ≤ mSz N ∧ mSl M ≤ mSl N := by
  refine RUN.le (fun pc as M r M1 h => ?_) h
  exact False.elim h
theorem snd_LM_isKey {l : Launch} {B : Nat} {Dd : va_G} {cA : Nat → ClassId} {as : List me_V} {M N : me_M} {v : Option me_V} (hlen : as.length = 2) (hrun : RUN eL X_LM_isKey 0 (as.map some ++ List.replicate (2 - 2) none) [] M v N) : Met l y_LM_isKey (Cond.code y_LM_isKey b_LM_isKey 2 (some .boolean) :: LW) { frames := 0, cells := mSz N - mSz M, slots := mSl N - mSl M, locals := 0 } (me_Pc (mG B Dd cA) as M) (me_Qc (mG B Dd cA) v N) (mSz N - mSz M) (mSl N - mSl M) (fun q => B ≤ q) := by
  refine me_met (X := X_LM_isKey) (el := eL) (G := mG B Dd cA) (cc := b_LM_isKey) (maxL := 2) (ws' := LW) (ret := (some .boolean)) (by decide +kernel) rfl rfl (Or.inr (Or.inr (Or.inl ⟨rfl, rfl⟩))) (by omega) rfl mG_CL mG_AT (le_LM_isKey hrun) (fun args s hts hNw => ?_) (fun p e s m args below meth c Q S hK hNw pc as2 M2 r M1 h => ?_) (by rw [hlen]; exact hrun)
  · have ht : ∀ w ∈ LW, w.before args s = true := fun w hw => hts w (List.mem_cons_of_mem _ hw)
    refine ⟨?_, ?_, ?_, ?_, ?_, ?_, ?_, ?_, ?_⟩
    · exact tf_nil
    · exact tf_nil
    · exact fun _ _ _ _ _ _ (h : none = some _) => by cases h
    · exact tn_nil
    · exact ta_nil
    · exact fun (h : none = some _) => by cases h
    · exact fun (h : none = some _) => by cases h
    · exact fun _ _ (h : none = some _) => by cases h
    · exact fun h => absurd rfl h
  · exact False.elim h
theorem le_Rp_freeInstance {ls : List (Option me_V)} {M N : me_M} {v : Option me_V} (h : RUN eL X_Rp_freeInstance 0 ls [] M v N) : mSz M ≤ mSz N ∧ mSl M ≤ mSl N := by
  refine RUN.le (fun pc as M r M1 h => ?_) h
  exact False.elim h
theorem snd_Rp_freeInstance {l : Launch} {B : Nat} {Dd : va_G} {cA : Nat → ClassId} {as : List me_V} {M N : me_M} {v : Option me_V} (hlen : as.length = 1) (hrun : RUN eL X_Rp_freeInstance 0 (as.map some ++ List.replicate (3 - 1) none) [] M v N) : Met l y_Rp_freeInstance (Cond.code y_Rp_freeInstance b_Rp_freeInstance 3 (some .int) :: LW) { frames := 0, cells := mSz N - mSz M, slots := mSl N - mSl M, locals := 0 } (me_Pc (mG B Dd cA) as M) (me_Qc (mG B Dd cA) v N) (mSz N - mSz M) (mSl N - mSl M) (fun q => B ≤ q) := by
  refine me_met (X := X_Rp_freeInstance) (el := eL) (G := mG B Dd cA) (cc := b_Rp_freeInstance) (maxL := 3) (ws' := LW) (ret := (some .int)) (by decide +kernel) rfl rfl (Or.inr (Or.inl ⟨rfl, rfl⟩)) (by omega) rfl mG_CL mG_AT (le_Rp_freeInstance hrun) (fun args s hts hNw => ?_) (fun p e s m args below meth c Q S hK hNw pc as2 M2 r M1 h => ?_) (by rw [hlen]; exact hrun)
  · have ht : ∀ w ∈ LW, w.before args s = true := fun w hw => hts w (List.mem_cons_of_mem _ hw)
    refine ⟨?_, ?_, ?_, ?_, ?_, ?_, ?_, ?_, ?_⟩
    · intro idx ci k key ty h
      unfold X_Rp_freeInstance at h
      dsimp only [xF] at h
      split at h
      · cases h
        exact tf (r := (R_Rp, F_Rp, 8)) ht rfl (by decide) (by decide) rfl rfl cl_Rp rfl (mT 111 (by decide +kernel) rfl) (fun _ h => h.elim)
      · cases h
        exact tf (r := (R_Rp, F_Rp, 8)) ht rfl (by decide) (by decide) rfl rfl cl_Rp rfl (mT 115 (by decide +kernel) rfl) (fun _ h => h.elim)
      · cases h
        exact tf (r := (R_En, F_En, 6)) ht rfl (by decide) (by decide) rfl rfl cl_En rfl (mT 57 (by decide +kernel) rfl) (fun _ h => h.elim)
      · cases h
        exact tf (r := (R_En, F_En, 6)) ht rfl (by decide) (by decide) rfl rfl cl_En rfl (mT 65 (by decide +kernel) rfl) (fun _ h => h.elim)
      · cases h
    · exact tf_nil
    · exact fun _ _ _ _ _ _ (h : none = some _) => by cases h
    · exact tn_nil
    · exact ta_nil
    · exact fun (h : none = some _) => by cases h
    · exact fun (h : none = some _) => by cases h
    · exact fun _ _ (h : none = some _) => by cases h
    · exact fun h => absurd rfl h
  · exact False.elim h
theorem le_Cmd_init {ls : List (Option me_V)} {M N : me_M} {v : Option me_V} (h : RUN eL X_Cmd_init 0 ls [] M v N) : mSz M ≤ mSz N ∧ mSl M ≤ mSl N := by
  refine RUN.le (fun pc as M r M1 h => ?_) h
  exact False.elim h
theorem snd_Cmd_init {l : Launch} {B : Nat} {Dd : va_G} {cA : Nat → ClassId} {as : List me_V} {M N : me_M} {v : Option me_V} (hlen : as.length = 4) (hrun : RUN eL X_Cmd_init 0 (as.map some ++ List.replicate (4 - 4) none) [] M v N) : Met l y_Cmd_init (Cond.code y_Cmd_init b_Cmd_init 4 none :: LW) { frames := 1, cells := mSz N - mSz M, slots := mSl N - mSl M, locals := 20 } (me_Pc (mG B Dd cA) as M) (me_Qc (mG B Dd cA) v N) (mSz N - mSz M) (mSl N - mSl M) (fun q => B ≤ q) := by
  refine me_met (X := X_Cmd_init) (el := eL) (G := mG B Dd cA) (cc := b_Cmd_init) (maxL := 4) (ws' := LW) (ret := none) (by decide +kernel) rfl rfl (Or.inl ⟨rfl, rfl⟩) (by omega) rfl mG_CL mG_AT (le_Cmd_init hrun) (fun args s hts hNw => ?_) (fun p e s m args below meth c Q S hK hNw pc as2 M2 r M1 h => ?_) (by rw [hlen]; exact hrun)
  · have ht : ∀ w ∈ LW, w.before args s = true := fun w hw => hts w (List.mem_cons_of_mem _ hw)
    refine ⟨?_, ?_, ?_, ?_, ?_, ?_, ?_, ?_, ?_⟩
    · exact tf_nil
    · intro idx ci k key ty h
      unfold X_Cmd_init at h
      dsimp only [xG] at h
      split at h
      · cases h
        exact tf (r := (R_Cmd, F_Cmd, 3)) ht rfl (by decide) (by decide) rfl rfl cl_Cmd rfl (mT 181 (by decide +kernel) rfl) (fun _ _ => rfl)
      · cases h
        exact tf (r := (R_Cmd, F_Cmd, 3)) ht rfl (by decide) (by decide) rfl rfl cl_Cmd rfl (mT 183 (by decide +kernel) rfl) (fun _ _ => rfl)
      · cases h
        exact tf (r := (R_Cmd, F_Cmd, 3)) ht rfl (by decide) (by decide) rfl rfl cl_Cmd rfl (mT 185 (by decide +kernel) rfl) (fun _ _ => rfl)
      · cases h
    · exact fun _ _ _ _ _ _ _ _ _ => rfl
    · exact tn_nil
    · exact ta_nil
    · exact fun (h : none = some _) => by cases h
    · exact fun (h : none = some _) => by cases h
    · exact fun _ _ (h : none = some _) => by cases h
    · exact fun _ => ⟨ht _ (mT 180 (by decide +kernel) rfl), ht _ (mT 19 (by decide +kernel) rfl), ht _ (mT 20 (by decide +kernel) rfl), Nat.le_of_ble_eq_true rfl, Nat.le_of_ble_eq_true rfl⟩
  · exact False.elim h
theorem le_Or_init {ls : List (Option me_V)} {M N : me_M} {v : Option me_V} (h : RUN eL X_Or_init 0 ls [] M v N) : mSz M ≤ mSz N ∧ mSl M ≤ mSl N := by
  refine RUN.le (fun pc as M r M1 h => ?_) h
  exact False.elim h
theorem snd_Or_init {l : Launch} {B : Nat} {Dd : va_G} {cA : Nat → ClassId} {as : List me_V} {M N : me_M} {v : Option me_V} (hlen : as.length = 4) (hrun : RUN eL X_Or_init 0 (as.map some ++ List.replicate (4 - 4) none) [] M v N) : Met l y_Or_init (Cond.code y_Or_init b_Or_init 4 none :: LW) { frames := 1, cells := mSz N - mSz M, slots := mSl N - mSl M, locals := 20 } (me_Pc (mG B Dd cA) as M) (me_Qc (mG B Dd cA) v N) (mSz N - mSz M) (mSl N - mSl M) (fun q => B ≤ q) := by
  refine me_met (X := X_Or_init) (el := eL) (G := mG B Dd cA) (cc := b_Or_init) (maxL := 4) (ws' := LW) (ret := none) (by decide +kernel) rfl rfl (Or.inl ⟨rfl, rfl⟩) (by omega) rfl mG_CL mG_AT (le_Or_init hrun) (fun args s hts hNw => ?_) (fun p e s m args below meth c Q S hK hNw pc as2 M2 r M1 h => ?_) (by rw [hlen]; exact hrun)
  · have ht : ∀ w ∈ LW, w.before args s = true := fun w hw => hts w (List.mem_cons_of_mem _ hw)
    refine ⟨?_, ?_, ?_, ?_, ?_, ?_, ?_, ?_, ?_⟩
    · exact tf_nil
    · intro idx ci k key ty h
      unfold X_Or_init at h
      dsimp only [xG] at h
      split at h
      · cases h
        exact tf (r := (R_Or, F_Or, 3)) ht rfl (by decide) (by decide) rfl rfl cl_Or rfl (mT 204 (by decide +kernel) rfl) (fun _ _ => rfl)
      · cases h
        exact tf (r := (R_Or, F_Or, 3)) ht rfl (by decide) (by decide) rfl rfl cl_Or rfl (mT 208 (by decide +kernel) rfl) (fun _ _ => rfl)
      · cases h
        exact tf (r := (R_Or, F_Or, 3)) ht rfl (by decide) (by decide) rfl rfl cl_Or rfl (mT 213 (by decide +kernel) rfl) (fun _ _ => rfl)
      · cases h
    · exact fun _ _ _ _ _ _ _ _ _ => rfl
    · exact tn_nil
    · exact ta_nil
    · exact fun (h : none = some _) => by cases h
    · exact fun (h : none = some _) => by cases h
    · exact fun _ _ (h : none = some _) => by cases h
    · exact fun _ => ⟨ht _ (mT 203 (by decide +kernel) rfl), ht _ (mT 19 (by decide +kernel) rfl), ht _ (mT 20 (by decide +kernel) rfl), Nat.le_of_ble_eq_true rfl, Nat.le_of_ble_eq_true rfl⟩
  · exact False.elim h
theorem le_Cmd_interferesWith {ls : List (Option me_V)} {M N : me_M} {v : Option me_V} (h : RUN eL X_Cmd_interferesWith 0 ls [] M v N) : mSz M ≤ mSz N ∧ mSl M ≤ mSl N := by
  refine RUN.le (fun pc as M r M1 h => ?_) h
  exact False.elim h
theorem snd_Cmd_interferesWith {l : Launch} {B : Nat} {Dd : va_G} {cA : Nat → ClassId} {as : List me_V} {M N : me_M} {v : Option me_V} (hlen : as.length = 2) (hrun : RUN eL X_Cmd_interferesWith 0 (as.map some ++ List.replicate (2 - 2) none) [] M v N) : Met l y_Cmd_interferesWith (Cond.code y_Cmd_interferesWith b_Cmd_interferesWith 2 (some .boolean) :: LW) { frames := 0, cells := mSz N - mSz M, slots := mSl N - mSl M, locals := 0 } (me_Pc (mG B Dd cA) as M) (me_Qc (mG B Dd cA) v N) (mSz N - mSz M) (mSl N - mSl M) (fun q => B ≤ q) := by
  refine me_met (X := X_Cmd_interferesWith) (el := eL) (G := mG B Dd cA) (cc := b_Cmd_interferesWith) (maxL := 2) (ws' := LW) (ret := (some .boolean)) (by decide +kernel) rfl rfl (Or.inr (Or.inr (Or.inl ⟨rfl, rfl⟩))) (by omega) rfl mG_CL mG_AT (le_Cmd_interferesWith hrun) (fun args s hts hNw => ?_) (fun p e s m args below meth c Q S hK hNw pc as2 M2 r M1 h => ?_) (by rw [hlen]; exact hrun)
  · have ht : ∀ w ∈ LW, w.before args s = true := fun w hw => hts w (List.mem_cons_of_mem _ hw)
    refine ⟨?_, ?_, ?_, ?_, ?_, ?_, ?_, ?_, ?_⟩
    · intro idx ci k key ty h
      unfold X_Cmd_interferesWith at h
      dsimp only [xF] at h
      split at h
      · cases h
        exact tf (r := (R_Cmd, F_Cmd, 3)) ht rfl (by decide) (by decide) rfl rfl cl_Cmd rfl (mT 181 (by decide +kernel) rfl) (fun _ h => h.elim)
      · cases h
        exact tf (r := (R_Cmd, F_Cmd, 3)) ht rfl (by decide) (by decide) rfl rfl cl_Cmd rfl (mT 183 (by decide +kernel) rfl) (fun _ h => h.elim)
      · cases h
    · exact tf_nil
    · exact fun _ _ _ _ _ _ (h : none = some _) => by cases h
    · exact tn_nil
    · exact ta_nil
    · exact fun (h : none = some _) => by cases h
    · exact fun (h : none = some _) => by cases h
    · exact fun _ _ (h : none = some _) => by cases h
    · exact fun h => absurd rfl h
  · exact False.elim h
theorem le_Rp_fitted {ls : List (Option me_V)} {M N : me_M} {v : Option me_V} (h : RUN eL X_Rp_fitted 0 ls [] M v N) : mSz M ≤ mSz N ∧ mSl M ≤ mSl N := by
  refine RUN.le (fun pc as M r M1 h => ?_) h
  unfold X_Rp_fitted at h
  dsimp only [xCall] at h
  split at h
  · exact le_Cmd_interferesWith h.2.2
  · obtain ⟨_, _, _, _, e⟩ := h
    rw [e]; exact ⟨Nat.le_refl _, Nat.le_refl _⟩
  · exact le_Or_init h.2.2
  · exact h.elim
theorem snd_Rp_fitted {l : Launch} {B : Nat} {Dd : va_G} {cA : Nat → ClassId} {as : List me_V} {M N : me_M} {v : Option me_V} (hlen : as.length = 3) (hrun : RUN eL X_Rp_fitted 0 (as.map some ++ List.replicate (7 - 3) none) [] M v N) : Met l y_Rp_fitted (Cond.code y_Rp_fitted b_Rp_fitted 7 (some (.object "LeaderlessMap$Order")) :: LW) { frames := 2, cells := mSz N - mSz M, slots := mSl N - mSl M, locals := 43 } (me_Pc (mG B Dd cA) as M) (me_Qc (mG B Dd cA) v N) (mSz N - mSz M) (mSl N - mSl M) (fun q => B ≤ q) := by
  refine me_met (X := X_Rp_fitted) (el := eL) (G := mG B Dd cA) (cc := b_Rp_fitted) (maxL := 7) (ws' := LW) (ret := (some (.object "LeaderlessMap$Order"))) (by decide +kernel) rfl rfl (Or.inr (Or.inr (Or.inr ⟨rfl, Or.inl ⟨_, rfl⟩⟩))) (by omega) rfl mG_CL mG_AT (le_Rp_fitted hrun) (fun args s hts hNw => ?_) (fun p e s m args below meth c Q S hK hNw pc as2 M2 r M1 h => ?_) (by rw [hlen]; exact hrun)
  · have ht : ∀ w ∈ LW, w.before args s = true := fun w hw => hts w (List.mem_cons_of_mem _ hw)
    refine ⟨?_, ?_, ?_, ?_, ?_, ?_, ?_, ?_, ?_⟩
    · intro idx ci k key ty h
      unfold X_Rp_fitted at h
      dsimp only [xF] at h
      split at h
      · cases h
        exact tf (r := (R_Rp, F_Rp, 8)) ht rfl (by decide) (by decide) rfl rfl cl_Rp rfl (mT 115 (by decide +kernel) rfl) (fun _ h => h.elim)
      · cases h
        exact tf (r := (R_En, F_En, 6)) ht rfl (by decide) (by decide) rfl rfl cl_En rfl (mT 63 (by decide +kernel) rfl) (fun _ h => h.elim)
      · cases h
        exact tf (r := (R_Or, F_Or, 3)) ht rfl (by decide) (by decide) rfl rfl cl_Or rfl (mT 205 (by decide +kernel) rfl) (fun _ h => h.elim)
      · cases h
        exact tf (r := (R_Or, F_Or, 3)) ht rfl (by decide) (by decide) rfl rfl cl_Or rfl (mT 212 (by decide +kernel) rfl) (fun _ h => h.elim)
      · cases h
        exact tf (r := (R_Or, F_Or, 3)) ht rfl (by decide) (by decide) rfl rfl cl_Or rfl (mT 217 (by decide +kernel) rfl) (fun _ h => h.elim)
      · cases h
    · exact tf_nil
    · exact fun _ _ _ _ _ _ (h : none = some _) => by cases h
    · intro idx ci n h
      unfold X_Rp_fitted at h
      dsimp only [xN] at h
      split at h
      · cases h
        exact tn (r := (R_Or, F_Or, 3)) ht rfl (by decide) rfl cl_Or (mT 198 (by decide +kernel) rfl) (mT 199 (by decide +kernel) rfl) (mT 8 (by decide +kernel) rfl)
      · cases h
    · exact ta_nil
    · exact fun (h : none = some _) => by cases h
    · exact fun (h : none = some _) => by cases h
    · exact fun _ _ (h : none = some _) => by cases h
    · exact fun h => absurd rfl h
  · unfold X_Rp_fitted at h
    dsimp only [xCall] at h
    split at h
    · obtain ⟨⟨b0, t0, rfl, hk0⟩, hn0, hr0⟩ := h
      exact me_crV S hK mG_NW hNw (snd_Cmd_interferesWith hn0 hr0) (le_Cmd_interferesWith hr0).1 (le_Cmd_interferesWith hr0).2 (cwV (C := R_Cmd) 1 S.2.2.2.2 (gV cI (mT 232 (by decide +kernel) rfl) (mT 229 (by decide +kernel) rfl) (mT 230 (by decide +kernel) rfl) (mT 231 (by decide +kernel) rfl) (mT 7 (by decide +kernel) rfl)) rfl rfl rfl (by decide +kernel) ⟨Nat.le_of_ble_eq_true rfl, Nat.le_of_ble_eq_true rfl⟩) (by simp only [List.length_cons] at hn0; omega) hk0 (by decide) (q0 := (R_Cmd, F_Cmd, 3)) rfl rfl d_Rp_fitted_56
    · exact me_crMax S cI (mT 233 (by decide +kernel) rfl) (mT 234 (by decide +kernel) rfl) (mT 9 (by decide +kernel) rfl) (mT 235 (by decide +kernel) rfl) (Nat.le_of_ble_eq_true rfl) (Nat.le_of_ble_eq_true rfl) d_Rp_fitted_70 h
    · obtain ⟨⟨b0, t0, rfl, hk0⟩, hn0, hr0⟩ := h
      exact me_crI S hK mG_NW hNw (snd_Or_init hn0 hr0) (le_Or_init hr0).1 (le_Or_init hr0).2 (cwI 3 S.2.2.2.2 (gI cI (mT 202 (by decide +kernel) rfl)) rfl rfl rfl (S.2.2.2.2 _ (cI _ (mT 8 (by decide +kernel) rfl))) (S.2.2.2.2 _ (cI _ (mT 200 (by decide +kernel) rfl))) (S.2.2.2.2 _ (cI _ (mT 201 (by decide +kernel) rfl))) rfl (by decide +kernel) ⟨Nat.le_of_ble_eq_true rfl, Nat.le_of_ble_eq_true rfl⟩) (by simp only [List.length_cons] at hn0; omega) d_Rp_fitted_100
    · exact h.elim
theorem le_En_become {ls : List (Option me_V)} {M N : me_M} {v : Option me_V} (h : RUN eL X_En_become 0 ls [] M v N) : mSz M ≤ mSz N ∧ mSl M ≤ mSl N := by
  refine RUN.le (fun pc as M r M1 h => ?_) h
  exact False.elim h
theorem snd_En_become {l : Launch} {B : Nat} {Dd : va_G} {cA : Nat → ClassId} {as : List me_V} {M N : me_M} {v : Option me_V} (hlen : as.length = 3) (hrun : RUN eL X_En_become 0 (as.map some ++ List.replicate (3 - 3) none) [] M v N) : Met l y_En_become (Cond.code y_En_become b_En_become 3 none :: LW) { frames := 0, cells := mSz N - mSz M, slots := mSl N - mSl M, locals := 0 } (me_Pc (mG B Dd cA) as M) (me_Qc (mG B Dd cA) v N) (mSz N - mSz M) (mSl N - mSl M) (fun q => B ≤ q) := by
  refine me_met (X := X_En_become) (el := eL) (G := mG B Dd cA) (cc := b_En_become) (maxL := 3) (ws' := LW) (ret := none) (by decide +kernel) rfl rfl (Or.inl ⟨rfl, rfl⟩) (by omega) rfl mG_CL mG_AT (le_En_become hrun) (fun args s hts hNw => ?_) (fun p e s m args below meth c Q S hK hNw pc as2 M2 r M1 h => ?_) (by rw [hlen]; exact hrun)
  · have ht : ∀ w ∈ LW, w.before args s = true := fun w hw => hts w (List.mem_cons_of_mem _ hw)
    refine ⟨?_, ?_, ?_, ?_, ?_, ?_, ?_, ?_, ?_⟩
    · exact tf_nil
    · intro idx ci k key ty h
      unfold X_En_become at h
      dsimp only [xG] at h
      split at h
      · cases h
        exact tf (r := (R_En, F_En, 6)) ht rfl (by decide) (by decide) rfl rfl cl_En rfl (mT 56 (by decide +kernel) rfl) (fun _ _ => rfl)
      · cases h
        exact tf (r := (R_En, F_En, 6)) ht rfl (by decide) (by decide) rfl rfl cl_En rfl (mT 61 (by decide +kernel) rfl) (fun _ _ => rfl)
      · cases h
    · intro idx ci k key ty r h hr hf
      unfold X_En_become at h
      dsimp only [xG] at h
      split at h
      · cases h
        cases hr
        exact absurd hf (by decide)
      · cases h
        cases hr
        exact absurd hf (by decide)
      · cases h
    · exact tn_nil
    · exact ta_nil
    · exact fun (h : none = some _) => by cases h
    · exact fun (h : none = some _) => by cases h
    · exact fun _ _ (h : none = some _) => by cases h
    · exact fun h => absurd rfl h
  · exact False.elim h
theorem le_At_init {ls : List (Option me_V)} {M N : me_M} {v : Option me_V} (h : RUN eL X_At_init 0 ls [] M v N) : mSz M ≤ mSz N ∧ mSl M ≤ mSl N := by
  refine RUN.le (fun pc as M r M1 h => ?_) h
  exact False.elim h
theorem snd_At_init {l : Launch} {B : Nat} {Dd : va_G} {cA : Nat → ClassId} {as : List me_V} {M N : me_M} {v : Option me_V} (hlen : as.length = 5) (hrun : RUN eL X_At_init 0 (as.map some ++ List.replicate (5 - 5) none) [] M v N) : Met l y_At_init (Cond.code y_At_init b_At_init 5 none :: LW) { frames := 1, cells := mSz N - mSz M, slots := mSl N - mSl M, locals := 20 } (me_Pc (mG B Dd cA) as M) (me_Qc (mG B Dd cA) v N) (mSz N - mSz M) (mSl N - mSl M) (fun q => B ≤ q) := by
  refine me_met (X := X_At_init) (el := eL) (G := mG B Dd cA) (cc := b_At_init) (maxL := 5) (ws' := LW) (ret := none) (by decide +kernel) rfl rfl (Or.inl ⟨rfl, rfl⟩) (by omega) rfl mG_CL mG_AT (le_At_init hrun) (fun args s hts hNw => ?_) (fun p e s m args below meth c Q S hK hNw pc as2 M2 r M1 h => ?_) (by rw [hlen]; exact hrun)
  · have ht : ∀ w ∈ LW, w.before args s = true := fun w hw => hts w (List.mem_cons_of_mem _ hw)
    refine ⟨?_, ?_, ?_, ?_, ?_, ?_, ?_, ?_, ?_⟩
    · exact tf_nil
    · intro idx ci k key ty h
      unfold X_At_init at h
      dsimp only [xG] at h
      split at h
      · cases h
        exact tf (r := (R_At, F_At, 8)) ht rfl (by decide) (by decide) rfl rfl cl_At rfl (mT 247 (by decide +kernel) rfl) (fun _ _ => rfl)
      · cases h
        exact tf (r := (R_At, F_At, 8)) ht rfl (by decide) (by decide) rfl rfl cl_At rfl (mT 252 (by decide +kernel) rfl) (fun _ _ => rfl)
      · cases h
        exact tf (r := (R_At, F_At, 8)) ht rfl (by decide) (by decide) rfl rfl cl_At rfl (mT 249 (by decide +kernel) rfl) (fun _ _ => rfl)
      · cases h
        exact tf (r := (R_At, F_At, 8)) ht rfl (by decide) (by decide) rfl rfl cl_At rfl (mT 251 (by decide +kernel) rfl) (fun _ _ => rfl)
      · cases h
    · exact fun _ _ _ _ _ _ _ _ _ => rfl
    · exact tn_nil
    · intro idx a h hi
      unfold X_At_init at h
      dsimp only [xA] at h
      split at h
      · cases h
        exact ta (cA := cA 6) ht hNw (by decide) rfl (mT 245 (by decide +kernel) rfl) (List.mem_of_getElem? (i := 6) rfl)
      · cases h
    · exact fun (h : none = some _) => by cases h
    · exact fun (h : none = some _) => by cases h
    · exact fun _ _ (h : none = some _) => by cases h
    · exact fun _ => ⟨ht _ (mT 244 (by decide +kernel) rfl), ht _ (mT 19 (by decide +kernel) rfl), ht _ (mT 20 (by decide +kernel) rfl), Nat.le_of_ble_eq_true rfl, Nat.le_of_ble_eq_true rfl⟩
  · exact False.elim h
theorem le_Ms_init {ls : List (Option me_V)} {M N : me_M} {v : Option me_V} (h : RUN eL X_Ms_init 0 ls [] M v N) : mSz M ≤ mSz N ∧ mSl M ≤ mSl N := by
  refine RUN.le (fun pc as M r M1 h => ?_) h
  exact False.elim h
theorem snd_Ms_init {l : Launch} {B : Nat} {Dd : va_G} {cA : Nat → ClassId} {as : List me_V} {M N : me_M} {v : Option me_V} (hlen : as.length = 8) (hrun : RUN eL X_Ms_init 0 (as.map some ++ List.replicate (8 - 8) none) [] M v N) : Met l y_Ms_init (Cond.code y_Ms_init b_Ms_init 8 none :: LW) { frames := 1, cells := mSz N - mSz M, slots := mSl N - mSl M, locals := 20 } (me_Pc (mG B Dd cA) as M) (me_Qc (mG B Dd cA) v N) (mSz N - mSz M) (mSl N - mSl M) (fun q => B ≤ q) := by
  refine me_met (X := X_Ms_init) (el := eL) (G := mG B Dd cA) (cc := b_Ms_init) (maxL := 8) (ws' := LW) (ret := none) (by decide +kernel) rfl rfl (Or.inl ⟨rfl, rfl⟩) (by omega) rfl mG_CL mG_AT (le_Ms_init hrun) (fun args s hts hNw => ?_) (fun p e s m args below meth c Q S hK hNw pc as2 M2 r M1 h => ?_) (by rw [hlen]; exact hrun)
  · have ht : ∀ w ∈ LW, w.before args s = true := fun w hw => hts w (List.mem_cons_of_mem _ hw)
    refine ⟨?_, ?_, ?_, ?_, ?_, ?_, ?_, ?_, ?_⟩
    · exact tf_nil
    · intro idx ci k key ty h
      unfold X_Ms_init at h
      dsimp only [xG] at h
      split at h
      · cases h
        exact tf (r := (R_Ms, F_Ms, 7)) ht rfl (by decide) (by decide) rfl rfl cl_Ms rfl (mT 285 (by decide +kernel) rfl) (fun _ _ => rfl)
      · cases h
        exact tf (r := (R_Ms, F_Ms, 7)) ht rfl (by decide) (by decide) rfl rfl cl_Ms rfl (mT 288 (by decide +kernel) rfl) (fun _ _ => rfl)
      · cases h
        exact tf (r := (R_Ms, F_Ms, 7)) ht rfl (by decide) (by decide) rfl rfl cl_Ms rfl (mT 291 (by decide +kernel) rfl) (fun _ _ => rfl)
      · cases h
        exact tf (r := (R_Ms, F_Ms, 7)) ht rfl (by decide) (by decide) rfl rfl cl_Ms rfl (mT 293 (by decide +kernel) rfl) (fun _ _ => rfl)
      · cases h
        exact tf (r := (R_Ms, F_Ms, 7)) ht rfl (by decide) (by decide) rfl rfl cl_Ms rfl (mT 296 (by decide +kernel) rfl) (fun _ _ => rfl)
      · cases h
        exact tf (r := (R_Ms, F_Ms, 7)) ht rfl (by decide) (by decide) rfl rfl cl_Ms rfl (mT 298 (by decide +kernel) rfl) (fun _ _ => rfl)
      · cases h
        exact tf (r := (R_Ms, F_Ms, 7)) ht rfl (by decide) (by decide) rfl rfl cl_Ms rfl (mT 300 (by decide +kernel) rfl) (fun _ _ => rfl)
      · cases h
    · exact fun _ _ _ _ _ _ _ _ _ => rfl
    · exact tn_nil
    · exact ta_nil
    · exact fun (h : none = some _) => by cases h
    · exact fun (h : none = some _) => by cases h
    · exact fun _ _ (h : none = some _) => by cases h
    · exact fun _ => ⟨ht _ (mT 284 (by decide +kernel) rfl), ht _ (mT 19 (by decide +kernel) rfl), ht _ (mT 20 (by decide +kernel) rfl), Nat.le_of_ble_eq_true rfl, Nat.le_of_ble_eq_true rfl⟩
  · exact False.elim h
theorem le_Net_send {ls : List (Option me_V)} {M N : me_M} {v : Option me_V} (h : RUN eL X_Net_send 0 ls [] M v N) : mSz M ≤ mSz N ∧ mSl M ≤ mSl N := by
  refine RUN.le (fun pc as M r M1 h => ?_) h
  exact False.elim h
theorem snd_Net_send {l : Launch} {B : Nat} {Dd : va_G} {cA : Nat → ClassId} {as : List me_V} {M N : me_M} {v : Option me_V} (hlen : as.length = 2) (hrun : RUN eL X_Net_send 0 (as.map some ++ List.replicate (2 - 2) none) [] M v N) : Met l y_Net_send (Cond.code y_Net_send b_Net_send 2 none :: LW) { frames := 0, cells := mSz N - mSz M, slots := mSl N - mSl M, locals := 0 } (me_Pc (mG B Dd cA) as M) (me_Qc (mG B Dd cA) v N) (mSz N - mSz M) (mSl N - mSl M) (fun q => B ≤ q) := by
  refine me_met (X := X_Net_send) (el := eL) (G := mG B Dd cA) (cc := b_Net_send) (maxL := 2) (ws' := LW) (ret := none) (by decide +kernel) rfl rfl (Or.inl ⟨rfl, rfl⟩) (by omega) rfl mG_CL mG_AT (le_Net_send hrun) (fun args s hts hNw => ?_) (fun p e s m args below meth c Q S hK hNw pc as2 M2 r M1 h => ?_) (by rw [hlen]; exact hrun)
  · have ht : ∀ w ∈ LW, w.before args s = true := fun w hw => hts w (List.mem_cons_of_mem _ hw)
    refine ⟨?_, ?_, ?_, ?_, ?_, ?_, ?_, ?_, ?_⟩
    · intro idx ci k key ty h
      unfold X_Net_send at h
      dsimp only [xF] at h
      split at h
      · cases h
        exact tf (r := (R_Net, F_Net, 3)) ht rfl (by decide) (by decide) rfl rfl cl_Net rfl (mT 29 (by decide +kernel) rfl) (fun _ h => h.elim)
      · cases h
        exact tf (r := (R_Net, F_Net, 3)) ht rfl (by decide) (by decide) rfl rfl cl_Net rfl (mT 30 (by decide +kernel) rfl) (fun _ h => h.elim)
      · cases h
        exact tf (r := (R_Net, F_Net, 3)) ht rfl (by decide) (by decide) rfl rfl cl_Net rfl (mT 32 (by decide +kernel) rfl) (fun _ h => h.elim)
      · cases h
    · intro idx ci k key ty h
      unfold X_Net_send at h
      dsimp only [xG] at h
      split at h
      · cases h
        exact tf (r := (R_Net, F_Net, 3)) ht rfl (by decide) (by decide) rfl rfl cl_Net rfl (mT 30 (by decide +kernel) rfl) (fun _ _ => rfl)
      · cases h
        exact tf (r := (R_Net, F_Net, 3)) ht rfl (by decide) (by decide) rfl rfl cl_Net rfl (mT 32 (by decide +kernel) rfl) (fun _ _ => rfl)
      · cases h
    · intro idx ci k key ty r h hr hf
      unfold X_Net_send at h
      dsimp only [xG] at h
      split at h
      · cases h
        cases hr
        exact absurd hf (by decide)
      · cases h
        cases hr
        exact absurd hf (by decide)
      · cases h
    · exact tn_nil
    · exact ta_nil
    · exact fun (h : none = some _) => by cases h
    · exact fun (h : none = some _) => by cases h
    · exact fun _ _ (h : none = some _) => by cases h
    · exact fun h => absurd rfl h
  · exact False.elim h
theorem le_Rp_startCommand {ls : List (Option me_V)} {M N : me_M} {v : Option me_V} (h : RUN eL X_Rp_startCommand 0 ls [] M v N) : mSz M ≤ mSz N ∧ mSl M ≤ mSl N := by
  refine RUN.le (fun pc as M r M1 h => ?_) h
  unfold X_Rp_startCommand at h
  dsimp only [xCall] at h
  split at h
  · exact le_Or_init h.2.2
  · exact le_Rp_fitted h.2.2
  · exact le_En_become h.2.2
  · exact le_At_init h.2.2
  · exact le_Ms_init h.2.2
  · exact le_Net_send h.2.2
  · exact h.elim
theorem snd_Rp_startCommand {l : Launch} {B : Nat} {Dd : va_G} {cA : Nat → ClassId} {as : List me_V} {M N : me_M} {v : Option me_V} (hlen : as.length = 3) (hrun : RUN eL X_Rp_startCommand 0 (as.map some ++ List.replicate (6 - 3) none) [] M v N) : Met l y_Rp_startCommand (Cond.code y_Rp_startCommand b_Rp_startCommand 6 none :: LW) { frames := 3, cells := mSz N - mSz M, slots := mSl N - mSl M, locals := 69 } (me_Pc (mG B Dd cA) as M) (me_Qc (mG B Dd cA) v N) (mSz N - mSz M) (mSl N - mSl M) (fun q => B ≤ q) := by
  refine me_met (X := X_Rp_startCommand) (el := eL) (G := mG B Dd cA) (cc := b_Rp_startCommand) (maxL := 6) (ws' := LW) (ret := none) (by decide +kernel) rfl rfl (Or.inl ⟨rfl, rfl⟩) (by omega) rfl mG_CL mG_AT (le_Rp_startCommand hrun) (fun args s hts hNw => ?_) (fun p e s m args below meth c Q S hK hNw pc as2 M2 r M1 h => ?_) (by rw [hlen]; exact hrun)
  · have ht : ∀ w ∈ LW, w.before args s = true := fun w hw => hts w (List.mem_cons_of_mem _ hw)
    refine ⟨?_, ?_, ?_, ?_, ?_, ?_, ?_, ?_, ?_⟩
    · intro idx ci k key ty h
      unfold X_Rp_startCommand at h
      dsimp only [xF] at h
      split at h
      · cases h
        exact tf (r := (R_Rp, F_Rp, 8)) ht rfl (by decide) (by decide) rfl rfl cl_Rp rfl (mT 111 (by decide +kernel) rfl) (fun _ h => h.elim)
      · cases h
        exact tf (r := (R_Rp, F_Rp, 8)) ht rfl (by decide) (by decide) rfl rfl cl_Rp rfl (mT 112 (by decide +kernel) rfl) (fun _ h => h.elim)
      · cases h
        exact tf (r := (R_Rp, F_Rp, 8)) ht rfl (by decide) (by decide) rfl rfl cl_Rp rfl (mT 114 (by decide +kernel) rfl) (fun _ h => h.elim)
      · cases h
        exact tf (r := (R_Rp, F_Rp, 8)) ht rfl (by decide) (by decide) rfl rfl cl_Rp rfl (mT 115 (by decide +kernel) rfl) (fun _ h => h.elim)
      · cases h
        exact tf (r := (R_Rp, F_Rp, 8)) ht rfl (by decide) (by decide) rfl rfl cl_Rp rfl (mT 117 (by decide +kernel) rfl) (fun _ h => h.elim)
      · cases h
    · exact tf_nil
    · exact fun _ _ _ _ _ _ (h : none = some _) => by cases h
    · intro idx ci n h
      unfold X_Rp_startCommand at h
      dsimp only [xN] at h
      split at h
      · cases h
        exact tn (r := (R_At, F_At, 8)) ht rfl (by decide) rfl cl_At (mT 88 (by decide +kernel) rfl) (mT 240 (by decide +kernel) rfl) (mT 10 (by decide +kernel) rfl)
      · cases h
        exact tn (r := (R_Or, F_Or, 3)) ht rfl (by decide) rfl cl_Or (mT 198 (by decide +kernel) rfl) (mT 199 (by decide +kernel) rfl) (mT 8 (by decide +kernel) rfl)
      · cases h
        exact tn (r := (R_Ms, F_Ms, 7)) ht rfl (by decide) rfl cl_Ms (mT 279 (by decide +kernel) rfl) (mT 280 (by decide +kernel) rfl) (mT 11 (by decide +kernel) rfl)
      · cases h
    · exact ta_nil
    · exact fun (h : none = some _) => by cases h
    · exact fun (h : none = some _) => by cases h
    · exact fun _ _ (h : none = some _) => by cases h
    · exact fun h => absurd rfl h
  · unfold X_Rp_startCommand at h
    dsimp only [xCall] at h
    split at h
    · obtain ⟨⟨b0, t0, rfl, hk0⟩, hn0, hr0⟩ := h
      exact me_crI S hK mG_NW hNw (snd_Or_init hn0 hr0) (le_Or_init hr0).1 (le_Or_init hr0).2 (cwI 3 S.2.2.2.2 (gI cI (mT 202 (by decide +kernel) rfl)) rfl rfl rfl (S.2.2.2.2 _ (cI _ (mT 8 (by decide +kernel) rfl))) (S.2.2.2.2 _ (cI _ (mT 200 (by decide +kernel) rfl))) (S.2.2.2.2 _ (cI _ (mT 201 (by decide +kernel) rfl))) rfl (by decide +kernel) ⟨Nat.le_of_ble_eq_true rfl, Nat.le_of_ble_eq_true rfl⟩) (by simp only [List.length_cons] at hn0; omega) d_Rp_startCommand_9
    · obtain ⟨⟨b0, t0, rfl, hk0⟩, hn0, hr0⟩ := h
      exact me_crV S hK mG_NW hNw (snd_Rp_fitted hn0 hr0) (le_Rp_fitted hr0).1 (le_Rp_fitted hr0).2 (cwV (C := R_Rp) 2 S.2.2.2.2 (gV cI (mT 228 (by decide +kernel) rfl) (mT 225 (by decide +kernel) rfl) (mT 227 (by decide +kernel) rfl) (mS 3 (by decide +kernel) rfl) (mT 3 (by decide +kernel) rfl)) rfl rfl rfl (by decide +kernel) ⟨Nat.le_of_ble_eq_true rfl, Nat.le_of_ble_eq_true rfl⟩) (by simp only [List.length_cons] at hn0; omega) hk0 (by decide) (q0 := (R_Rp, F_Rp, 8)) rfl rfl d_Rp_startCommand_12
    · obtain ⟨⟨b0, t0, rfl, hk0⟩, hn0, hr0⟩ := h
      exact me_crV S hK mG_NW hNw (snd_En_become hn0 hr0) (le_En_become hr0).1 (le_En_become hr0).2 (cwV (C := R_En) 2 S.2.2.2.2 (gV cI (mT 239 (by decide +kernel) rfl) (mT 236 (by decide +kernel) rfl) (mT 237 (by decide +kernel) rfl) (mT 238 (by decide +kernel) rfl) (mT 4 (by decide +kernel) rfl)) rfl rfl rfl (by decide +kernel) ⟨Nat.le_of_ble_eq_true rfl, Nat.le_of_ble_eq_true rfl⟩) (by simp only [List.length_cons] at hn0; omega) hk0 (by decide) (q0 := (R_En, F_En, 6)) rfl rfl d_Rp_startCommand_24
    · obtain ⟨⟨b0, t0, rfl, hk0⟩, hn0, hr0⟩ := h
      exact me_crI S hK mG_NW hNw (snd_At_init hn0 hr0) (le_At_init hr0).1 (le_At_init hr0).2 (cwI 4 S.2.2.2.2 (gI cI (mT 243 (by decide +kernel) rfl)) rfl rfl rfl (S.2.2.2.2 _ (cI _ (mT 10 (by decide +kernel) rfl))) (S.2.2.2.2 _ (cI _ (mT 241 (by decide +kernel) rfl))) (S.2.2.2.2 _ (cI _ (mT 242 (by decide +kernel) rfl))) rfl (by decide +kernel) ⟨Nat.le_of_ble_eq_true rfl, Nat.le_of_ble_eq_true rfl⟩) (by simp only [List.length_cons] at hn0; omega) d_Rp_startCommand_40
    · obtain ⟨⟨b0, t0, rfl, hk0⟩, hn0, hr0⟩ := h
      exact me_crI S hK mG_NW hNw (snd_Ms_init hn0 hr0) (le_Ms_init hr0).1 (le_Ms_init hr0).2 (cwI 7 S.2.2.2.2 (gI cI (mT 283 (by decide +kernel) rfl)) rfl rfl rfl (S.2.2.2.2 _ (cI _ (mT 11 (by decide +kernel) rfl))) (S.2.2.2.2 _ (cI _ (mT 281 (by decide +kernel) rfl))) (S.2.2.2.2 _ (cI _ (mT 282 (by decide +kernel) rfl))) rfl (by decide +kernel) ⟨Nat.le_of_ble_eq_true rfl, Nat.le_of_ble_eq_true rfl⟩) (by simp only [List.length_cons] at hn0; omega) d_Rp_startCommand_91
    · obtain ⟨⟨b0, t0, rfl, hk0⟩, hn0, hr0⟩ := h
      exact me_crV S hK mG_NW hNw (snd_Net_send hn0 hr0) (le_Net_send hr0).1 (le_Net_send hr0).2 (cwV (C := R_Net) 1 S.2.2.2.2 (gV cI (mT 320 (by decide +kernel) rfl) (mT 317 (by decide +kernel) rfl) (mT 318 (by decide +kernel) rfl) (mT 319 (by decide +kernel) rfl) (mT 2 (by decide +kernel) rfl)) rfl rfl rfl (by decide +kernel) ⟨Nat.le_of_ble_eq_true rfl, Nat.le_of_ble_eq_true rfl⟩) (by simp only [List.length_cons] at hn0; omega) hk0 (by decide) (q0 := (R_Net, F_Net, 3)) rfl rfl d_Rp_startCommand_94
    · exact h.elim
theorem le_LM_propose {ls : List (Option me_V)} {M N : me_M} {v : Option me_V} (h : RUN eL X_LM_propose 0 ls [] M v N) : mSz M ≤ mSz N ∧ mSl M ≤ mSl N := by
  refine RUN.le (fun pc as M r M1 h => ?_) h
  unfold X_LM_propose at h
  dsimp only [xCall] at h
  split at h
  · exact le_LM_workingReplica h.2.2
  · exact le_LM_isKey h.2.2
  · exact le_Rp_freeInstance h.2.2
  · exact le_Cmd_init h.2.2
  · exact le_Rp_startCommand h.2.2
  · exact h.elim
theorem snd_LM_propose {l : Launch} {B : Nat} {Dd : va_G} {cA : Nat → ClassId} {as : List me_V} {M N : me_M} {v : Option me_V} (hlen : as.length = 5) (hrun : RUN eL X_LM_propose 0 (as.map some ++ List.replicate (7 - 5) none) [] M v N) : Met l y_LM_propose (Cond.code y_LM_propose b_LM_propose 7 (some .int) :: LW) { frames := 4, cells := mSz N - mSz M, slots := mSl N - mSl M, locals := 94 } (me_Pc (mG B Dd cA) as M) (me_Qc (mG B Dd cA) v N) (mSz N - mSz M) (mSl N - mSl M) (fun q => B ≤ q) := by
  refine me_met (X := X_LM_propose) (el := eL) (G := mG B Dd cA) (cc := b_LM_propose) (maxL := 7) (ws' := LW) (ret := (some .int)) (by decide +kernel) rfl rfl (Or.inr (Or.inl ⟨rfl, rfl⟩)) (by omega) rfl mG_CL mG_AT (le_LM_propose hrun) (fun args s hts hNw => ?_) (fun p e s m args below meth c Q S hK hNw pc as2 M2 r M1 h => ?_) (by rw [hlen]; exact hrun)
  · have ht : ∀ w ∈ LW, w.before args s = true := fun w hw => hts w (List.mem_cons_of_mem _ hw)
    refine ⟨?_, ?_, ?_, ?_, ?_, ?_, ?_, ?_, ?_⟩
    · exact tf_nil
    · exact tf_nil
    · exact fun _ _ _ _ _ _ (h : none = some _) => by cases h
    · intro idx ci n h
      unfold X_LM_propose at h
      dsimp only [xN] at h
      split at h
      · cases h
        exact tn (r := (R_Cmd, F_Cmd, 3)) ht rfl (by decide) rfl cl_Cmd (mT 175 (by decide +kernel) rfl) (mT 176 (by decide +kernel) rfl) (mT 7 (by decide +kernel) rfl)
      · cases h
    · exact ta_nil
    · exact fun (h : none = some _) => by cases h
    · exact fun (h : none = some _) => by cases h
    · exact fun _ _ (h : none = some _) => by cases h
    · exact fun h => absurd rfl h
  · unfold X_LM_propose at h
    dsimp only [xCall] at h
    split at h
    · obtain ⟨⟨b0, t0, rfl, hk0⟩, hn0, hr0⟩ := h
      exact me_crV S hK mG_NW hNw (snd_LM_workingReplica hn0 hr0) (le_LM_workingReplica hr0).1 (le_LM_workingReplica hr0).2 (cwV (C := R_LM) 1 S.2.2.2.2 (gV cI (mT 162 (by decide +kernel) rfl) (mT 159 (by decide +kernel) rfl) (mT 161 (by decide +kernel) rfl) (mS 0 (by decide +kernel) rfl) (mT 1 (by decide +kernel) rfl)) rfl rfl rfl (by decide +kernel) ⟨Nat.le_of_ble_eq_true rfl, Nat.le_of_ble_eq_true rfl⟩) (by simp only [List.length_cons] at hn0; omega) hk0 (by decide) (q0 := (R_LM, F_LM, 5)) rfl rfl d_LM_propose_2
    · obtain ⟨⟨b0, t0, rfl, hk0⟩, hn0, hr0⟩ := h
      exact me_crV S hK mG_NW hNw (snd_LM_isKey hn0 hr0) (le_LM_isKey hr0).1 (le_LM_isKey hr0).2 (cwV (C := R_LM) 1 S.2.2.2.2 (gV cI (mT 170 (by decide +kernel) rfl) (mT 167 (by decide +kernel) rfl) (mT 169 (by decide +kernel) rfl) (mS 2 (by decide +kernel) rfl) (mT 1 (by decide +kernel) rfl)) rfl rfl rfl (by decide +kernel) ⟨Nat.le_of_ble_eq_true rfl, Nat.le_of_ble_eq_true rfl⟩) (by simp only [List.length_cons] at hn0; omega) hk0 (by decide) (q0 := (R_LM, F_LM, 5)) rfl rfl d_LM_propose_14
    · obtain ⟨⟨b0, t0, rfl, hk0⟩, hn0, hr0⟩ := h
      exact me_crV S hK mG_NW hNw (snd_Rp_freeInstance hn0 hr0) (le_Rp_freeInstance hr0).1 (le_Rp_freeInstance hr0).2 (cwV (C := R_Rp) 0 S.2.2.2.2 (gV cI (mT 174 (by decide +kernel) rfl) (mT 171 (by decide +kernel) rfl) (mT 172 (by decide +kernel) rfl) (mT 173 (by decide +kernel) rfl) (mT 3 (by decide +kernel) rfl)) rfl rfl rfl (by decide +kernel) ⟨Nat.le_of_ble_eq_true rfl, Nat.le_of_ble_eq_true rfl⟩) (by simp only [List.length_cons] at hn0; omega) hk0 (by decide) (q0 := (R_Rp, F_Rp, 8)) rfl rfl d_LM_propose_24
    · obtain ⟨⟨b0, t0, rfl, hk0⟩, hn0, hr0⟩ := h
      exact me_crI S hK mG_NW hNw (snd_Cmd_init hn0 hr0) (le_Cmd_init hr0).1 (le_Cmd_init hr0).2 (cwI 3 S.2.2.2.2 (gI cI (mT 179 (by decide +kernel) rfl)) rfl rfl rfl (S.2.2.2.2 _ (cI _ (mT 7 (by decide +kernel) rfl))) (S.2.2.2.2 _ (cI _ (mT 177 (by decide +kernel) rfl))) (S.2.2.2.2 _ (cI _ (mT 178 (by decide +kernel) rfl))) rfl (by decide +kernel) ⟨Nat.le_of_ble_eq_true rfl, Nat.le_of_ble_eq_true rfl⟩) (by simp only [List.length_cons] at hn0; omega) d_LM_propose_54
    · obtain ⟨⟨b0, t0, rfl, hk0⟩, hn0, hr0⟩ := h
      exact me_crV S hK mG_NW hNw (snd_Rp_startCommand hn0 hr0) (le_Rp_startCommand hr0).1 (le_Rp_startCommand hr0).2 (cwV (C := R_Rp) 2 S.2.2.2.2 (gV cI (mT 197 (by decide +kernel) rfl) (mT 194 (by decide +kernel) rfl) (mT 195 (by decide +kernel) rfl) (mT 196 (by decide +kernel) rfl) (mT 3 (by decide +kernel) rfl)) rfl rfl rfl (by decide +kernel) ⟨Nat.le_of_ble_eq_true rfl, Nat.le_of_ble_eq_true rfl⟩) (by simp only [List.length_cons] at hn0; omega) hk0 (by decide) (q0 := (R_Rp, F_Rp, 8)) rfl rfl d_LM_propose_57
    · exact h.elim
