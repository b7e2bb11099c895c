section HAND3
variable {c : Nat} {M N : me_M} {b n r i : Nat} {D E : me_D}
theorem c_Rp_liveAttempt (C : cW M b n D) {q fr' : Nat} (G : gotOK M q D n r fr' i) (hk : ¬ D 24 440 = 4) (h5 : D 4 (30 * r + i) < 5) {p w : Int32} (hpw : (p = 1 ∧ w = 1) ∨ (p = 2 ∧ w = 2) ∨ (p = 0 ∧ w = 3)) : EX eL X_Rp_liveAttempt 0 [some (.inr (some (aR b n r))), some (.inr (some q)), some (.inl p), none, none] [] M (fun x N => x = some (.inr (if g_cnt? D (30 * r + i) w = true then mR M 105 (aR b n r + 2 + 6 * n) i else none)) ∧ N = M) := by
  obtain ⟨⟨g0, g1, g2, g3, g4, g5, g6, g7⟩, k1, k2, k3, hf, hr, hi⟩ := G
  have S := C.sk
  have n5 := C.n5
  have hb := g5 hk
  have ei : mI M 1579 q 0 = nI i := g4.trans k3
  have E0 := C.ent hr hi
  obtain ⟨a1, a2⟩ := C.att hr hi
  have no : g_cnt? D (30 * r + i) w = false → (some (.inr none : me_V) = some (.inr (if g_cnt? D (30 * r + i) w = true then mR M 105 (aR b n r + 2 + 6 * n) i else none)) ∧ M = M) := fun z => by rw [z]; exact ⟨rfl, rfl⟩
  refine sg_Rp_liveAttempt_0 ⟨s_kRp S hr, q, rfl, g0, _, s_atts S hr, s_kAtts S hr, ?_, _, s_ents S hr, s_kEnts S hr, ?_, fun h => ?_, fun h => ?_⟩
  · rw [ei, s_lAtts S hr]; exact vin hi (by omega)
  · rw [ei, s_lEnts S hr]; exact vin hi (by omega)
  · rw [ei, cl (by omega)] at h
    refine no ?_
    have hz : D 13 (30 * r + i) = 0 := by
      apply Classical.byContradiction
      intro hz
      obtain ⟨q', k, e1, -⟩ := a2 hz
      rw [h] at e1
      cases e1
    simp [g_cnt?, hz]
  · rw [ei, cl (by omega)] at h ⊢
    have hz : ¬ D 13 (30 * r + i) = 0 := fun hz => h (a1 hz)
    obtain ⟨qa, k, e1, e2, e3, e4, e5, e6, e7, -⟩ := a2 hz
    have hc3 : D 16 (30 * r + i) ≤ 3 := by rw [e4]; exact (nle (a := k) (b := 3) (by omega) (by decide)).mpr e5
    refine ⟨qa, e1, e2, fun h1 => no ?_, fun h1 => ⟨fun h2 => ?_, fun h2 => no ?_⟩⟩
    · have : ¬ (D 14 (30 * r + i) = w ∨ (w = 1 ∧ D 14 (30 * r + i) = 0)) := by
        intro z
        apply h1
        rcases e7 with ⟨x1, x2, -⟩ | ⟨x1, x2, -⟩ | ⟨x1, x2⟩ | ⟨x1, x2, -⟩ <;> rw [x1] at z <;> rw [x2] <;> rcases hpw with ⟨rfl, rfl⟩ | ⟨rfl, rfl⟩ | ⟨rfl, rfl⟩ <;> first | rfl | exact absurd z (by decide)
      have h9 : (decide (D 14 (30 * r + i) = w) || (decide (w = 1) && decide (D 14 (30 * r + i) = 0))) = false := by
        cases hh : (decide (D 14 (30 * r + i) = w) || (decide (w = 1) && decide (D 14 (30 * r + i) = 0)))
        · rfl
        · simp only [Bool.or_eq_true, Bool.and_eq_true, decide_eq_true_eq] at hh
          exact absurd hh this
      simp only [g_cnt?, h9, Bool.and_false, Bool.false_and]
    · rw [e3, hb] at h2
      have hph : D 14 (30 * r + i) = w ∨ (w = 1 ∧ D 14 (30 * r + i) = 0) := by
        rcases e7 with ⟨x1, x2, -⟩ | ⟨x1, x2, -⟩ | ⟨x1, x2⟩ | ⟨x1, x2, -⟩ <;> rw [x1] <;> rw [x2] at h1 <;> rcases hpw with ⟨rfl, rfl⟩ | ⟨rfl, rfl⟩ | ⟨rfl, rfl⟩ <;> first | exact Or.inl rfl | exact Or.inr ⟨rfl, rfl⟩ | exact absurd h1 (by decide)
      refine ⟨_, s_ent S hr hi, s_kEnt S hr hi, fun h4 => no ?_, fun h4 => EX.mono (c_En_isSettled (s_kEnt S hr hi) E0.1 h5) fun x N hv => ?_⟩
      · rw [e3, E0.2.1] at h4
        simp [g_cnt?, h4]
      · obtain ⟨rfl, rfl⟩ := hv
        rw [e3, E0.2.1] at h4
        refine ⟨_, rfl, fun h6 => no ?_, fun h6 => ?_⟩
        · have h9 := b01_1 h6
          rw [decide_eq_true_eq] at h9
          simp [g_cnt?, Int32.not_lt.mpr h9]
        · have h9 := b01_0 h6
          rw [decide_eq_false_iff_not] at h9
          have hall : g_cnt? D (30 * r + i) w = true := by
            simp only [g_cnt?, Bool.and_eq_true, Bool.or_eq_true, decide_eq_true_eq]
            exact ⟨⟨⟨⟨⟨hz, h4⟩, Int32.not_le.mp h9⟩, hph⟩, h2⟩, hc3⟩
          rw [hall, if_pos rfl]
          exact ⟨rfl, rfl⟩
    · rw [e3, hb] at h2
      simp [g_cnt?, h2]
theorem c_Rp_commitHere (C : cW M b n D) (u40 : uOK D) (hr : r < n) (hi : i < 6 * n) (h3 : D 4 (30 * r + i) < 3) {p : Nat} {sq dp : Int32} (ho : OrdOK M p (D 5 (30 * r + i)) (D 6 (30 * r + i)) sq dp) : EX eL X_Rp_commitHere 0 [some (.inr (some (aR b n r))), some (.inl (nI i)), some (.inr (some p))] [] M (fun x N => x = none ∧ cW N b n (g_finish D n r i sq dp) ∧ fr (pC (mdA b n)) 9 M N) := by
  have S := C.sk
  have n5 := C.n5
  have d4 : ¬ D 4 (30 * r + i) = 4 := fun z => by rw [z] at h3; exact absurd h3 (by decide)
  refine sg_Rp_commitHere_0 ⟨s_kRp S hr, _, s_ents S hr, s_kEnts S hr, by rw [s_lEnts S hr]; exact vin hi (by omega), _, by rw [cl (by omega)]; exact s_ent S hr hi, s_kEnt S hr hi, EX.mono (c_En_become (s_kEnt S hr hi)) fun x N hv => ?_⟩
  obtain ⟨rfl, rfl⟩ := hv
  have C1 := become_cW (E := dU (dU (dU D 4 (30 * r + i) 3) 7 (30 * r + i) sq) 8 (30 * r + i) dp) (s := 3) C hr hi ho (by decide) (by decide) d4 (fun j x hx => by simp (disch := omega) only [dU_out])
    (by simp (disch := omega) only [dU_ne, dU_eq]) (by simp (disch := omega) only [dU_ne, dU_eq]) (by simp (disch := omega) only [dU_ne, dU_eq]) (by simp (disch := omega) only [dU_ne, dU_eq]) (by simp (disch := omega) only [dU_ne, dU_eq]) (by simp (disch := omega) only [dU_ne, dU_eq]) (by simp (disch := omega) only [dU_ne, dU_eq]) (by simp (disch := omega) only [dU_ne, dU_eq]) (by simp (disch := omega) only [dU_ne, dU_eq])
  refine ⟨rfl, s_kRp C1.sk hr, EX.mono (c_Rp_sendToOthers (bb := 0) C1 (u40.to (by simp (disch := omega) only [dU_ne])) hr (fun _ => rfl) (by decide) (fun _ => ⟨p, rfl, ?_⟩)) fun x N hv => ?_⟩
  · simp (disch := omega) only [dU_ne, dU_eq]
    exact OrdOK.fr become_fr pE_mut.imm C.w ho
  · obtain ⟨rfl, h1, h2⟩ := hv
    exact ⟨rfl, rfl, h1, ((entC become_fr (Nat.le_refl _)).trans (netC h2 (Nat.le_refl _))).mono (by omega) (fun _ _ _ z => z)⟩
def pA (qa : Nat) (k q : Nat) : Prop := 1323 ≤ k ∧ k ≤ 1327 ∧ q = qa
theorem pA_mut {qa : Nat} : mutP (pA qa) := fun k q z => by
  unfold mutK
  simp [z.1, z.2.1]
theorem attC {m d qa : Nat} (h : fr (pA qa) c M N) (hd : c ≤ d) : fr (pC m) d M N := h.toC pA_mut (fun q z => absurd z.1 (by decide)) hd
/-- an attempt enters a phase -/
theorem phase_cW (C : cW M b n D) (hr : r < n) (hi : i < 6 * n) {qa : Nat} (hqa : mR M 105 (aR b n r + 2 + 6 * n) i = some qa) {p w : Int32} (hf : p = 2 ∧ w = 2 ∨ (p = 1 ∧ w = 1 ∧ D 14 (30 * r + i) = 3)) : cW (mSetI (mSetI M 1323 qa 0 p) 1324 qa 0 0) b n (g_start D (30 * r + i) w (D 15 (30 * r + i))) := by
  have hka := C.attk hr hi hqa
  have hl := C.w.lt (q := qa) (by rw [hka]; decide)
  have hv : fr (pA qa) 0 M (mSetI (mSetI M 1323 qa 0 p) 1324 qa 0 0) := ((fr.refl _ M).setI (fun _ => ⟨by decide, by decide, rfl⟩)).setI (fun _ => ⟨by decide, by decide, rfl⟩)
  obtain ⟨a1, a2⟩ := C.att hr hi
  have hz : ¬ D 13 (30 * r + i) = 0 := fun z => by rw [a1 z] at hqa; cases hqa
  obtain ⟨q', k, e1, e2, e3, e4, e5, e6, e7, e8, e9, wv, e10, e11, -⟩ := a2 hz
  rw [hqa] at e1
  cases e1
  refine C.attu hr hi hqa hv (fun k q z => Or.inl z) ((C.w.setI hl).setI hl) (fun j x h1 h2 => by unfold g_start; simp (disch := omega) only [dU_out]) ⟨fun z => ?_, fun _ => ⟨qa, 0, rfl, e2, ?_, ?_, by decide, ?_, ?_, ?_, fun z => absurd z (Nat.lt_irrefl _), wv, e10, e11, fun z => ?_⟩⟩
  · unfold g_start at z
    simp (disch := omega) only [dU_ne, dU_eq] at z
    exact absurd z (by decide)
  · unfold g_start
    simp (disch := omega) only [dU_ne, dU_eq]
    rw [← e3]; simp [mI_SetI]
  · unfold g_start
    rw [dU_eq]; rfl
  · simp [mI_SetI]; rfl
  · unfold g_start
    simp (disch := omega) only [dU_ne, dU_eq]
    rcases hf with ⟨rfl, rfl⟩ | ⟨rfl, rfl, hp⟩
    · exact Or.inr (Or.inr (Or.inl ⟨rfl, by simp [mI_SetI]⟩))
    · refine Or.inr (Or.inl ⟨rfl, by simp [mI_SetI], ?_⟩)
      rcases e7 with ⟨x1, -⟩ | ⟨x1, -⟩ | ⟨x1, -⟩ | ⟨-, -, x3⟩
      · rw [hp] at x1; exact absurd x1 (by decide)
      · rw [hp] at x1; exact absurd x1 (by decide)
      · rw [hp] at x1; exact absurd x1 (by decide)
      · rw [← x3]; simp [mI_SetI]
  · have : mI (mSetI (mSetI M 1323 qa 0 p) 1324 qa 0 0) 1325 qa 0 = mI M 1325 qa 0 := by simp [mI_SetI]
    rw [this]; exact e8
  · unfold g_start at z
    simp (disch := omega) only [dU_ne, dU_eq] at z
    rcases hf with ⟨rfl, rfl⟩ | ⟨rfl, rfl, hp⟩ <;> exact absurd z (by decide)
theorem phase_fr {qa : Nat} {p : Int32} : fr (pA qa) 0 M (mSetI (mSetI M 1323 qa 0 p) 1324 qa 0 0) := ((fr.refl _ M).setI (fun _ => ⟨by decide, by decide, rfl⟩)).setI (fun _ => ⟨by decide, by decide, rfl⟩)
theorem c_Rp_beginAccepting (C : cW M b n D) (u40 : uOK D) (hr : r < n) (hi : i < 6 * n) (h3 : D 4 (30 * r + i) < 3) {qa : Nat} (hqa : mR M 105 (aR b n r + 2 + 6 * n) i = some qa) (hal : D 15 (30 * r + i) = D 9 (30 * r + i)) {p : Nat} {cd vl sq dp : Int32} (ho : OrdOK M p cd vl sq dp) : EX eL X_Rp_beginAccepting 0 [some (.inr (some (aR b n r))), some (.inl (nI i)), some (.inr (some qa)), some (.inr (some p))] [] M (fun x N => x = none ∧ cW N b n (g_agree D n r i cd vl sq dp) ∧ fr (pC (mdA b n)) 9 M N) := by
  have S := C.sk
  have n5 := C.n5
  have d4 : ¬ D 4 (30 * r + i) = 4 := fun z => by rw [z] at h3; exact absurd h3 (by decide)
  have hka := C.attk hr hi hqa
  have hla := C.w.lt (q := qa) (by rw [hka]; decide)
  have hbl : mI M 1320 qa 0 = D 15 (30 * r + i) := by
    obtain ⟨a1, a2⟩ := C.att hr hi
    have hz : ¬ D 13 (30 * r + i) = 0 := fun z => by rw [a1 z] at hqa; cases hqa
    obtain ⟨q', k, e1, e2, e3, -⟩ := a2 hz
    rw [hqa] at e1
    cases e1
    exact e3
  refine sg_Rp_beginAccepting_0 ⟨s_kRp S hr, _, s_ents S hr, s_kEnts S hr, by rw [s_lEnts S hr]; exact vin hi (by omega), qa, rfl, hka, _, by rw [cl (by omega)]; exact s_ent S hr hi, s_kEnt S hr hi, ?_⟩
  rw [hbl]
  refine EX.mono (c_En_vote (s_kEnt S hr hi)) fun x N hv => ?_
  obtain ⟨rfl, rfl⟩ := hv
  have C1 := vote_cW (E := dU (dU (dU (g_put D (30 * r + i) 2 cd vl) 7 (30 * r + i) sq) 8 (30 * r + i) dp) 10 (30 * r + i) (D 15 (30 * r + i))) (s := 2) (bb := D 15 (30 * r + i)) C hr hi ho (by decide) (by decide) d4 (fun j x hx => by unfold g_put; simp (disch := omega) only [dU_out])
    (by unfold g_put; simp (disch := omega) only [dU_ne, dU_eq]) (by unfold g_put; simp (disch := omega) only [dU_ne, dU_eq]; exact hal.symm) (by unfold g_put; simp (disch := omega) only [dU_ne, dU_eq]) (by unfold g_put; simp (disch := omega) only [dU_ne, dU_eq]) (by unfold g_put; simp (disch := omega) only [dU_ne, dU_eq]) (by unfold g_put; simp (disch := omega) only [dU_ne, dU_eq]) (by unfold g_put; simp (disch := omega) only [dU_ne, dU_eq]) (by unfold g_put; simp (disch := omega) only [dU_ne, dU_eq]) (by unfold g_put; simp (disch := omega) only [dU_ne, dU_eq])
  have hv := vote_fr (M := M) (e := aR b n r + 2 + i) (s := 2) (bb := D 15 (30 * r + i)) (o := some p)
  have hqa1 : mR (mSetR (mSetI (mSetI (mSetI M 1194 (aR b n r + 2 + i) 0 (D 15 (30 * r + i))) 1195 (aR b n r + 2 + i) 0 (D 15 (30 * r + i))) 1192 (aR b n r + 2 + i) 0 2) 1193 (aR b n r + 2 + i) 0 (some p)) 105 (aR b n r + 2 + 6 * n) i = some qa := by
    simp [mR_SetR, mR_SetI, hqa]
  refine ⟨rfl, hka, EX.mono (c_At_enterPhase (C1.attk hr hi hqa1)) fun x N hv2 => ?_⟩
  obtain ⟨rfl, rfl⟩ := hv2
  have C2 := phase_cW C1 hr hi hqa1 (Or.inl ⟨rfl, rfl⟩)
  have eb : (dU (dU (dU (g_put D (30 * r + i) 2 cd vl) 7 (30 * r + i) sq) 8 (30 * r + i) dp) 10 (30 * r + i) (D 15 (30 * r + i))) 15 (30 * r + i) = D 15 (30 * r + i) := by
    unfold g_put; simp (disch := omega) only [dU_ne]
  rw [eb] at C2
  refine ⟨rfl, hka, s_kRp C2.sk hr, ?_⟩
  have eb2 : mI (mSetI (mSetI (mSetR (mSetI (mSetI (mSetI M 1194 (aR b n r + 2 + i) 0 (D 15 (30 * r + i))) 1195 (aR b n r + 2 + i) 0 (D 15 (30 * r + i))) 1192 (aR b n r + 2 + i) 0 2) 1193 (aR b n r + 2 + i) 0 (some p)) 1323 qa 0 2) 1324 qa 0 0) 1320 qa 0 = D 15 (30 * r + i) := by
    rw [← hbl]; simp [mI_SetI, mI_SetR]
  rw [eb2]
  refine EX.mono (c_Rp_sendToOthers (bb := D 15 (30 * r + i)) C2 (u40.to ?_) hr (fun _ => rfl) (by decide) (fun _ => ⟨p, rfl, ?_⟩)) fun x N hv3 => ?_
  · unfold g_start g_put; simp (disch := omega) only [dU_ne]
  · have o1 := OrdOK.fr (phase_fr (qa := qa) (p := 2)) pA_mut.imm C1.w (OrdOK.fr hv pE_mut.imm C.w ho)
    unfold g_start g_put
    simp (disch := omega) only [dU_ne, dU_eq]
    exact o1
  · obtain ⟨rfl, h1, h2⟩ := hv3
    exact ⟨rfl, rfl, h1, (((entC hv (Nat.le_refl _)).trans (attC phase_fr (Nat.le_refl _))).trans (netC h2 (Nat.le_refl _))).mono (by omega) (fun _ _ _ z => z)⟩
end HAND3
