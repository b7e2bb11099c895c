section HAND2
variable {c : Nat} {M N : me_M} {b n r i : Nat} {D E : me_D}
theorem g_fitU_congr {cc s d : Int32} : ∀ {k : Nat}, (∀ j, j < k → E 4 (30 * r + j) = D 4 (30 * r + j) ∧ E 5 (30 * r + j) = D 5 (30 * r + j) ∧ E 7 (30 * r + j) = D 7 (30 * r + j)) → g_fitU E r i cc s d k = g_fitU D r i cc s d k := by
  intro k
  induction k with
  | zero => intro _; rfl
  | succ k ih =>
    intro h
    obtain ⟨h1, h2, h3⟩ := h k (by omega)
    have hr : g_rel E r i k cc = g_rel D r i k cc := by unfold g_rel; rw [h1, h2]
    rw [g_fitU, g_fitU, ih (fun j hj => h j (by omega)), hr, h3]
theorem c_Rp_onPreaccept (C : cW M b n D) (u40 : uOK D) {q fr' : Nat} (G : gotOK M q D n r fr' i) (hk : D 24 440 = 0) (h3 : D 4 (30 * r + i) < 3) (hs : ∀ j, j < 6 * n → ∃ s, D 7 (30 * r + j) = nI s ∧ s < 2147483647) : EX eL X_Rp_onPreaccept 0 [some (.inr (some (aR b n r))), some (.inr (some q)), some (.inr (some (aR b n r + 2 + i))), none] [] M (fun x N => x = none ∧ cW N b n (g_preaccept D n r fr' i) ∧ fr (pC (mdA b n)) 9 M N) := by
  obtain ⟨⟨g0, g1, g2, g3, g4, g5, g6, g7⟩, k1, k2, k3, hf, hr, hi⟩ := G
  have S := C.sk
  have h5 := C.n5
  have hb := g5 (show ¬ D 24 440 = 4 by rw [hk]; decide)
  obtain ⟨p, p1, p2⟩ := g6 (Or.inl hk)
  have E0 := C.ent hr hi
  have d4 : ¬ D 4 (30 * r + i) = 4 := fun z => by rw [z] at h3; exact absurd h3 (by decide)
  have hlq := C.w.lt (q := q) (by rw [g0]; decide)
  have stay : (D 24 444 < D 9 (30 * r + i) ∨ (D 4 (30 * r + i) = 2 ∧ D 10 (30 * r + i) = D 24 444)) → ((none : Option me_V) = none ∧ cW M b n (g_preaccept D n r fr' i) ∧ fr (pC (mdA b n)) 9 M M) := by
    intro z
    refine ⟨rfl, ?_, (fr.refl _ M).mono (by omega) (fun _ _ _ z => z)⟩
    rw [g_preaccept, if_pos z]
    exact C
  have go : ¬ (D 24 444 < D 9 (30 * r + i) ∨ (D 4 (30 * r + i) = 2 ∧ D 10 (30 * r + i) = D 24 444)) → EX eL X_Rp_fitted 0 [some (.inr (some (aR b n r))), some (.inl (mI M 1579 q 0)), some (.inr (mR M 1581 q 0)), none, none, none, none] [] M
      (fun x N => ∃ a, x = some (.inr a) ∧ mKd N q = 10 ∧ mKd N (aR b n r + 2 + i) = 4 ∧ EX eL X_En_vote 0 [some (.inr (some (aR b n r + 2 + i))), some (.inl 1), some (.inr a), some (.inl (mI N 1580 q 0))] [] N (fun x N => x = none ∧ mKd N (aR b n r + 2 + i) = 4 ∧ mKd N (aR b n r) = 3 ∧ EX eL X_Rp_sendBack 0 [some (.inr (some (aR b n r))), some (.inr (some q)), some (.inl 1), some (.inr (mR N 1193 (aR b n r + 2 + i) 0)), some (.inr none)] [] N (fun x N => x = none ∧ (none : Option me_V) = none ∧ cW N b n (g_preaccept D n r fr' i) ∧ fr (pC (mdA b n)) 9 M N))) := by
    intro z
    rw [g4, p1]
    show EX eL X_Rp_fitted 0 [some (.inr (some (aR b n r))), some (.inl (D 24 443)), some (.inr (some p)), none, none, none, none] [] M _
    rw [k3]
    refine EX.mono (c_Rp_fitted C hr hi hs p2) fun x N hv => ?_
    obtain ⟨o, rfl, o1, o2, o3⟩ := hv
    have C1 := C.alloc o2 o3
    have eb : mI N 1580 q 0 = D 24 444 := (o2.i hlq (fun z => z)).trans hb
    refine ⟨_, rfl, o2.kd C.w g0 (by decide), s_kEnt C1.sk hr hi, ?_⟩
    rw [eb]
    refine EX.mono (c_En_vote (s_kEnt C1.sk hr hi)) fun x L hv => ?_
    obtain ⟨rfl, rfl⟩ := hv
    have eF : g_fitU (dU (dU D 9 (30 * r + i) (D 24 444)) 10 (30 * r + i) (D 24 444)) r i (D 24 445) (D 24 447) (D 24 448) (6 * n) = g_fitU D r i (D 24 445) (D 24 447) (D 24 448) (6 * n) := g_fitU_congr (fun j _ => ⟨by simp (disch := omega) only [dU_ne], by simp (disch := omega) only [dU_ne], by simp (disch := omega) only [dU_ne]⟩)
    have C2 := vote_cW (E := g_fit (dU (dU D 9 (30 * r + i) (D 24 444)) 10 (30 * r + i) (D 24 444)) n r i (D 24 445) (D 24 446) (D 24 447) (D 24 448)) (s := 1) (bb := D 24 444) C1 hr hi o1 (by decide) (by decide) d4 (fun j x hx => by unfold g_fit g_put; simp (disch := omega) only [dU_out])
      (by unfold g_fit g_put; simp (disch := omega) only [dU_ne, dU_eq]) (by unfold g_fit g_put; simp (disch := omega) only [dU_ne, dU_eq]) (by unfold g_fit g_put; simp (disch := omega) only [dU_ne, dU_eq]) (by unfold g_fit g_put; simp (disch := omega) only [dU_ne, dU_eq]) (by unfold g_fit g_put; simp (disch := omega) only [dU_ne, dU_eq]) (by unfold g_fit g_put; simp (disch := omega) only [dU_ne, dU_eq]) (by unfold g_fit g_put; simp (disch := omega) only [dU_ne, dU_eq]) (by unfold g_fit g_put; simp (disch := omega) only [dU_ne, dU_eq]; rw [eF]) (by unfold g_fit g_put; simp (disch := omega) only [dU_ne, dU_eq]; rw [eF])
    have hv := vote_fr (M := N) (e := aR b n r + 2 + i) (s := 1) (bb := D 24 444) (o := some o)
    have hlq2 := o3.lt (q := q) (by rw [o2.kd C.w g0 (by decide)]; decide)
    refine ⟨rfl, s_kEnt C2.sk hr hi, s_kRp C2.sk hr, EX.mono (c_Rp_sendBack (q := q) (fr' := fr') (i := i) (bb := D 24 444) (b0 := D 24 444) C2 (u40.to ?_) hr ?_ ?_ ?_ ?_ (fun _ => rfl) (fun _ => ?_) (fun z => absurd z (by decide))) fun x L hv2 => ?_⟩
    · rw [g_fit_ne (by decide) (by decide) (by decide) (by decide) (by decide), dU_ne _ (by decide), dU_ne _ (by decide)]
    · exact hv.kd o3 (o2.kd C.w g0 (by decide)) (by decide)
    · rw [hv.i hlq2 (pE_mut.imm _ _ (by decide) (by decide)), o2.i hlq (fun z => z), g2]; exact k1
    · rw [hv.i hlq2 (pE_mut.imm _ _ (by decide) (by decide)), o2.i hlq (fun z => z), g4]; exact k3
    · rw [hv.i hlq2 (pE_mut.imm _ _ (by decide) (by decide)), eb]
    · exact (C2.ent hr hi).2.2.2.2.2.2 (by unfold g_fit g_put; simp (disch := omega) only [dU_ne, dU_eq]; decide)
    · obtain ⟨rfl, h1, h2⟩ := hv2
      refine ⟨rfl, rfl, ?_, (((nilC o2 (Nat.le_refl _)).trans (entC hv (Nat.le_refl _))).trans (netC h2 (Nat.le_refl _))).mono (by omega) (fun _ _ _ z => z)⟩
      rw [g_preaccept, if_neg z]
      exact h1
  refine sg_Rp_onPreaccept_0 ⟨_, rfl, s_kEnt S hr hi, ?_⟩
  rw [E0.1]
  refine ⟨fun h => ⟨q, rfl, g0, ?_⟩, fun h => ⟨q, rfl, g0, ?_⟩⟩
  · rw [E0.2.1, hb]
    refine ⟨fun h2 => stay (Or.inl h2), fun h2 => ⟨s_kRp S hr, ?_⟩⟩
    exact go (fun z => by rcases z with z | z; exact h2 z; exact h z.1)
  · rw [E0.2.1, E0.2.2.1, hb]
    refine ⟨fun h2 => ⟨fun h3 => stay (Or.inl h3), fun h3 => ⟨s_kRp S hr, ?_⟩⟩, fun h2 => ⟨fun h3 => stay (Or.inl h3), fun h3 => stay (Or.inr ⟨h, h2⟩)⟩⟩
    exact go (fun z => by rcases z with z | z; exact h3 z; exact h2 z.2)
theorem c_Rp_onPrepare (C : cW M b n D) (u40 : uOK D) {q fr' : Nat} (G : gotOK M q D n r fr' i) (hk : D 24 440 = 5) : EX eL X_Rp_onPrepare 0 [some (.inr (some (aR b n r))), some (.inr (some q)), some (.inr (some (aR b n r + 2 + i)))] [] M (fun x N => x = none ∧ cW N b n (g_asked D r fr' i) ∧ fr (pC (mdA b n)) 9 M N) := by
  obtain ⟨⟨g0, g1, g2, g3, g4, g5, g6, g7⟩, k1, k2, k3, hf, hr, hi⟩ := G
  have S := C.sk
  have hb := g5 (show ¬ D 24 440 = 4 by rw [hk]; decide)
  have E0 := C.ent hr hi
  have hlq := C.w.lt (q := q) (by rw [g0]; decide)
  have hle := C.w.lt (q := aR b n r + 2 + i) (by rw [s_kEnt S hr hi]; decide)
  refine sg_Rp_onPrepare_0 ⟨q, rfl, g0, _, rfl, s_kEnt S hr hi, fun h => ?_, fun h => ?_⟩
  · rw [E0.2.1, hb] at h
    rw [hb]
    rintro _ rfl _ _ rfl rfl
    have hv : fr (pE (aR b n r + 2 + i)) 0 M (mSetI M 1194 (aR b n r + 2 + i) 0 (D 24 444)) := (fr.refl _ M).setI (fun _ => ⟨by decide, by decide, rfl⟩)
    have C1 : cW (mSetI M 1194 (aR b n r + 2 + i) 0 (D 24 444)) b n (dU D 9 (30 * r + i) (D 24 444)) := by
      obtain ⟨f1, f2, f3, f4, f5, f6, f7⟩ := E0
      refine C.entc hr hi hv (fun _ _ z => z) (C.w.setI hle) (fun j x hx => by simp (disch := omega) only [dU_out]) (by rw [dU_ne _ (by decide)]) ⟨?_, ?_, ?_, ?_, ?_, fun z => ?_, fun z => ?_⟩
      · rw [dU_ne _ (by decide), ← f1]; simp [mI_SetI]
      · rw [dU_eq]; simp [mI_SetI]
      · rw [dU_ne _ (by decide), ← f3]; simp [mI_SetI]
      · rw [dU_ne _ (by decide), ← f4]; simp [mI_SetI]
      · rw [dU_ne _ (by decide), ← f5]; simp [mI_SetI]
      · rw [dU_ne _ (by decide)] at z; exact f6 z
      · rw [dU_ne _ (by decide)] at z
        simp (disch := omega) only [dU_ne]
        exact OrdR.fr hv pE_mut.imm C.w (f7 z)
    generalize hM1 : mSetI M 1194 (aR b n r + 2 + i) 0 (D 24 444) = M1 at hv C1 ⊢
    have hle1 := C1.w.lt (q := aR b n r + 2 + i) (by rw [s_kEnt C1.sk hr hi]; decide)
    have hkr : mKd (mNew M1 9 0 4) (aR b n r) = 3 := by
      rw [mKd_New, if_neg (fun z => by have := C1.w.lt (q := aR b n r) (by rw [s_kRp C1.sk hr]; decide); omega)]; exact s_kRp C1.sk hr
    refine ⟨hkr, ?_⟩
    rw [mI_New, s_num C1.sk hr]
    refine EX.mono (c_Rt_init (s_kEnt C1.sk hr hi) hle1) fun x N hx => ?_
    obtain ⟨rfl, rfl⟩ := hx
    have hf1 : fr (fun _ _ => False) 1 M1 (mkRt M1 (nI r) (aR b n r + 2 + i)) := mkRt_fr
    have C2 := C1.alloc hf1 (mkRt_wf C1.w)
    have hlq1 := C1.w.lt (q := q) (by rw [hv.kd C.w g0 (by decide)]; decide)
    obtain ⟨f1, f2, f3, f4, f5, f6, f7⟩ := C1.ent hr hi
    refine ⟨rfl, s_kRp C2.sk hr, EX.mono (c_Rp_sendBack (q := q) (fr' := fr') (i := i) (bb := D 24 444) (b0 := D 24 444) C2 (u40.to (dU_ne _ (by decide))) hr ?_ ?_ ?_ ?_ (fun _ => rfl) (fun z => absurd z (by decide)) (fun _ => ⟨_, rfl, ?_⟩)) fun x N hv2 => ?_⟩
    · exact hf1.kd C1.w (hv.kd C.w g0 (by decide)) (by decide)
    · rw [hf1.i hlq1 (fun z => z), hv.i hlq (pE_mut.imm _ _ (by decide) (by decide)), g2]; exact k1
    · rw [hf1.i hlq1 (fun z => z), hv.i hlq (pE_mut.imm _ _ (by decide) (by decide)), g4]; exact k3
    · rw [hf1.i hlq1 (fun z => z), hv.i hlq (pE_mut.imm _ _ (by decide) (by decide)), hb]
    · refine ⟨kd_new (b := 0) (c := 4), ?_, ?_, ?_, fun z => ?_⟩
      · simp [mkRt, mI_SetI, mI_SetR]
      · rw [← f1]; simp [mkRt, mI_SetI, mI_SetR]
      · rw [← f3]; simp [mkRt, mI_SetI, mI_SetR]
      · have e : mR (mkRt M1 (nI r) (aR b n r + 2 + i)) 1514 (mSz M1) 0 = mR M1 1193 (aR b n r + 2 + i) 0 := by simp [mkRt, mR_SetI, mR_SetR]
        rw [e]
        exact OrdR.fr hf1 immF C1.w (f7 z)
    · obtain ⟨rfl, h1, h2⟩ := hv2
      refine ⟨rfl, rfl, ?_, (((entC hv (Nat.le_refl _)).trans (nilC hf1 (Nat.le_refl _))).trans (netC h2 (Nat.le_refl _))).mono (by omega) (fun _ _ _ z => z)⟩
      rw [g_asked, if_neg (Int32.not_le.mpr h)]
      exact h1
  · rw [E0.2.1, hb] at h
    refine ⟨rfl, ?_, (fr.refl _ M).mono (by omega) (fun _ _ _ z => z)⟩
    rw [g_asked, if_pos (Int32.not_lt.mp h)]
    exact C
theorem c_Rp_onCommit (C : cW M b n D) {q fr' : Nat} (G : gotOK M q D n r fr' i) (hk : D 24 440 = 4) (h5 : D 4 (30 * r + i) < 5) : EX eL X_Rp_onCommit 0 [some (.inr (some (aR b n r))), some (.inr (some q)), some (.inr (some (aR b n r + 2 + i)))] [] M (fun x N => x = none ∧ cW N b n (if D 4 (30 * r + i) < 3 then g_settle D (30 * r + i) 3 else D) ∧ fr (pC (mdA b n)) 9 M N) := by
  obtain ⟨⟨g0, g1, g2, g3, g4, g5, g6, g7⟩, k1, k2, k3, hf, hr, hi⟩ := G
  have S := C.sk
  have E0 := C.ent hr hi
  refine sg_Rp_onCommit_0 ⟨_, rfl, s_kEnt S hr hi, EX.mono (c_En_isSettled (s_kEnt S hr hi) E0.1 h5) fun x N hv => ?_⟩
  obtain ⟨rfl, rfl⟩ := hv
  refine ⟨_, rfl, fun h => ?_, fun h => ?_⟩
  · have h9 := b01_1 h
    rw [decide_eq_true_eq] at h9
    rw [if_neg (Int32.not_lt.mpr h9)]
    exact ⟨rfl, C, (fr.refl _ _).mono (by omega) (fun _ _ _ z => z)⟩
  · have h9 := b01_0 h
    rw [decide_eq_false_iff_not] at h9
    have h3 := Int32.not_le.mp h9
    have d4 : ¬ D 4 (30 * r + i) = 4 := fun z => by rw [z] at h3; exact absurd h3 (by decide)
    rw [if_pos h3]
    obtain ⟨p, p1, p2⟩ := g6 (Or.inr (Or.inr (Or.inr hk)))
    refine ⟨q, rfl, g0, s_kEnt S hr hi, ?_⟩
    rw [p1]
    refine EX.mono (c_En_become (s_kEnt S hr hi)) fun x L hv => ?_
    obtain ⟨rfl, rfl⟩ := hv
    refine ⟨rfl, rfl, ?_, (entC become_fr (Nat.le_refl _)).mono (by omega) (fun _ _ _ z => z)⟩
    exact become_cW (E := g_settle D (30 * r + i) 3) (s := 3) C hr hi p2 (by decide) (by decide) d4 (fun j x hx => by unfold g_settle g_put; simp (disch := omega) only [dU_out])
      (by unfold g_settle g_put; simp (disch := omega) only [dU_ne, dU_eq]) (by unfold g_settle g_put; simp (disch := omega) only [dU_ne, dU_eq]) (by unfold g_settle g_put; simp (disch := omega) only [dU_ne, dU_eq]) (by unfold g_settle g_put; simp (disch := omega) only [dU_ne, dU_eq]) (by unfold g_settle g_put; simp (disch := omega) only [dU_ne, dU_eq]) (by unfold g_settle g_put; simp (disch := omega) only [dU_ne, dU_eq]) (by unfold g_settle g_put; simp (disch := omega) only [dU_ne, dU_eq]) (by unfold g_settle g_put; simp (disch := omega) only [dU_ne, dU_eq]) (by unfold g_settle g_put; simp (disch := omega) only [dU_ne, dU_eq])
end HAND2
