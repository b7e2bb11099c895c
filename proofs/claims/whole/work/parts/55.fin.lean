section FIN
variable {c : Nat} {M N : me_M} {b n r i : Nat} {D E : me_D}
theorem att_bl (C : cW M b n D) (hr : r < n) (hi : i < 6 * n) {qa : Nat} (hqa : mR M 105 (aR b n r + 2 + 6 * n) i = some qa) : mI M 1320 qa 0 = D 15 (30 * r + i) := by
  obtain ⟨a1, a2⟩ := C.att hr hi
  have hz : ¬ D 13 (30 * r + i) = 0 := fun z => by rw [a1 z] at hqa; cases hqa
  obtain ⟨q', k, e1, e2, e3, -⟩ := a2 hz
  rw [hqa] at e1
  cases e1
  exact e3
set_option maxHeartbeats 1000000 in
theorem c_Rp_preacceptAgain (C : cW M b n D) (u40 : uOK D) (hr : r < n) (hi : i < 6 * n) (h3 : D 4 (30 * r + i) < 3) {qa : Nat} (hqa : mR M 105 (aR b n r + 2 + 6 * n) i = some qa) (hp3 : D 14 (30 * r + i) = 3) (hal : D 15 (30 * r + i) = D 9 (30 * r + i)) (hs : ∀ j, j < 6 * n → ∃ s, D 7 (30 * r + j) = nI s ∧ s < 2147483647) {z : Nat} {cd vl : Int32} (hz : CmdOK M z cd vl) : EX eL X_Rp_preacceptAgain 0 [some (.inr (some (aR b n r))), some (.inl (nI i)), some (.inr (some qa)), some (.inr (some z)), none] [] M (fun x N => x = none ∧ cW N b n (g_again D n r i cd vl) ∧ fr (pC (mdA b n)) 9 M N) := by
  have n5 := C.n5
  have d4 : ¬ D 4 (30 * r + i) = 4 := fun z => by rw [z] at h3; exact absurd h3 (by decide)
  refine sg_Rp_preacceptAgain_0 ?_
  rintro _ _ rfl rfl
  refine EX.mono c_Or_init fun x M1 hv => ?_
  obtain ⟨rfl, rfl⟩ := hv
  have f1 : fr (fun _ _ => False) 1 M (mkOr M (some z) 1 0) := mkOr_fr
  have C1 := C.alloc f1 (mkOr_wf C.w)
  have o1 := mkOr_ok (s := 1) (d := 0) C.w hz
  refine ⟨rfl, s_kRp C1.sk hr, EX.mono (c_Rp_fitted C1 hr hi hs o1) fun x M2 hv => ?_⟩
  obtain ⟨p, rfl, o2, f2, w2⟩ := hv
  have C2 := C1.alloc f2 w2
  have S2 := C2.sk
  have hqa2 : mR M2 105 (aR b n r + 2 + 6 * n) i = some qa := by
    rw [f2.r (C1.w.lt (by rw [s_kAtts C1.sk hr]; decide)) (fun z => z), f1.r (C.w.lt (by rw [s_kAtts C.sk hr]; decide)) (fun z => z)]; exact hqa
  have hka2 := C2.attk hr hi hqa2
  refine ⟨_, rfl, s_kRp S2 hr, _, s_ents S2 hr, s_kEnts S2 hr, by rw [s_lEnts S2 hr]; exact vin hi (by omega), qa, rfl, hka2, _, by rw [cl (by omega)]; exact s_ent S2 hr hi, s_kEnt S2 hr hi, ?_⟩
  rw [att_bl C2 hr hi hqa2]
  refine EX.mono (c_En_vote (s_kEnt S2 hr hi)) fun x N hv => ?_
  obtain ⟨rfl, rfl⟩ := hv
  have C3 := vote_cW (E := dU (g_fit D n r i cd vl 1 0) 10 (30 * r + i) (D 15 (30 * r + i))) (s := 1) (bb := D 15 (30 * r + i)) C2 hr hi o2 (by decide) (by decide) d4 (fun j x hx => by unfold g_fit g_put; simp (disch := omega) only [dU_out])
    (by unfold g_fit g_put; simp (disch := omega) only [dU_ne, dU_eq]) (by unfold g_fit g_put; simp (disch := omega) only [dU_ne, dU_eq]; exact hal.symm) (by unfold g_fit g_put; simp (disch := omega) only [dU_ne, dU_eq]) (by unfold g_fit g_put; simp (disch := omega) only [dU_ne, dU_eq]) (by unfold g_fit g_put; simp (disch := omega) only [dU_ne, dU_eq]) (by unfold g_fit g_put; simp (disch := omega) only [dU_ne, dU_eq]) (by unfold g_fit g_put; simp (disch := omega) only [dU_ne, dU_eq]) (by unfold g_fit g_put; simp (disch := omega) only [dU_ne, dU_eq]) (by unfold g_fit g_put; simp (disch := omega) only [dU_ne, dU_eq])
  have hv := vote_fr (M := M2) (e := aR b n r + 2 + i) (s := 1) (bb := D 15 (30 * r + i)) (o := some p)
  have hqa3 : mR (mSetR (mSetI (mSetI (mSetI M2 1194 (aR b n r + 2 + i) 0 (D 15 (30 * r + i))) 1195 (aR b n r + 2 + i) 0 (D 15 (30 * r + i))) 1192 (aR b n r + 2 + i) 0 1) 1193 (aR b n r + 2 + i) 0 (some p)) 105 (aR b n r + 2 + 6 * n) i = some qa := by
    simp [mR_SetR, mR_SetI, hqa2]
  have o3 := OrdOK.fr hv pE_mut.imm C2.w o2
  generalize mSetR (mSetI (mSetI (mSetI M2 1194 (aR b n r + 2 + i) 0 (D 15 (30 * r + i))) 1195 (aR b n r + 2 + i) 0 (D 15 (30 * r + i))) 1192 (aR b n r + 2 + i) 0 1) 1193 (aR b n r + 2 + i) 0 (some p) = M3 at *
  have hka3 := C3.attk hr hi hqa3
  refine ⟨rfl, hka3, EX.mono (c_At_enterPhase hka3) fun x N hv2 => ?_⟩
  obtain ⟨rfl, rfl⟩ := hv2
  have C4 := phase_cW C3 hr hi hqa3 (p := 1) (w := 1) (Or.inr ⟨rfl, rfl, by unfold g_fit g_put; simp (disch := omega) only [dU_ne]; exact hp3⟩)
  have eb : (dU (g_fit D n r i cd vl 1 0) 10 (30 * r + i) (D 15 (30 * r + i))) 15 (30 * r + i) = D 15 (30 * r + i) := by
    unfold g_fit g_put; simp (disch := omega) only [dU_ne]
  rw [eb] at C4
  have f4 := phase_fr (M := M3) (qa := qa) (p := 1)
  have o4 := OrdOK.fr f4 pA_mut.imm C3.w o3
  have eb4 : mI (mSetI (mSetI M3 1323 qa 0 1) 1324 qa 0 0) 1320 qa 0 = D 15 (30 * r + i) := by
    have := att_bl C3 hr hi hqa3
    rw [eb] at this
    rw [← this]
    simp [mI_SetI]
  refine ⟨rfl, hka3, s_kRp C4.sk hr, ?_⟩
  rw [eb4]
  refine EX.mono (c_Rp_sendToOthers (bb := D 15 (30 * r + i)) C4 (u40.to ?_) hr (fun _ => rfl) (by decide) (fun _ => ⟨p, rfl, ?_⟩)) fun x N hv3 => ?_
  · unfold g_start g_fit g_put; simp (disch := omega) only [dU_ne]
  · unfold g_start g_fit g_put
    simp (disch := omega) only [dU_ne, dU_eq]
    exact o4
  · obtain ⟨rfl, h1, h2⟩ := hv3
    exact ⟨rfl, rfl, h1, (((((nilC f1 (Nat.le_refl _)).trans (nilC f2 (Nat.le_refl _))).trans (entC hv (Nat.le_refl _))).trans (attC f4 (Nat.le_refl _))).trans (netC h2 (Nat.le_refl _))).mono (by omega) (fun _ _ _ z => z)⟩
theorem c_Or_initg {q : Nat} (hk : mKd M q = 8) {o : Option Nat} {s d : Int32} : EX eL X_Or_init 0 [some (.inr (some q)), some (.inr o), some (.inl s), some (.inl d)] [] M (fun r N => r = none ∧ N = mSetI (mSetI (mSetR M 1448 q 0 o) 1449 q 0 s) 1450 q 0 d) := by
  refine sg_Or_init_0 ⟨hk, ?_⟩
  rintro _ rfl _ rfl _ rfl
  exact ⟨rfl, rfl⟩
/-- the order of nothing -/
def noOr (M : me_M) : me_M := mSetI (mSetI (mSetR (mkCmd (mNew M 8 0 3) 2 0 0) 1448 (mSz M) 0 (some (mSz M + 1))) 1449 (mSz M) 0 0) 1450 (mSz M) 0 0
theorem noOr_kd : mKd (mkCmd (mNew M 8 0 3) 2 0 0) (mSz M) = 8 := by
  show (if mSz M = mSz (mNew M 8 0 3) then 7 else mKd (mNew M 8 0 3) (mSz M)) = 8
  rw [mSz_New, if_neg (by omega)]
  exact kd_new
theorem noOr_fr : fr (fun _ _ => False) 2 M (noOr M) := ((((fr.refl _ M).new (by decide)).trans mkCmd_fr).setR (fun h => absurd h (Nat.lt_irrefl _))).setI (fun h => absurd h (Nat.lt_irrefl _)) |>.setI (fun h => absurd h (Nat.lt_irrefl _))
theorem noOr_wf (w : wf M) : wf (noOr M) := by
  have hl : mSz M < mSz (mkCmd (mNew M 8 0 3) 2 0 0) := by show mSz M < mSz M + 1 + 1; omega
  exact (((mkCmd_wf w.new).setR hl).setI hl).setI hl
theorem noOr_ok : OrdOK (noOr M) (mSz M) 8 0 0 0 := by
  refine ⟨noOr_kd, ?_, ?_, mSz M + 1, ?_, ?_, 0, by decide, ?_, Or.inr (Or.inr ⟨?_, rfl⟩)⟩
  · simp [noOr, mI_SetI]
  · simp [noOr, mI_SetI]
  · simp [noOr, mR_SetI, mR_SetR]
  · show (if mSz M + 1 = mSz (mNew M 8 0 3) then 7 else _) = 7
    rw [mSz_New, if_pos rfl]
  · simp [noOr, mkCmd, mI_SetI, mI_SetR, mSz_New]; rfl
  · simp [noOr, mkCmd, mI_SetI, mI_SetR, mSz_New]
def g_fin (D : me_D) (n r i : Nat) : me_D := match g_best D (4 * (30 * r + i)) (n / 2 + 1) i with
  | some x => g_agree D n r i (D 19 x) (D 20 x) (D 21 x) (D 22 x)
  | none => match g_pre D (4 * (30 * r + i)) (n / 2 + 1) with
    | none => g_agree D n r i 8 0 0 0
    | some x => g_again D n r i (D 19 x) (D 20 x)
theorem g_first_ge {P : Nat → Bool} {a : Nat} : ∀ {k j x : Nat}, g_firstU P a k j = some x → a + j ≤ x ∧ P x = true := by
  intro k
  induction k with
  | zero => intro j x h; cases h
  | succ k ih =>
    intro j x h
    rw [g_firstU] at h
    by_cases hp : P (a + j) = true
    · rw [if_pos hp] at h; cases h; exact ⟨Nat.le_refl _, hp⟩
    · rw [if_neg hp] at h; have := ih h; exact ⟨by omega, this.2⟩
theorem g_accU_st {a x : Nat} : ∀ {k : Nat}, g_accU D a k = some x → D 18 x = 2 := by
  intro k
  induction k with
  | zero => intro h; cases h
  | succ k ih =>
    intro h
    rw [g_accU] at h
    split at h <;> split at h <;> first | (rename_i z; cases h; exact z.1) | exact ih h
set_option maxHeartbeats 1000000 in
theorem c_Rp_finishOpen (C : cW M b n D) (u40 : uOK D) (hr : r < n) (hi : i < 6 * n) (h3 : D 4 (30 * r + i) < 3) {qa : Nat} (hqa : mR M 105 (aR b n r + 2 + 6 * n) i = some qa) (hp3 : D 14 (30 * r + i) = 3) (hal : D 15 (30 * r + i) = D 9 (30 * r + i)) (hc : D 16 (30 * r + i) = nI (n / 2 + 1)) (hf : D 1641 0 = nI (n / 2)) (hs : ∀ j, j < 6 * n → ∃ s, D 7 (30 * r + j) = nI s ∧ s < 2147483647) : EX eL X_Rp_finishOpen 0 [some (.inr (some (aR b n r))), some (.inl (nI i)), some (.inr (some qa)), none, none, none] [] M (fun x N => x = none ∧ cW N b n (g_fin D n r i) ∧ fr (pC (mdA b n)) 19 M N) := by
  have n5 := C.n5
  have n3 := C.n3
  have S := C.sk
  have hka := C.attk hr hi hqa
  obtain ⟨w, R⟩ : ∃ w, rpts M qa w D (4 * (30 * r + i)) (n / 2 + 1) := by
    obtain ⟨a1, a2⟩ := C.att hr hi
    have hz : ¬ D 13 (30 * r + i) = 0 := fun z => by rw [a1 z] at hqa; cases hqa
    obtain ⟨q', k, e1, e2, e3, e4, e5, e6, e7, e8, e9, w, e10, e11, e12⟩ := a2 hz
    rw [hqa] at e1
    cases e1
    have hkk : k = n / 2 + 1 := by rw [hc] at e4; exact ((neq (by omega) (by omega)).mp e4).symm
    subst hkk
    obtain ⟨y1, y2⟩ := e12 hp3
    exact ⟨w, e2, e10, e11, e6, by omega, by omega, y2⟩
  have R0 := R
  obtain ⟨r1, r2, r3, r4, r5, r6, r7⟩ := R
  have rep : ∀ x, 4 * (30 * r + i) ≤ x → x < 4 * (30 * r + i) + (n / 2 + 1) → ∃ p, rO M w (4 * (30 * r + i)) (some x) = some p ∧ RptOK M p (D 17 x) (D 18 x) (D 19 x) (D 20 x) (D 21 x) (D 22 x) (D 23 x) := by
    intro x h1 h2
    obtain ⟨p, p1, p2⟩ := r7 (x - 4 * (30 * r + i)) (by omega)
    rw [show 4 * (30 * r + i) + (x - 4 * (30 * r + i)) = x by omega] at p2
    exact ⟨p, p1, p2⟩
  refine sg_Rp_finishOpen_0 ⟨qa, rfl, hka, EX.mono (c_At_lastAccepted R0) fun x N hv => ?_⟩
  obtain ⟨rfl, rfl⟩ := hv
  refine ⟨_, rfl, s_kRp S hr, hka, ?_⟩
  rw [d6 (by omega), s_rfa S hr]
  refine EX.mono (c_At_sharedFastVote R0 (by omega) hf (by omega) (by omega)) fun x N hv => ?_
  obtain ⟨rfl, rfl⟩ := hv
  refine ⟨_, rfl, hka, EX.mono (c_At_firstPreaccepted R0) fun x N hv => ?_⟩
  obtain ⟨rfl, rfl⟩ := hv
  refine ⟨_, rfl, ?_⟩
  have agree : ∀ x, 4 * (30 * r + i) ≤ x → x < 4 * (30 * r + i) + (n / 2 + 1) → ¬ D 18 x = 0 → g_fin D n r i = g_agree D n r i (D 19 x) (D 20 x) (D 21 x) (D 22 x) → ∃ q, rO N w (4 * (30 * r + i)) (some x) = some q ∧ mKd N q = 9 ∧ mKd N (aR b n r) = 3 ∧ EX eL X_Rp_beginAccepting 0 [some (.inr (some (aR b n r))), some (.inl (nI i)), some (.inr (some qa)), some (.inr (mR N 1514 q 0))] [] N (fun y L => y = none ∧ (none : Option me_V) = none ∧ cW L b n (g_fin D n r i) ∧ fr (pC (mdA b n)) 19 N L) := by
    intro x h1 h2 h0 he
    obtain ⟨p, p1, t1, t2, t3, t4, t5⟩ := rep x h1 h2
    obtain ⟨o, o1, o2⟩ := t5 h0
    refine ⟨p, p1, t1, s_kRp S hr, ?_⟩
    rw [o1]
    refine EX.mono (c_Rp_beginAccepting C u40 hr hi h3 hqa hal o2) fun y L hv => ?_
    obtain ⟨rfl, w1, w2⟩ := hv
    exact ⟨rfl, rfl, by rw [he]; exact w1, w2.mono (by omega) (fun _ _ _ z => z)⟩
  cases hacc : g_accU D (4 * (30 * r + i)) (n / 2 + 1) with
  | some x =>
    have x1 := g_accU_lt hacc
    have x2 := g_accU_ge hacc
    have he : g_fin D n r i = g_agree D n r i (D 19 x) (D 20 x) (D 21 x) (D 22 x) := by unfold g_fin g_best; rw [hacc]
    have hst : ¬ D 18 x = 0 := by rw [g_accU_st hacc]; decide
    obtain ⟨p, p1, -⟩ := rep x x2 x1
    refine ⟨fun h => ?_, fun _ => agree x x2 x1 hst he⟩
    rw [p1] at h; cases h
  | none =>
    refine ⟨fun _ => ?_, fun h => absurd rfl h⟩
    cases hcom : g_common D (4 * (30 * r + i)) (n / 2 + 1) i with
    | some x =>
      have x1 := g_first_at hcom
      obtain ⟨x2, x3⟩ := g_first_ge hcom
      have he : g_fin D n r i = g_agree D n r i (D 19 x) (D 20 x) (D 21 x) (D 22 x) := by unfold g_fin g_best; rw [hacc]; simp only [hcom]
      have hst : ¬ D 18 x = 0 := by
        have hpl : g_plain D x i = true := by
          cases hh : g_plain D x i
          · rw [same_np hh, decide_eq_true_eq, hf] at x3
            exact absurd x3 (nI_nle (by omega) (by omega))
          · rfl
        simp only [g_plain, Bool.and_eq_true, decide_eq_true_eq] at hpl
        rw [hpl.1.1]; decide
      obtain ⟨p, p1, -⟩ := rep x (by omega) (by omega)
      refine ⟨fun h => ?_, fun _ => agree x (by omega) (by omega) hst he⟩
      rw [p1] at h; cases h
    | none =>
      refine ⟨fun _ => ?_, fun h => absurd rfl h⟩
      cases hpre : g_pre D (4 * (30 * r + i)) (n / 2 + 1) with
      | some x =>
        have x1 := g_first_at hpre
        obtain ⟨x2, x3⟩ := g_first_ge hpre
        rw [decide_eq_true_eq] at x3
        have he : g_fin D n r i = g_again D n r i (D 19 x) (D 20 x) := by unfold g_fin g_best; rw [hacc]; simp only [hcom, hpre]
        obtain ⟨p, p1, t1, t2, t3, t4, t5⟩ := rep x (by omega) (by omega)
        obtain ⟨o, o1, o2, -, -, z, o5, o6⟩ := t5 (by rw [x3]; decide)
        refine ⟨fun h => ?_, fun _ => ⟨p, p1, t1, o, o1, o2, s_kRp S hr, ?_⟩⟩
        · rw [p1] at h; cases h
        · rw [o5]
          refine EX.mono (c_Rp_preacceptAgain C u40 hr hi h3 hqa hp3 hal hs o6) fun y L hv => ?_
          obtain ⟨rfl, w1, w2⟩ := hv
          exact ⟨rfl, rfl, by rw [he]; exact w1, w2.mono (by omega) (fun _ _ _ z => z)⟩
      | none =>
        refine ⟨fun _ => ?_, fun h => absurd rfl h⟩
        have he : g_fin D n r i = g_agree D n r i 8 0 0 0 := by unfold g_fin g_best; rw [hacc]; simp only [hcom, hpre]
        rintro _ _ rfl rfl _ _ rfl rfl
        refine EX.mono c_Cmd_init fun y L hv => ?_
        obtain ⟨rfl, rfl⟩ := hv
        refine ⟨rfl, noOr_kd, EX.mono (c_Or_initg noOr_kd) fun y L hv => ?_⟩
        obtain ⟨rfl, rfl⟩ := hv
        have C1 : cW (noOr N) b n D := C.alloc noOr_fr (noOr_wf C.w)
        have hqa1 : mR (noOr N) 105 (aR b n r + 2 + 6 * n) i = some qa := (noOr_fr.r (C.w.lt (by rw [s_kAtts C.sk hr]; decide)) (fun z => z)).trans hqa
        refine ⟨rfl, s_kRp C1.sk hr, EX.mono (c_Rp_beginAccepting C1 u40 hr hi h3 hqa1 hal noOr_ok) fun y L hv => ?_⟩
        obtain ⟨rfl, w1, w2⟩ := hv
        exact ⟨rfl, rfl, by rw [he]; exact w1, ((nilC noOr_fr (Nat.le_refl _)).trans w2).mono (by omega) (fun _ _ _ z => z)⟩
end FIN
