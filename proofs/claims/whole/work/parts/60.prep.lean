section PREP
variable {c : Nat} {M N : me_M} {b n r i : Nat} {D E : me_D}
def mkAt (M : me_M) (bl ph fs : Int32) (k : Nat) : me_M := mSetR (mNew (mSetI (mSetI (mSetI (mNew M 6 0 8) 1320 (mSz M) 0 bl) 1323 (mSz M) 0 ph) 1321 (mSz M) 0 fs) 106 k k) 1322 (mSz M) 0 (some (mSz M + 1))
theorem c_At_init {bl ph fs : Int32} {k : Nat} (hf : fs = 0 ∨ fs = 1) (hk : k ≤ 3) : EX eL X_At_init 0 [some (.inr (some (mSz M))), some (.inl bl), some (.inl ph), some (.inl fs), some (.inl (nI k))] [] (mNew M 6 0 8) (fun r N => r = none ∧ N = mkAt M bl ph fs k) := by
  refine sg_At_init_0 ⟨kd_new, ?_⟩
  rintro _ rfl _ rfl
  refine ⟨hf, ?_⟩
  rintro _ rfl
  refine ⟨nI_pos (by omega), by rw [cl (by omega)]; omega, ?_⟩
  rw [cl (by omega)]
  rintro _ _ rfl rfl
  refine ⟨?_, ?_⟩
  · show (if mSz M = mSz M + 1 then 106 else (if mSz M = mSz M then 6 else mKd M (mSz M))) = 6
    rw [if_neg (by omega), if_pos rfl]
  · rintro _ rfl
    exact ⟨rfl, rfl⟩
theorem mkAt_fr {P : Nat → Nat → Prop} {bl ph fs : Int32} {k : Nat} (hk : k ≤ 3) : fr P 2 M (mkAt M bl ph fs k) := ((((((fr.refl P M).new (by decide)).setI (fun h => absurd h (Nat.lt_irrefl _))).setI (fun h => absurd h (Nat.lt_irrefl _))).setI (fun h => absurd h (Nat.lt_irrefl _))).new (by omega)).setR (fun h => absurd h (Nat.lt_irrefl _))
theorem mkAt_wf (w : wf M) {bl ph fs : Int32} {k : Nat} : wf (mkAt M bl ph fs k) := (((((w.new.setI (show mSz M < mSz M + 1 from Nat.lt_succ_self _)).setI (show mSz M < mSz M + 1 from Nat.lt_succ_self _)).setI (show mSz M < mSz M + 1 from Nat.lt_succ_self _)).new).setR (show mSz M < mSz M + 1 + 1 by omega))
/-- a new attempt is put into its place -/
theorem att_new (C : cW M b n D) (hr : r < n) (hi : i < 6 * n) {bl ph fs w : Int32} {k : Nat} (hk : k ≤ 3) (hw : (ph = 1 ∧ fs = 1 ∧ w = 0) ∨ (ph = 0 ∧ fs = 0 ∧ w = 3 ∧ k = n / 2 + 1)) : cW (mSetR (mkAt M bl ph fs k) 105 (aR b n r + 2 + 6 * n) i (some (mSz M))) b n (g_start D (30 * r + i) w bl) ∧ fr (fun x y => x = 105 ∧ y = aR b n r + 2 + 6 * n) 2 M (mSetR (mkAt M bl ph fs k) 105 (aR b n r + 2 + 6 * n) i (some (mSz M))) := by
  have hl := C.w.lt (q := aR b n r + 2 + 6 * n) (by rw [s_kAtts C.sk hr]; decide)
  have hf : fr (fun x y => x = 105 ∧ y = aR b n r + 2 + 6 * n) 2 M (mSetR (mkAt M bl ph fs k) 105 (aR b n r + 2 + 6 * n) i (some (mSz M))) := (mkAt_fr hk).setR (fun _ => ⟨rfl, rfl⟩)
  have z := (C.w (mSz M) (Nat.le_refl _)).2
  refine ⟨C.attn hr hi (qa := mSz M) ?_ (Nat.le_refl _) (fun v hv => ?_) (fun j hj => ?_) hf (fun _ _ z => z) ((mkAt_wf C.w).setR (show aR b n r + 2 + 6 * n < mSz M + 1 + 1 by omega)) (fun j x h1 => by unfold g_start; simp (disch := omega) only [dU_out]) ⟨fun y => ?_, fun _ => ⟨mSz M, 0, rfl, ?_, ?_, ?_, by decide, ?_, ?_, Or.inl ?_, fun y => absurd y (Nat.lt_irrefl _), mSz M + 1, ?_, ?_, fun y => ?_⟩⟩, hf⟩
  · rw [mR_SetR, if_pos ⟨rfl, rfl, rfl⟩]
  · rw [mR_SetR, if_neg (fun z => absurd z.1 (by decide)), mkAt, mR_SetR, if_pos ⟨rfl, rfl, rfl⟩] at hv
    cases hv
    omega
  · rw [mR_SetR, if_neg (fun z => hj z.2.2), mkAt, mR_SetR, if_neg (fun z => absurd z.1 (by decide))]
    rfl
  · unfold g_start at y
    simp (disch := omega) only [dU_ne, dU_eq] at y
    exact absurd y (by decide)
  · show (if mSz M = mSz M + 1 then 106 else (if mSz M = mSz M then 6 else mKd M (mSz M))) = 6
    rw [if_neg (by omega), if_pos rfl]
  · unfold g_start
    simp (disch := omega) only [dU_ne, dU_eq]
    simp [mkAt, mI_SetI, mI_SetR, mI_New]
  · unfold g_start
    rw [dU_eq]; rfl
  · simp only [mkAt, mI_SetI, mI_SetR, mI_New, Nat.reduceEqDiff, false_and, if_false]
    exact (z _ 0).1
  · unfold g_start
    simp (disch := omega) only [dU_ne, dU_eq]
    rcases hw with ⟨rfl, rfl, rfl⟩ | ⟨rfl, rfl, rfl, -⟩
    · exact Or.inl ⟨rfl, by simp [mkAt, mI_SetI, mI_SetR, mI_New], by simp [mkAt, mI_SetI, mI_SetR, mI_New]⟩
    · exact Or.inr (Or.inr (Or.inr ⟨rfl, by simp [mkAt, mI_SetI, mI_SetR, mI_New], by simp [mkAt, mI_SetI, mI_SetR, mI_New]⟩))
  · simp only [mkAt, mI_SetI, mI_SetR, mI_New, Nat.reduceEqDiff, false_and, if_false]
    exact (z _ 0).1
  · rw [mR_SetR, if_neg (fun z => absurd z.1 (by decide)), mkAt, mR_SetR, if_pos ⟨rfl, rfl, rfl⟩]
  · show (if mSz M + 1 = mSz M + 1 then 106 else _) = 106
    rw [if_pos rfl]
  · refine ⟨?_, fun j hj => absurd hj (Nat.not_lt_zero _)⟩
    show (if mSz M + 1 = mSz M + 1 then k else _) = n / 2 + 1
    rw [if_pos rfl]
    unfold g_start at y
    simp (disch := omega) only [dU_ne, dU_eq] at y
    rcases hw with ⟨-, -, rfl⟩ | ⟨-, -, -, h⟩
    · exact absurd y (by decide)
    · exact h
theorem newC {m d : Nat} (h : fr (fun x y => x = 105 ∧ y = aR b n r + 2 + 6 * n) c M N) (hd : c ≤ d) : fr (pC m) d M N := h.toC (fun k q z => by rw [z.1]; rfl) (fun q z => absurd z.1 (by decide)) hd
theorem ballot_spec (n r : Nat) : ∀ k bb, (∃ j, j < k ∧ (bb + j) % n = r) → g_ballotU n r k bb % n = r ∧ bb ≤ g_ballotU n r k bb ∧ g_ballotU n r k bb < bb + k := by
  intro k
  induction k with
  | zero => rintro bb ⟨j, hj, -⟩; omega
  | succ k ih =>
    rintro bb ⟨j, hj, hjr⟩
    rw [g_ballotU]
    by_cases h : bb % n = r
    · rw [if_pos h]; exact ⟨h, Nat.le_refl _, by omega⟩
    · rw [if_neg h]
      have := ih (bb + 1) ⟨j - 1, by rcases j with _ | j; exact absurd hjr h; omega, by
        rcases j with _ | j
        · exact absurd hjr h
        · rw [← hjr]; congr 1; omega⟩
      exact ⟨this.1, by omega, by omega⟩
theorem c_Rp_nextBallot (C : cW M b n D) (hr : r < n) {p : Nat} (hp : p < 1000000) : EX eL X_Rp_nextBallot 0 [some (.inr (some (aR b n r))), some (.inl (nI p)), none] [] M (fun x N => x = some (.inl (nI (g_ballotU n r n (p + 1)))) ∧ N = M) := by
  have S := C.sk
  have n5 := C.n5
  have n3 := C.n3
  have sp := ballot_spec n r n (p + 1) (by
    refine ⟨(r + n - (p + 1) % n) % n, Nat.mod_lt _ (by omega), ?_⟩
    rcases C.1 with h | h <;> subst h <;> omega)
  refine sg_Rp_nextBallot_0 ⟨s_kRp S hr, by rw [s_rsz S hr]; exact nne0 (by omega) (by omega), ?_⟩
  rintro _ rfl
  rw [s_rsz S hr, s_num S hr, nrem (by omega) (by omega) (by omega), nI_sub (Nat.mod_le _ _), nI_add, nI_add]
  rw [nle (by have := Nat.mod_le p n; omega) (by omega)]
  refine ⟨fun h => ⟨?_, rfl⟩, fun h => ⟨?_, rfl⟩⟩
  · congr 3
    rcases C.1 with h' | h' <;> subst h' <;> omega
  · congr 3
    rcases C.1 with h' | h' <;> subst h' <;> omega
set_option maxHeartbeats 1000000 in
theorem c_Rp_startPreparing (C : cW M b n D) (u40 : uOK D) (hr : r < n) (hi : i < 6 * n) {p : Nat} (hp : D 9 (30 * r + i) = nI p) (hp9 : p < 1000000) : EX eL X_Rp_startPreparing 0 [some (.inr (some (aR b n r))), some (.inl (nI i)), none] [] M (fun x N => x = some (.inl (g_ballot D n r i)) ∧ cW N b n (g_prepare D n r i) ∧ fr (pC (mdA b n)) 9 M N) := by
  have S := C.sk
  have n5 := C.n5
  have E0 := C.ent hr hi
  have hg : g_ballot D n r i = nI (g_ballotU n r n (p + 1)) := by unfold g_ballot g_nat; rw [hp, cl (by omega)]
  have hle := C.w.lt (q := aR b n r + 2 + i) (by rw [s_kEnt S hr hi]; decide)
  have vI : vp_in (nI i) (mLn M (aR b n r + 1)) := by rw [s_lEnts S hr]; exact vin hi (by omega)
  refine sg_Rp_startPreparing_0 ⟨s_kRp S hr, _, s_ents S hr, s_kEnts S hr, vI, _, by rw [cl (by omega)]; exact s_ent S hr hi, s_kEnt S hr hi, ?_⟩
  rw [E0.2.1, hp]
  refine EX.mono (c_Rp_nextBallot C hr hp9) fun x N hv => ?_
  obtain ⟨rfl, rfl⟩ := hv
  rw [← hg]
  refine ⟨_, rfl, s_kRp S hr, _, s_ents S hr, s_kEnts S hr, vI, _, by rw [cl (by omega)]; exact s_ent S hr hi, s_kEnt S hr hi, ?_⟩
  rintro _ rfl _ _ rfl rfl
  have hv : fr (pE (aR b n r + 2 + i)) 0 N (mSetI N 1194 (aR b n r + 2 + i) 0 (g_ballot D n r i)) := (fr.refl _ N).setI (fun _ => ⟨by decide, by decide, rfl⟩)
  have C1 : cW (mSetI N 1194 (aR b n r + 2 + i) 0 (g_ballot D n r i)) b n (dU D 9 (30 * r + i) (g_ballot D n r i)) := by
    obtain ⟨f1, f2, f3, f4, f5, f6, f7⟩ := E0
    refine C.entc hr hi hv (fun _ _ z => z) (C.w.setI hle) (fun j x hx => by simp (disch := omega) only [dU_out]) (by rw [dU_ne _ (by decide)]) ⟨?_, ?_, ?_, ?_, ?_, fun z => ?_, fun z => ?_⟩
    · rw [dU_ne _ (by decide), ← f1]; simp [mI_SetI]
    · rw [dU_eq]; simp [mI_SetI]
    · rw [dU_ne _ (by decide), ← f3]; simp [mI_SetI]
    · rw [dU_ne _ (by decide), ← f4]; simp [mI_SetI]
    · rw [dU_ne _ (by decide), ← f5]; simp [mI_SetI]
    · rw [dU_ne _ (by decide)] at z; exact f6 z
    · rw [dU_ne _ (by decide)] at z
      simp (disch := omega) only [dU_ne]
      exact OrdR.fr hv pE_mut.imm C.w (f7 z)
  generalize mSetI N 1194 (aR b n r + 2 + i) 0 (g_ballot D n r i) = M1 at *
  have S1 := C1.sk
  have kn : ∀ {q e : Nat}, mKd M1 q = e → ¬ e = 0 → mKd (mNew M1 6 0 8) q = e := fun {q e} h h0 => by
    rw [mKd_New, if_neg (fun z => by have := C1.w.lt (q := q) (by rw [h]; exact h0); omega)]; exact h
  refine ⟨kn (s_kRp S1 hr) (by decide), ?_⟩
  rw [mI_New, s_rfa S1 hr, p1]
  refine EX.mono (c_At_init (Or.inl rfl) (by omega)) fun x L hv => ?_
  obtain ⟨rfl, rfl⟩ := hv
  have f2 : fr (fun _ _ => False) 2 M1 (mkAt M1 (g_ballot D n r i) 0 0 (n / 2 + 1)) := mkAt_fr (by omega)
  have kA := f2.kd C1.w (s_kAtts S1 hr) (by decide)
  have lA : mLn (mkAt M1 (g_ballot D n r i) 0 0 (n / 2 + 1)) (aR b n r + 2 + 6 * n) = 6 * n := (f2.2.1 _ (C1.w.lt (by rw [s_kAtts S1 hr]; decide))).2.trans (s_lAtts S1 hr)
  refine ⟨rfl, _, s_atts S1 hr, kA, by rw [lA]; exact vin hi (by omega), ?_, ?_⟩
  · show (if mSz M1 = mSz M1 + 1 then 106 else (if mSz M1 = mSz M1 then 6 else mKd M1 (mSz M1))) = 6
    rw [if_neg (by omega), if_pos rfl]
  · rintro _ rfl
    rw [cl (by omega)]
    obtain ⟨C2, f3⟩ := att_new (bl := g_ballot D n r i) (ph := 0) (fs := 0) (w := 3) (k := n / 2 + 1) C1 hr hi (by omega) (Or.inr ⟨rfl, rfl, rfl, rfl⟩)
    refine ⟨s_kRp C2.sk hr, EX.mono (c_Rp_sendToOthers (bb := g_ballot D n r i) C2 (u40.to ?_) hr (fun _ => rfl) (by decide) (fun z => absurd z (by decide))) fun x L hv => ?_⟩
    · unfold g_start; simp (disch := omega) only [dU_ne]
    · obtain ⟨rfl, w1, w2⟩ := hv
      exact ⟨rfl, rfl, w1, (((entC hv (Nat.le_refl _)).trans (newC f3 (Nat.le_refl _))).trans (netC w2 (Nat.le_refl _))).mono (by omega) (fun _ _ _ z => z)⟩
end PREP
