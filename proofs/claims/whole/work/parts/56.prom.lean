section PROM
variable {c : Nat} {M N : me_M} {b n r i : Nat} {D E : me_D}
theorem acc_ct {a y : Nat} {v : Int32} : ∀ k, g_accU (dU E 16 a v) y k = g_accU E y k := by
  intro k
  induction k with
  | zero => rfl
  | succ k ih =>
    rw [g_accU, g_accU, ih]
    simp (disch := omega) only [dU_ne]
theorem plain_ct {a y : Nat} {v : Int32} : g_plain (dU E 16 a v) y i = g_plain E y i := by
  unfold g_plain
  simp (disch := omega) only [dU_ne]
theorem same_ct {a y x : Nat} {v : Int32} : ∀ k, g_sameU (dU E 16 a v) y i x k = g_sameU E y i x k := by
  intro k
  induction k with
  | zero => rfl
  | succ k ih =>
    rw [g_sameU, g_sameU, ih, plain_ct, plain_ct]
    simp (disch := omega) only [dU_ne]
theorem common_ct {a y k : Nat} {v : Int32} : g_common (dU E 16 a v) y k i = g_common E y k i := by
  unfold g_common
  congr 1
  funext x
  rw [same_ct, dU_ne _ (by decide)]
theorem pre_ct {a y k : Nat} {v : Int32} : g_pre (dU E 16 a v) y k = g_pre E y k := by
  unfold g_pre
  congr 1
theorem agree_ct {v cd vl s d : Int32} : g_agree (dU E 16 (30 * r + i) v) n r i cd vl s d = g_agree E n r i cd vl s d := by
  unfold g_agree
  rw [dU_ne _ (show ¬ 15 = 16 by decide)]
  congr 1
  unfold g_start g_put
  funext j x
  simp only [dU_at]
  by_cases h : j = 16 ∧ x = 30 * r + i
  · rw [if_pos h, if_pos h]
  · simp only [if_neg h]
theorem fitU_ct {a : Nat} {v cc s d : Int32} (k : Nat) : g_fitU (dU E 16 a v) r i cc s d k = g_fitU E r i cc s d k := g_fitU_congr (fun j _ => ⟨by simp (disch := omega) only [dU_ne], by simp (disch := omega) only [dU_ne], by simp (disch := omega) only [dU_ne]⟩)
theorem again_ct {v cd vl : Int32} : g_again (dU E 16 (30 * r + i) v) n r i cd vl = g_again E n r i cd vl := by
  unfold g_again
  rw [dU_ne _ (show ¬ 15 = 16 by decide)]
  congr 1
  unfold g_start g_fit g_put
  rw [fitU_ct]
  funext j x
  simp only [dU_at]
  by_cases h : j = 16 ∧ x = 30 * r + i
  · rw [if_pos h, if_pos h]
  · simp only [if_neg h]
theorem fin_ct {v : Int32} : g_fin (dU E 16 (30 * r + i) v) n r i = g_fin E n r i := by
  unfold g_fin g_best
  rw [acc_ct, common_ct, pre_ct]
  simp (disch := omega) only [agree_ct, again_ct, dU_ne]
theorem fin_after {k : Nat} (hc : g_ct D (30 * r + i) = k) : g_afterPromise D n r i = g_fin (g_own D r (30 * r + i) k) n r i := by
  unfold g_afterPromise g_fin
  rw [hc]
  dsimp only
  cases g_best (g_own D r (30 * r + i) k) (4 * (30 * r + i)) (n / 2 + 1) i with
  | some b => rfl
  | none =>
    cases g_pre (g_own D r (30 * r + i) k) (4 * (30 * r + i)) (n / 2 + 1) with
    | some b => rfl
    | none => rfl
theorem c_At_countReport (C : cW M b n D) (hr : r < n) (hi : i < 6 * n) {qa : Nat} (hqa : mR M 105 (aR b n r + 2 + 6 * n) i = some qa) (hp3 : D 14 (30 * r + i) = 3) {k : Nat} (hc : D 16 (30 * r + i) = nI k) (hk : k < n / 2 + 1) {p : Nat} {f s cd vl sq dp vt : Int32} (hp : RptOK M p f s cd vl sq dp vt) (hE : ∀ j x, ¬ (j = 16 ∧ x = 30 * r + i) → ¬ (17 ≤ j ∧ j ≤ 23 ∧ x = 4 * (30 * r + i) + k) → E j x = D j x) (e0 : E 16 (30 * r + i) = nI (k + 1)) (e1 : E 17 (4 * (30 * r + i) + k) = f) (e2 : E 18 (4 * (30 * r + i) + k) = s) (e3 : E 19 (4 * (30 * r + i) + k) = cd) (e4 : E 20 (4 * (30 * r + i) + k) = vl) (e5 : E 21 (4 * (30 * r + i) + k) = sq) (e6 : E 22 (4 * (30 * r + i) + k) = dp) (e7 : E 23 (4 * (30 * r + i) + k) = vt) :
    EX eL X_At_countReport 0 [some (.inr (some qa)), some (.inr (some p))] [] M (fun x N => x = none ∧ cW N b n E ∧ fr (pC (mdA b n)) 0 M N ∧ mI N 1324 qa 0 = nI (k + 1) ∧ mR N 105 (aR b n r + 2 + 6 * n) i = some qa) := by
  have n5 := C.n5
  obtain ⟨a1, a2⟩ := C.att hr hi
  have hz : ¬ D 13 (30 * r + i) = 0 := fun z => by rw [a1 z] at hqa; cases hqa
  obtain ⟨q', k', f1, f2, f3, f4, f5, f6, f7, f8, f9, w, f10, f11, f12⟩ := a2 hz
  rw [hqa] at f1
  cases f1
  have hkk : k' = k := by rw [hc] at f4; exact ((neq (by omega) (by omega)).mp f4).symm
  subst hkk
  obtain ⟨y1, y2⟩ := f12 hp3
  have hla := C.w.lt (q := qa) (by rw [f2]; decide)
  have hlw := C.w.lt (q := w) (by rw [f11]; decide)
  refine sg_At_countReport_0 ⟨f2, w, f10, f11, fun h => ?_, fun _ => ⟨?_, p, rfl, hp.1, ?_⟩⟩
  · rw [f6, y1, oN, nle (by omega) (by omega)] at h; omega
  · rw [f6, y1]; exact vin hk (by omega)
  rintro _ rfl _ rfl
  rw [mI_SetR, f6, cl (by omega), p1]
  have hv : fr (fun x y => pA qa x y ∨ (x = 106 ∧ y = w)) 0 M (mSetI (mSetR M 106 w k' (some p)) 1324 qa 0 (nI (k' + 1))) := ((fr.refl _ M).setR (fun _ => Or.inr ⟨rfl, rfl⟩)).setI (fun _ => Or.inl ⟨by decide, by decide, rfl⟩)
  have hm : mutP (fun x y => pA qa x y ∨ (x = 106 ∧ y = w)) := fun x y z => by
    rcases z with z | ⟨rfl, -⟩
    · exact pA_mut x y z
    · rfl
  have x1 : E 13 (30 * r + i) = D 13 (30 * r + i) := hE _ _ (by omega) (by omega)
  have x2 : E 15 (30 * r + i) = D 15 (30 * r + i) := hE _ _ (by omega) (by omega)
  have x3 : E 14 (30 * r + i) = D 14 (30 * r + i) := hE _ _ (by omega) (by omega)
  refine ⟨rfl, C.attu hr hi hqa hv (fun x y z => ?_) ((C.w.setR hlw).setI hla) (fun j x h1 h2 => hE j x (by omega) (by omega)) ⟨fun z => absurd (x1.symm.trans z) hz, fun _ => ⟨qa, k' + 1, rfl, f2, ?_, e0, by omega, ?_, ?_, ?_, fun _ z => ?_, w, ?_, f11, fun _ => ⟨y1, fun j hj => ?_⟩⟩⟩, hv.toC hm (fun q z => ?_) (Nat.le_refl _), ?_, ?_⟩
  · rcases z with z | ⟨rfl, rfl⟩
    · exact Or.inl z
    · exact Or.inr ⟨rfl, f10⟩
  · rw [x2, ← f3]; simp [mI_SetI, mI_SetR]
  · simp [mI_SetI]
  · rw [x3]
    have g1 : mI (mSetI (mSetR M 106 w k' (some p)) 1324 qa 0 (nI (k' + 1))) 1323 qa 0 = mI M 1323 qa 0 := by simp [mI_SetI, mI_SetR]
    have g2 : mI (mSetI (mSetR M 106 w k' (some p)) 1324 qa 0 (nI (k' + 1))) 1321 qa 0 = mI M 1321 qa 0 := by simp [mI_SetI, mI_SetR]
    rw [g1, g2]; exact f7
  · have g1 : mI (mSetI (mSetR M 106 w k' (some p)) 1324 qa 0 (nI (k' + 1))) 1325 qa 0 = mI M 1325 qa 0 := by simp [mI_SetI, mI_SetR]
    rw [g1]; exact f8
  · rw [x3, hp3] at z
    rcases z with z | z <;> exact absurd z (by decide)
  · rw [mR_SetI, mR_SetR, if_neg (fun z => absurd z.1 (by decide))]; exact f10
  · by_cases hj2 : j = k'
    · subst hj2
      refine ⟨p, by rw [mR_SetI, mR_SetR, if_pos ⟨rfl, rfl, rfl⟩], ?_⟩
      rw [e1, e2, e3, e4, e5, e6, e7]
      exact RptOK.fr hv hm.imm C.w hp
    · obtain ⟨p', p1', p2'⟩ := y2 j (by omega)
      refine ⟨p', by rw [mR_SetI, mR_SetR, if_neg (fun z => hj2 z.2.2)]; exact p1', ?_⟩
      rw [hE _ _ (by omega) (by omega), hE _ _ (by omega) (by omega), hE _ _ (by omega) (by omega), hE _ _ (by omega) (by omega), hE _ _ (by omega) (by omega), hE _ _ (by omega) (by omega), hE _ _ (by omega) (by omega)]
      exact RptOK.fr hv hm.imm C.w p2'
  · rcases z with z | ⟨z, -⟩
    · exact absurd z.1 (by decide)
    · exact absurd z (by decide)
  · simp [mI_SetI]
  · rw [mR_SetI, mR_SetR, if_neg (fun z => absurd z.1 (by decide))]; exact hqa
set_option maxHeartbeats 1000000 in
theorem c_Rp_onPromise (C : cW M b n D) (u40 : uOK D) {q fr' : Nat} (G : gotOK M q D n r fr' i) (hk : D 24 440 = 6) (h5 : D 4 (30 * r + i) < 5) (hf2 : D 1641 0 = nI (n / 2)) (hs : ∀ j, j < 6 * n → ∃ s, D 7 (30 * r + j) = nI s ∧ s < 2147483647) {k : Nat} (hc : D 16 (30 * r + i) = nI k) (hk2 : k ≤ 3) (hk3 : D 14 (30 * r + i) = 3 → k < n / 2) : EX eL X_Rp_onPromise 0 [some (.inr (some (aR b n r))), some (.inr (some q)), some (.inr (some (aR b n r + 2 + i))), none] [] M (fun x N => x = none ∧ cW N b n (if g_cnt? D (30 * r + i) 3 = true then (if D 16 (30 * r + i) + 1 = D 1641 0 then g_afterPromise (g_log D (30 * r + i)) n r i else g_log D (30 * r + i)) else D) ∧ fr (pC (mdA b n)) 29 M N) := by
  have G0 := G
  obtain ⟨⟨g0, g1, g2, g3, g4, g5, g6, g7⟩, k1, k2, k3, hf, hr, hi⟩ := G
  have S := C.sk
  have n5 := C.n5
  refine sg_Rp_onPromise_0 ⟨s_kRp S hr, EX.mono (c_Rp_liveAttempt C G0 (by rw [hk]; decide) h5 (Or.inr (Or.inr ⟨rfl, rfl⟩))) fun x N hv => ?_⟩
  obtain ⟨rfl, rfl⟩ := hv
  refine ⟨_, rfl, fun h => ?_, fun h => ?_⟩
  · have hcnt : g_cnt? D (30 * r + i) 3 = true := by
      cases hh : g_cnt? D (30 * r + i) 3
      · rw [hh] at h; exact absurd rfl h
      · rfl
    rw [if_pos hcnt] at h ⊢
    rw [if_pos hcnt]
    obtain ⟨c1, c2, c3, c4, c5, c6⟩ := cnt_parts hcnt
    have h2 : D 14 (30 * r + i) = 3 := by
      rcases c4 with z | z
      · exact z
      · exact absurd z.1 (by decide)
    have kk2 := hk3 h2
    obtain ⟨qa, -, hqa, -⟩ := (C.att hr hi).2 c1
    have hct : g_ct D (30 * r + i) = k := by unfold g_ct; rw [hc]; exact cl (by omega)
    obtain ⟨p, pp1, pp2⟩ := g7 hk
    have hlq := C.w.lt (q := q) (by rw [g0]; decide)
    refine ⟨q, rfl, g0, qa, hqa, C.attk hr hi hqa, ?_⟩
    rw [pp1]
    refine EX.mono (c_At_countReport (E := g_log D (30 * r + i)) C hr hi hqa h2 hc (by omega) pp2 (fun j x z1 z2 => g_log_out hct z2 z1) (by rw [g_log_ct, hc, p1]) ?_ ?_ ?_ ?_ ?_ ?_ ?_) fun x M1 hv => ?_
    · unfold g_log; rw [hct]; simp (disch := omega) only [dU_ne, dU_eq]
    · unfold g_log; rw [hct]; simp (disch := omega) only [dU_ne, dU_eq]
    · unfold g_log; rw [hct]; simp (disch := omega) only [dU_ne, dU_eq]
    · unfold g_log; rw [hct]; simp (disch := omega) only [dU_ne, dU_eq]
    · unfold g_log; rw [hct]; simp (disch := omega) only [dU_ne, dU_eq]
    · unfold g_log; rw [hct]; simp (disch := omega) only [dU_ne, dU_eq]
    · unfold g_log; rw [hct]; simp (disch := omega) only [dU_ne, dU_eq]
    obtain ⟨rfl, C1, fr1, rp1, hqa1⟩ := hv
    have S1 := C1.sk
    refine ⟨rfl, C1.attk hr hi hqa1, s_kRp S1 hr, ?_⟩
    rw [rp1, s_rfa S1 hr, hc, p1, hf2]
    refine ⟨fun h7 => ?_, fun h7 => ?_⟩
    · rw [if_neg h7]
      exact ⟨rfl, C1, fr1.mono (by omega) (fun _ _ _ z => z)⟩
    · rw [if_pos h7]
      have hkn : k + 1 = n / 2 := (neq (by omega) (by omega)).mp h7
      rintro _ _ rfl rfl
      have hle1 := C1.w.lt (q := aR b n r + 2 + i) (by rw [s_kEnt S1 hr hi]; decide)
      have hkr : mKd (mNew M1 9 0 4) (aR b n r) = 3 := by
        rw [mKd_New, if_neg (fun z => by have := C1.w.lt (q := aR b n r) (by rw [s_kRp S1 hr]; decide); omega)]; exact s_kRp S1 hr
      refine ⟨hkr, ?_⟩
      rw [mI_New, s_num S1 hr]
      refine EX.mono (c_Rt_init (s_kEnt S1 hr hi) hle1) fun x L hx => ?_
      obtain ⟨rfl, rfl⟩ := hx
      have f2 : fr (fun _ _ => False) 1 M1 (mkRt M1 (nI r) (aR b n r + 2 + i)) := mkRt_fr
      have C2 := C1.alloc f2 (mkRt_wf C1.w)
      have hqa2 : mR (mkRt M1 (nI r) (aR b n r + 2 + i)) 105 (aR b n r + 2 + 6 * n) i = some qa := (f2.r (C1.w.lt (by rw [s_kAtts S1 hr]; decide)) (fun z => z)).trans hqa1
      obtain ⟨v1, v2, v3, v4, v5, v6, v7⟩ := C1.ent hr hi
      have rp : RptOK (mkRt M1 (nI r) (aR b n r + 2 + i)) (mSz M1) (nI r) (g_log D (30 * r + i) 4 (30 * r + i)) (g_log D (30 * r + i) 5 (30 * r + i)) (g_log D (30 * r + i) 6 (30 * r + i)) (g_log D (30 * r + i) 7 (30 * r + i)) (g_log D (30 * r + i) 8 (30 * r + i)) (g_log D (30 * r + i) 10 (30 * r + i)) := by
        refine ⟨kd_new (b := 0) (c := 4), ?_, ?_, ?_, fun z => ?_⟩
        · simp [mkRt, mI_SetI, mI_SetR]
        · rw [← v1]; simp [mkRt, mI_SetI, mI_SetR]
        · rw [← v3]; simp [mkRt, mI_SetI, mI_SetR]
        · have e : mR (mkRt M1 (nI r) (aR b n r + 2 + i)) 1514 (mSz M1) 0 = mR M1 1193 (aR b n r + 2 + i) 0 := by simp [mkRt, mR_SetI, mR_SetR]
          rw [e]
          exact OrdR.fr f2 immF C1.w (v7 z)
      have d1k : g_log D (30 * r + i) 16 (30 * r + i) = nI (k + 1) := by rw [g_log_ct, hc, p1]
      have d1p : g_log D (30 * r + i) 14 (30 * r + i) = 3 := (g_log_ne (by omega)).trans h2
      have hct1 : g_ct (g_log D (30 * r + i)) (30 * r + i) = k + 1 := by unfold g_ct; rw [d1k]; exact cl (by omega)
      refine ⟨rfl, C2.attk hr hi hqa2, EX.mono (c_At_countReport (E := dU (g_own (g_log D (30 * r + i)) r (30 * r + i) (k + 1)) 16 (30 * r + i) (nI (k + 1 + 1))) C2 hr hi hqa2 d1p d1k (by omega) rp (fun j x z1 z2 => ?_) (by rw [dU_eq]) ?_ ?_ ?_ ?_ ?_ ?_ ?_) fun x M3 hv => ?_⟩
      · unfold g_own; simp (disch := omega) only [dU_out]
      · unfold g_own; simp (disch := omega) only [dU_ne, dU_eq]
      · unfold g_own; simp (disch := omega) only [dU_ne, dU_eq]
      · unfold g_own; simp (disch := omega) only [dU_ne, dU_eq]
      · unfold g_own; simp (disch := omega) only [dU_ne, dU_eq]
      · unfold g_own; simp (disch := omega) only [dU_ne, dU_eq]
      · unfold g_own; simp (disch := omega) only [dU_ne, dU_eq]
      · unfold g_own; simp (disch := omega) only [dU_ne, dU_eq]
      obtain ⟨rfl, C3, fr3, rp3, hqa3⟩ := hv
      have frA := (fr1.trans (nilC f2 (Nat.le_refl _))).trans fr3
      have kq3 : mKd M3 q = 10 := frA.kd C.w g0 (by decide)
      have ei3 : mI M3 1579 q 0 = nI i := (frA.i hlq (pC_mut.imm _ _ (by decide) (by decide))).trans (g4.trans k3)
      refine ⟨rfl, kq3, s_kRp C3.sk hr, ?_⟩
      rw [ei3, hqa]
      have ne : ∀ j x, (j < 16 ∨ 23 < j) → dU (g_own (g_log D (30 * r + i)) r (30 * r + i) (k + 1)) 16 (30 * r + i) (nI (k + 1 + 1)) j x = D j x := fun j x hj => by
        rw [dU_ne _ (by omega), g_own_ne (by omega), g_log_ne (by omega)]
      refine EX.mono (c_Rp_finishOpen C3 (u40.to (ne _ _ (by omega))) hr hi (by rw [ne _ _ (by omega)]; exact c3) hqa3 ((ne _ _ (by omega)).trans h2) (by rw [ne _ _ (by omega), ne _ _ (by omega)]; exact c2) (by rw [dU_eq, hkn]) ((ne _ _ (by omega)).trans hf2) (fun j hj => by rw [ne _ _ (by omega)]; exact hs j hj)) fun x L hv => ?_
      obtain ⟨rfl, w1, w2⟩ := hv
      refine ⟨rfl, rfl, ?_, (frA.trans w2).mono (by omega) (fun _ _ _ z => z)⟩
      rw [fin_after hct1, ← fin_ct (v := nI (k + 1 + 1))]
      exact w1
  · have hcnt : g_cnt? D (30 * r + i) 3 = false := by
      cases hh : g_cnt? D (30 * r + i) 3
      · rfl
      · rw [hh, if_pos rfl] at h
        obtain ⟨qa, -, hqa, -⟩ := (C.att hr hi).2 (cnt_parts hh).1
        rw [hqa] at h
        cases h
    rw [hcnt, if_neg (by decide)]
    exact ⟨rfl, C, (fr.refl _ _).mono (by omega) (fun _ _ _ z => z)⟩
end PROM
