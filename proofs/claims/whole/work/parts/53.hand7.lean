section HAND7
variable {c : Nat} {M N : me_M} {b n r i : Nat} {D E : me_D}
set_option maxHeartbeats 1000000 in
theorem c_Rp_onAcceptOk (C : cW M b n D) (u40 : uOK D) {q fr' : Nat} (G : gotOK M q D n r fr' i) (hk : D 24 440 = 3) (h5 : D 4 (30 * r + i) < 5) (hf2 : D 1641 0 = nI (n / 2)) (hs0 : ¬ D 13 (30 * r + i) = 0 → ¬ D 14 (30 * r + i) = 3 → ¬ D 4 (30 * r + i) = 0) {k : Nat} (hc : D 16 (30 * r + i) = nI k) (hk2 : k ≤ 3) (hk3 : D 4 (30 * r + i) < 3 → D 14 (30 * r + i) = 2 → k ≤ 2) : EX eL X_Rp_onAcceptOk 0 [some (.inr (some (aR b n r))), some (.inr (some q)), none] [] M (fun x N => x = none ∧ cW N b n (if g_cnt? D (30 * r + i) 2 = true then (if D 16 (30 * r + i) + 1 = D 1641 0 then g_finish (g_log D (30 * r + i)) n r i (D 7 (30 * r + i)) (D 8 (30 * r + i)) else g_log D (30 * r + i)) else D) ∧ fr (pC (mdA b n)) 19 M N) := by
  have G0 := G
  obtain ⟨⟨g0, g1, g2, g3, g4, g5, g6, g7⟩, k1, k2, k3, hf, hr, hi⟩ := G
  have S := C.sk
  have n5 := C.n5
  refine sg_Rp_onAcceptOk_0 ⟨s_kRp S hr, EX.mono (c_Rp_liveAttempt C G0 (by rw [hk]; decide) h5 (Or.inr (Or.inl ⟨rfl, rfl⟩))) fun x N hv => ?_⟩
  obtain ⟨rfl, rfl⟩ := hv
  refine ⟨_, rfl, fun h => ?_, fun h => ?_⟩
  · have hcnt : g_cnt? D (30 * r + i) 2 = true := by
      cases hh : g_cnt? D (30 * r + i) 2
      · rw [hh] at h; exact absurd rfl h
      · rfl
    rw [if_pos hcnt] at h ⊢
    rw [if_pos hcnt]
    obtain ⟨c1, c2, c3, c4, c5, c6⟩ := cnt_parts hcnt
    have h2 : D 14 (30 * r + i) = 2 := by
      rcases c4 with z | z
      · exact z
      · exact absurd z.1 (by decide)
    have kk2 := hk3 c3 h2
    obtain ⟨qa, k', hqa, f2, f3, f4, f5, f6, f7, f8, -⟩ := (C.att hr hi).2 c1
    have hkk : k' = k := by rw [hc] at f4; exact ((neq (by omega) (by omega)).mp f4).symm
    subst hkk
    have hlq := C.w.lt (q := q) (by rw [g0]; decide)
    have hla := C.w.lt (q := qa) (by rw [f2]; decide)
    refine ⟨qa, hqa, f2, ?_⟩
    rintro _ rfl
    rw [f6, p1]
    have hv : fr (pA qa) 0 N (mSetI N 1324 qa 0 (nI (k' + 1))) := (fr.refl _ N).setI (fun _ => ⟨by decide, by decide, rfl⟩)
    have C1 := log_cW C hr hi hqa hc kk2 (by rw [h2]; decide) hv (C.w.setI hla) (by simp [mI_SetI]) (by simp [mI_SetI]) (by simp only [mI_SetI, Nat.reduceEqDiff, false_and, if_false]; exact f8) (fun z => by rw [h2] at z; rcases z with z | z <;> exact absurd z (by decide))
    have er : mI (mSetI N 1324 qa 0 (nI (k' + 1))) 1324 qa 0 = nI (k' + 1) := by simp [mI_SetI]
    generalize mSetI N 1324 qa 0 (nI (k' + 1)) = M1 at *
    have S1 := C1.sk
    have d1s : g_log D (30 * r + i) 4 (30 * r + i) = D 4 (30 * r + i) := g_log_ne (by omega)
    have u1 : uOK (g_log D (30 * r + i)) := u40.to (g_log_ne (by omega))
    have e1i : mI M1 1579 q 0 = nI i := (hv.i hlq (pA_mut.imm _ _ (by decide) (by decide))).trans (g4.trans k3)
    have kq1 := hv.kd C.w g0 (by decide)
    refine ⟨s_kRp S1 hr, ?_⟩
    rw [er, s_rfa S1 hr, hc, p1, hf2]
    refine ⟨fun h7 => ?_, fun h7 => ?_⟩
    · rw [if_neg h7]
      exact ⟨rfl, C1, (attC hv (Nat.le_refl _)).mono (by omega) (fun _ _ _ z => z)⟩
    · rw [if_pos h7]
      obtain ⟨y, y1, y2⟩ := (C1.ent hr hi).2.2.2.2.2.2 (by rw [d1s]; exact hs0 c1 (by rw [h2]; decide))
      refine ⟨q, rfl, kq1, _, s_ents S1 hr, s_kEnts S1 hr, ?_, _, ?_, s_kEnt S1 hr hi, ?_⟩
      · rw [e1i, s_lEnts S1 hr]; exact vin hi (by omega)
      · rw [e1i, cl (by omega)]; exact s_ent S1 hr hi
      · rw [e1i, y1]
        have q1 : g_log D (30 * r + i) 7 (30 * r + i) = D 7 (30 * r + i) := g_log_ne (by omega)
        have q2 : g_log D (30 * r + i) 8 (30 * r + i) = D 8 (30 * r + i) := g_log_ne (by omega)
        rw [q1, q2] at y2
        refine EX.mono (c_Rp_commitHere C1 u1 hr hi (by rw [d1s]; exact c3) y2) fun x L hv2 => ?_
        obtain ⟨rfl, w1, w2⟩ := hv2
        exact ⟨rfl, rfl, w1, ((attC hv (Nat.le_refl _)).trans w2).mono (by omega) (fun _ _ _ z => z)⟩
  · have hcnt : g_cnt? D (30 * r + i) 2 = false := by
      cases hh : g_cnt? D (30 * r + i) 2
      · rfl
      · rw [hh, if_pos rfl] at h
        obtain ⟨qa, -, hqa, -⟩ := (C.att hr hi).2 (cnt_parts hh).1
        rw [hqa] at h
        cases h
    rw [hcnt, if_neg (by decide)]
    exact ⟨rfl, C, (fr.refl _ _).mono (by omega) (fun _ _ _ z => z)⟩
/-- the reports of an attempt in its first phase -/
def rpts (M : me_M) (qa w : Nat) (D : me_D) (a k : Nat) : Prop := mKd M qa = 6 ∧ mR M 1322 qa 0 = some w ∧ mKd M w = 106 ∧ mI M 1324 qa 0 = nI k ∧ k ≤ mLn M w ∧ mLn M w ≤ 3 ∧ ∀ j, j < k → ∃ p, mR M 106 w j = some p ∧ RptOK M p (D 17 (a + j)) (D 18 (a + j)) (D 19 (a + j)) (D 20 (a + j)) (D 21 (a + j)) (D 22 (a + j)) (D 23 (a + j))
end HAND7
