section HAND6
variable {c : Nat} {M N : me_M} {b n r i : Nat} {D E : me_D}
theorem cnt_parts {a : Nat} {w : Int32} (h : g_cnt? D a w = true) : ¬ D 13 a = 0 ∧ D 15 a = D 9 a ∧ D 4 a < 3 ∧ (D 14 a = w ∨ (w = 1 ∧ D 14 a = 0)) ∧ D 15 a = D 24 444 ∧ D 16 a ≤ 3 := by
  simp only [g_cnt?, Bool.and_eq_true, Bool.or_eq_true, decide_eq_true_eq] at h
  obtain ⟨⟨⟨⟨⟨h1, h2⟩, h3⟩, h4⟩, h5⟩, h6⟩ := h
  exact ⟨h1, h2, h3, h4, h5, h6⟩
set_option maxHeartbeats 1000000 in
theorem c_Rp_onPreacceptOk (C : cW M b n D) (u40 : uOK D) {q fr' : Nat} (G : gotOK M q D n r fr' i) (hk : D 24 440 = 1) (h5 : D 4 (30 * r + i) < 5) (hf2 : D 1641 0 = nI (n / 2)) (hs0 : ¬ D 13 (30 * r + i) = 0 → ¬ D 14 (30 * r + i) = 3 → ¬ D 4 (30 * r + i) = 0) {k : Nat} (hc : D 16 (30 * r + i) = nI k) (hk2 : k ≤ 3) (hk3 : D 4 (30 * r + i) < 3 → (D 14 (30 * r + i) = 0 ∨ D 14 (30 * r + i) = 1) → k ≤ 2) : EX eL X_Rp_onPreacceptOk 0 [some (.inr (some (aR b n r))), some (.inr (some q)), none, none, none, none] [] M (fun x N => x = none ∧ cW N b n (if g_cnt? D (30 * r + i) 1 = true then g_afterPre (g_log D (30 * r + i)) n r i else D) ∧ fr (pC (mdA b n)) 19 M N) := by
  have G0 := G
  obtain ⟨⟨g0, g1, g2, g3, g4, g5, g6, g7⟩, k1, k2, k3, hf, hr, hi⟩ := G
  have S := C.sk
  have n5 := C.n5
  refine sg_Rp_onPreacceptOk_0 ⟨s_kRp S hr, EX.mono (c_Rp_liveAttempt C G0 (by rw [hk]; decide) h5 (Or.inl ⟨rfl, rfl⟩)) fun x N hv => ?_⟩
  obtain ⟨rfl, rfl⟩ := hv
  refine ⟨_, rfl, fun h => ?_, fun h => ?_⟩
  · have hcnt : g_cnt? D (30 * r + i) 1 = true := by
      cases hh : g_cnt? D (30 * r + i) 1
      · rw [hh] at h; exact absurd rfl h
      · rfl
    rw [if_pos hcnt] at h ⊢
    rw [if_pos hcnt]
    obtain ⟨c1, c2, c3, c4, c5, c6⟩ := cnt_parts hcnt
    have h01 : D 14 (30 * r + i) = 0 ∨ D 14 (30 * r + i) = 1 := by
      rcases c4 with z | z
      · exact Or.inr z
      · exact Or.inl z.2
    have kk2 := hk3 c3 h01
    obtain ⟨qa, -, hqa, -⟩ := (C.att hr hi).2 c1
    obtain ⟨p, pp1, pp2⟩ := g6 (Or.inr (Or.inl hk))
    have hlq := C.w.lt (q := q) (by rw [g0]; decide)
    refine ⟨q, rfl, g0, qa, hqa, C.attk hr hi hqa, ?_⟩
    rw [pp1]
    refine EX.mono (c_At_count C hr hi hqa hc kk2 h01 pp2) fun x M1 hv => ?_
    obtain ⟨rfl, C1, hfr1⟩ := hv
    have S1 := C1.sk
    have hz1 : ¬ D 4 (30 * r + i) = 0 := hs0 c1 (by rcases h01 with z | z <;> rw [z] <;> decide)
    have d1s : g_log D (30 * r + i) 4 (30 * r + i) = D 4 (30 * r + i) := g_log_ne (by omega)
    have d1c : g_log D (30 * r + i) 5 (30 * r + i) = D 5 (30 * r + i) := g_log_ne (by omega)
    have d1p : g_log D (30 * r + i) 14 (30 * r + i) = D 14 (30 * r + i) := g_log_ne (by omega)
    have d1f : g_log D (30 * r + i) 1641 0 = nI (n / 2) := (g_log_ne (by omega)).trans hf2
    have d1b : g_log D (30 * r + i) 15 (30 * r + i) = g_log D (30 * r + i) 9 (30 * r + i) := by rw [g_log_ne (by omega), g_log_ne (by omega)]; exact c2
    have d1k : g_log D (30 * r + i) 16 (30 * r + i) = nI (k + 1) := by rw [g_log_ct, hc, p1]
    have d1t : ¬ g_log D (30 * r + i) 13 (30 * r + i) = 0 := by rw [g_log_ne (by omega)]; exact c1
    have u1 : uOK (g_log D (30 * r + i)) := u40.to (g_log_ne (by omega))
    have hct1 : g_ct (g_log D (30 * r + i)) (30 * r + i) = k + 1 := by unfold g_ct; rw [d1k]; exact cl (by omega)
    have e1i : mI M1 1579 q 0 = nI i := (hfr1.i hlq (pA_mut.imm _ _ (by decide) (by decide))).trans (g4.trans k3)
    have kq1 := hfr1.kd C.w g0 (by decide)
    obtain ⟨y, y1, y2, y3, y4, z, y5, y6⟩ := (C1.ent hr hi).2.2.2.2.2.2 (by rw [d1s]; exact hz1)
    have hqa1 : mR M1 105 (aR b n r + 2 + 6 * n) i = some qa := by
      rw [hfr1.r (C.w.lt (by rw [s_kAtts S hr]; decide)) (fun z => absurd z.1 (by decide))]; exact hqa
    have hka1 := C1.attk hr hi hqa1
    have hla1 := C1.w.lt (q := qa) (by rw [hka1]; decide)
    obtain ⟨q', k', f1, f2, f3, f4, f5, f6, f7, f8, f9, -⟩ := (C1.att hr hi).2 d1t
    rw [hqa1] at f1
    cases f1
    have hkk : k' = k + 1 := by rw [d1k] at f4; exact ((neq (by omega) (by omega)).mp f4).symm
    subst hkk
    obtain ⟨v1, v2, v3⟩ := f9 (by omega) (by rw [d1p]; exact h01)
    refine ⟨rfl, s_kRp S1 hr, kq1, _, s_ents S1 hr, s_kEnts S1 hr, ?_, _, ?_, s_kEnt S1 hr hi, y, y1, y2, ?_⟩
    · rw [e1i, s_lEnts S1 hr]; exact vin hi (by omega)
    · rw [e1i, cl (by omega)]; exact s_ent S1 hr hi
    rintro _ _ rfl rfl
    have kn : ∀ {q e : Nat}, mKd M1 q = e → ¬ e = 0 → mKd (mNew M1 8 0 3) q = e := fun {q e} h h0 => by
      rw [mKd_New, if_neg (fun z => by have := C1.w.lt (q := q) (by rw [h]; exact h0); omega)]; exact h
    refine ⟨kn hka1 (by decide), ?_⟩
    rw [y5, mI_New, v2, v3]
    refine EX.mono c_Or_init fun x M2 hv => ?_
    obtain ⟨rfl, rfl⟩ := hv
    have hfr2 : fr (fun _ _ => False) 1 M1 (mkOr M1 (some z) (g_apU (g_log D (30 * r + i)) (30 * r + i) (k + 1)).2.1 (g_apU (g_log D (30 * r + i)) (30 * r + i) (k + 1)).2.2) := mkOr_fr
    have ord := mkOr_ok (s := (g_apU (g_log D (30 * r + i)) (30 * r + i) (k + 1)).2.1) (d := (g_apU (g_log D (30 * r + i)) (30 * r + i) (k + 1)).2.2) C1.w y6
    have C2 := C1.alloc hfr2 (mkOr_wf C1.w)
    have S2 := C2.sk
    have hqa2 := (hfr2.r (i := i) (k := 105) (C1.w.lt (q := aR b n r + 2 + 6 * n) (by rw [s_kAtts S1 hr]; decide)) (fun z => z)).trans hqa1
    have kq2 := hfr2.kd C1.w kq1 (by decide)
    have e2i := (hfr2.i (i := 0) (k := 1579) (C1.w.lt (q := q) (by rw [kq1]; decide)) (fun z => z)).trans e1i
    have r1 := (hfr2.i (i := 0) (k := 1321) hla1 (fun z => z))
    have r2 := (hfr2.i (i := 0) (k := 1325) hla1 (fun z => z)).trans v1
    have r3 := (hfr2.i (i := 0) (k := 1324) hla1 (fun z => z)).trans f6
    have frA : fr (pC (mdA b n)) 1 N (mkOr M1 (some z) (g_apU (g_log D (30 * r + i)) (30 * r + i) (k + 1)).2.1 (g_apU (g_log D (30 * r + i)) (30 * r + i) (k + 1)).2.2) := (attC hfr1 (Nat.le_refl _)).trans (nilC hfr2 (Nat.le_refl _))
    generalize mkOr M1 (some z) (g_apU (g_log D (30 * r + i)) (30 * r + i) (k + 1)).2.1 (g_apU (g_log D (30 * r + i)) (30 * r + i) (k + 1)).2.2 = M2 at *
    refine ⟨rfl, C2.attk hr hi hqa2, ?_⟩
    rw [r1, r2, r3, e2i]
    have slow : ¬ (g_log D (30 * r + i) 14 (30 * r + i) = 0 ∧ (g_apU (g_log D (30 * r + i)) (30 * r + i) (k + 1)).1 = true) → (mKd M2 (aR b n r) = 3 ∧ ((nI (k + 1) < mI M2 1130 (aR b n r) 0) → ((none : Option me_V) = none ∧ cW M2 b n (g_afterPre (g_log D (30 * r + i)) n r i) ∧ fr (pC (mdA b n)) 19 N M2)) ∧ ((¬ nI (k + 1) < mI M2 1130 (aR b n r) 0) → mKd M2 q = 10 ∧ EX eL X_Rp_beginAccepting 0 [some (.inr (some (aR b n r))), some (.inl (nI i)), some (.inr (mR N 105 (aR b n r + 2 + 6 * n) i)), some (.inr (some (mSz M1)))] [] M2 (fun x L => x = none ∧ (none : Option me_V) = none ∧ cW L b n (g_afterPre (g_log D (30 * r + i)) n r i) ∧ fr (pC (mdA b n)) 19 N L))) := by
      intro hx
      rw [s_rfa S2 hr]
      refine ⟨s_kRp S2 hr, fun h7 => ⟨rfl, ?_, frA.mono (by omega) (fun _ _ _ z => z)⟩, fun h7 => ⟨kq2, ?_⟩⟩
      · unfold g_afterPre
        simp only [hct1]
        rw [if_neg hx, if_neg (by rw [d1k, d1f]; exact Int32.not_le.mpr h7)]
        exact C2
      · rw [hqa]
        refine EX.mono (c_Rp_beginAccepting C2 u1 hr hi (by rw [d1s]; exact c3) hqa2 d1b ord) fun x L hv => ?_
        obtain ⟨rfl, w1, w2⟩ := hv
        refine ⟨rfl, rfl, ?_, (frA.trans w2).mono (by omega) (fun _ _ _ z => z)⟩
        unfold g_afterPre
        simp only [hct1]
        rw [if_neg hx, if_pos (by rw [d1k, d1f]; exact Int32.not_lt.mp h7)]
        exact w1
    refine ⟨fun h7 => slow (fun z => ?_), fun h7 => ⟨fun h8 => slow (fun z => ?_), fun h8 => ⟨s_kRp S2 hr, fun h9 => ?_, fun h9 => ⟨kq2, ?_⟩⟩⟩⟩
    · rcases f7 with ⟨x1, x2, x3⟩ | ⟨x1, x2, x3⟩ | ⟨x1, x2⟩ | ⟨x1, x2, x3⟩
      · rw [x3] at h7; exact absurd h7 (by decide)
      · rw [z.1] at x1; exact absurd x1 (by decide)
      · rw [z.1] at x1; exact absurd x1 (by decide)
      · rw [z.1] at x1; exact absurd x1 (by decide)
    · rw [z.2] at h8; exact absurd h8 (by decide)
    · have hph : g_log D (30 * r + i) 14 (30 * r + i) = 0 := by
        rcases f7 with ⟨x1, x2, x3⟩ | ⟨x1, x2, x3⟩ | ⟨x1, x2⟩ | ⟨x1, x2, x3⟩
        · exact x1
        · rw [x3] at h7; exact absurd rfl h7
        · rw [d1p] at x1; rcases h01 with z | z <;> rw [z] at x1 <;> exact absurd x1 (by decide)
        · rw [d1p] at x1; rcases h01 with z | z <;> rw [z] at x1 <;> exact absurd x1 (by decide)
      rw [s_rsz S2 hr] at h9
      refine ⟨rfl, ?_, frA.mono (by omega) (fun _ _ _ z => z)⟩
      unfold g_afterPre
      simp only [hct1]
      rw [if_pos ⟨hph, b01_1 h8⟩, if_neg (by rw [d1k]; exact h9)]
      exact C2
    · have hph : g_log D (30 * r + i) 14 (30 * r + i) = 0 := by
        rcases f7 with ⟨x1, x2, x3⟩ | ⟨x1, x2, x3⟩ | ⟨x1, x2⟩ | ⟨x1, x2, x3⟩
        · exact x1
        · rw [x3] at h7; exact absurd rfl h7
        · rw [d1p] at x1; rcases h01 with z | z <;> rw [z] at x1 <;> exact absurd x1 (by decide)
        · rw [d1p] at x1; rcases h01 with z | z <;> rw [z] at x1 <;> exact absurd x1 (by decide)
      rw [s_rsz S2 hr] at h9
      refine EX.mono (c_Rp_commitHere C2 u1 hr hi (by rw [d1s]; exact c3) ord) fun x L hv => ?_
      obtain ⟨rfl, w1, w2⟩ := hv
      refine ⟨rfl, rfl, ?_, (frA.trans w2).mono (by omega) (fun _ _ _ z => z)⟩
      unfold g_afterPre
      simp only [hct1]
      rw [if_pos ⟨hph, b01_1 h8⟩, if_pos (by rw [d1k]; exact h9)]
      exact w1
  · have hcnt : g_cnt? D (30 * r + i) 1 = false := by
      cases hh : g_cnt? D (30 * r + i) 1
      · rfl
      · rw [hh, if_pos rfl] at h
        obtain ⟨qa, -, hqa, -⟩ := (C.att hr hi).2 (cnt_parts hh).1
        rw [hqa] at h
        cases h
    rw [hcnt, if_neg (by decide)]
    exact ⟨rfl, C, (fr.refl _ _).mono (by omega) (fun _ _ _ z => z)⟩
end HAND6
