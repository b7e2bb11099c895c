section DELIV
variable {c : Nat} {M N : me_M} {b n r i : Nat} {D E : me_D}
theorem c_LM_deliver_bad (C : cW M b n D) {v : Int32} (hv : v < 0 ∨ ¬ v < D 1666 0) : EX eL X_LM_deliver 0 [some (.inr (some b)), some (.inl v), none] [] M (fun x N => x = some (.inl (-1)) ∧ N = M) := by
  refine sg_LM_deliver_0 ⟨s_kLM C.sk, _, s_net C.sk, s_kNet C.sk, EX.mono (c_Net_take_bad C hv) fun x N hv => ?_⟩
  obtain ⟨rfl, rfl⟩ := hv
  exact ⟨_, rfl, fun h => absurd rfl h, fun _ => ⟨rfl, rfl⟩⟩
/-- the ranges of D stay when a message is taken -/
theorem dI_take (I : dI D n c) {u k : Nat} (hu : D 1666 0 = nI u) (h40 : u ≤ 40) (hk : k < u) : dI (g_take D k) n c := by
  obtain ⟨i1, i2, i3, u40, i5, i6, i7⟩ := I
  have hg := g_un_of hu h40
  have hg2 : g_un (g_take D k) = u - 1 := g_un_of (uOK_take hu h40 hk) (by omega)
  refine ⟨?_, ?_, ?_, ⟨u - 1, uOK_take hu h40 hk, by omega⟩, fun r hr => ?_, fun t ht => ?_, fun r i hr hi => ?_⟩
  · rw [g_take_ne (by decide) (by decide)]; exact i1
  · rw [g_take_ne (by decide) (by decide)]; exact i2
  · rw [g_take_ne (by decide) (by decide)]; exact i3
  · rw [g_take_ne (by decide) (by decide)]; exact i5 r hr
  · rw [hg2] at ht
    have h := i6 (if t < k then t else t + 1) (by rw [hg]; split <;> omega)
    unfold msgI at h ⊢
    have t0 := take_old (j := 0) hu h40 hk ht (by decide)
    rw [Nat.add_zero, Nat.add_zero] at t0
    rw [t0, take_old hu h40 hk ht (by decide), take_old hu h40 hk ht (by decide), take_old hu h40 hk ht (by decide), take_old hu h40 hk ht (by decide), take_old hu h40 hk ht (by decide), take_old hu h40 hk ht (by decide), take_old hu h40 hk ht (by decide)]
    exact h
  · have h := i7 r i hr hi
    unfold entI at h ⊢
    simp (disch := omega) only [g_take_ne]
    exact h
set_option maxHeartbeats 1000000 in
theorem c_LM_deliver_ok (C : cW M b n D) (I : dI D n c) (hc9 : c ≤ 100000) {u k : Nat} (hu : D 1666 0 = nI u) (h40 : u ≤ 40) (hk : k < u) : EX eL X_LM_deliver 0 [some (.inr (some b)), some (.inl (nI k)), none] [] M (fun x N => x = some (.inl (g_take D k 24 440)) ∧ cW N b n (g_deliver D n k) ∧ fr (pC (mdA b n)) 29 M N) := by
  have n5 := C.n5
  have hg := g_un_of hu h40
  obtain ⟨kd, fr', to, i, bb, m1, m2, m3, m4, m5, m6, m7, m8, -⟩ := I.2.2.2.2.2.1 k (by omega)
  refine sg_LM_deliver_0 ⟨s_kLM C.sk, _, s_net C.sk, s_kNet C.sk, EX.mono (c_Net_take_ok C hu h40 hk) fun x M1 hv => ?_⟩
  obtain ⟨q, rfl, h1, C1, f1⟩ := hv
  have S1 := C1.sk
  have t0 : g_take D k 24 440 = nI kd := (take_got (j := 0) hu h40 hk (by decide)).trans m1
  have t1 : g_take D k 24 441 = nI fr' := (take_got (j := 1) hu h40 hk (by decide)).trans m3
  have t2 : g_take D k 24 442 = nI to := (take_got (j := 2) hu h40 hk (by decide)).trans m5
  have t3 : g_take D k 24 443 = nI i := (take_got (j := 3) hu h40 hk (by decide)).trans m7
  have er : mI M1 1578 q 0 = nI to := h1.2.2.2.1.trans t2
  have hd : g_deliver D n k = if g_take D k 1 to = 0 then g_receive (g_take D k) n (g_take D k 24 440) to fr' i else g_take D k := by
    unfold g_deliver g_nat
    dsimp only
    rw [t1, t2, t3, cl (by omega), cl (by omega), cl (by omega)]
  have hlq := C1.w.lt (q := q) (by rw [h1.1]; decide)
  refine ⟨_, rfl, fun _ => ⟨s_kLM S1, q, rfl, h1.1, _, s_reps S1, s_kReps S1, ?_, _, ?_, s_kRp S1 m6, EX.mono (c_Rp_receive C1 (dI_take I hu h40 hk) hc9 ⟨h1, t1, t2, t3, m4, m6, m8⟩ t0 m2) fun x N hv => ?_⟩, (fun h => by cases h)⟩
  · rw [er, s_lReps S1]; exact vin m6 (by omega)
  · rw [er, cl (by omega)]; exact s_rep S1 m6
  · obtain ⟨rfl, w1, w2⟩ := hv
    refine ⟨rfl, w2.kd C1.w h1.1 (by decide), ?_, ?_, ((netC f1 (Nat.le_refl _)).trans w2).mono (by omega) (fun _ _ _ z => z)⟩
    · rw [w2.i hlq (pC_mut.imm _ _ (by decide) (by decide)), h1.2.1]
    · rw [hd]; exact w1
end DELIV
