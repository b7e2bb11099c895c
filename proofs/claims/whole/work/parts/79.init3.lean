section INIT3
variable {L M N : me_M} {b n r i q nb s c : Nat} {D : me_D}
/-- a replica's cells stay, if what lies below x does, but for the r-th place in the replicas' row -/
theorem skQ.same (hn : n = 3 ∨ n = 5) {x : Nat} (h : ∀ y, y < x → mKd N y = mKd M y ∧ mLn N y = mLn M y ∧ ∀ k j, mI N k y j = mI M k y j ∧ (¬ k = 103 → mR N k y j = mR M k y j)) (hq : q + (6 * n + 6) ≤ x) (S : skQ M q n r nb) : skQ N q n r nb := by
  obtain ⟨a1, a2, a3, a4, a5, a6, a7, a8, a9, a10, a11, a12, a13, a14, a15, a16, a17, a18, a19, a20⟩ := S
  have K : ∀ y, y < x → mKd N y = mKd M y := fun y hy => (h y hy).1
  have Ln : ∀ y, y < x → mLn N y = mLn M y := fun y hy => (h y hy).2.1
  have I : ∀ k y j, y < x → mI N k y j = mI M k y j := fun k y j hy => ((h y hy).2.2 k j).1
  have R : ∀ k y j, y < x → ¬ k = 103 → mR N k y j = mR M k y j := fun k y j hy hk => ((h y hy).2.2 k j).2 hk
  refine ⟨fun j hj => ⟨(R _ _ _ (by omega) (by decide)).trans (a1 j hj).1, (K _ (by omega)).trans (a1 j hj).2⟩, (K _ (by omega)).trans a2, (I _ _ _ (by omega)).trans a3, (I _ _ _ (by omega)).trans a4, (I _ _ _ (by omega)).trans a5, (R _ _ _ (by omega) (by decide)).trans a6, (R _ _ _ (by omega) (by decide)).trans a7, (R _ _ _ (by omega) (by decide)).trans a8, (R _ _ _ (by omega) (by decide)).trans a9, (K _ (by omega)).trans a10, (Ln _ (by omega)).trans a11, (K _ (by omega)).trans a12, (Ln _ (by omega)).trans a13, (K _ (by omega)).trans a14, (R _ _ _ (by omega) (by decide)).trans a15, (R _ _ _ (by omega) (by decide)).trans a16, (K _ (by omega)).trans a17, (Ln _ (by omega)).trans a18, (K _ (by omega)).trans a19, (Ln _ (by omega)).trans a20⟩
theorem aR_s (b n r : Nat) : aR b n (r + 1) = aR b n r + (6 * n + 6) := by unfold aR; rw [Nat.succ_mul]; omega
theorem aR_le (b : Nat) {n r r' : Nat} (h : r' ≤ r) : aR b n r' ≤ aR b n r := by
  unfold aR
  have := Nat.mul_le_mul_right (6 * n + 6) h
  omega
/-- the head of the skeleton -/
def hd (M : me_M) (b n : Nat) : Prop := mKd M b = 1 ∧ mI M 1000 b 0 = nI n ∧ mI M 1001 b 0 = nI (n / 2) ∧ mR M 1002 b 0 = some (b + 1) ∧ mR M 1003 b 0 = some (b + 3) ∧ mKd M (b + 1) = 2 ∧ mR M 1064 (b + 1) 0 = some (b + 2) ∧ mKd M (b + 2) = 102 ∧ mLn M (b + 2) = 40 ∧ mKd M (b + 3) = 103 ∧ mLn M (b + 3) = n
theorem hd.same {x : Nat} (h : ∀ y, y < x → mKd N y = mKd M y ∧ mLn N y = mLn M y ∧ ∀ k j, mI N k y j = mI M k y j ∧ (¬ k = 103 → mR N k y j = mR M k y j)) (hq : b + 4 ≤ x) (S : hd M b n) : hd N b n := by
  obtain ⟨a1, a2, a3, a4, a5, a6, a7, a8, a9, a10, a11⟩ := S
  have K : ∀ y, y < x → mKd N y = mKd M y := fun y hy => (h y hy).1
  have Ln : ∀ y, y < x → mLn N y = mLn M y := fun y hy => (h y hy).2.1
  have I : ∀ k y j, y < x → mI N k y j = mI M k y j := fun k y j hy => ((h y hy).2.2 k j).1
  have R : ∀ k y j, y < x → ¬ k = 103 → mR N k y j = mR M k y j := fun k y j hy hk => ((h y hy).2.2 k j).2 hk
  exact ⟨(K _ (by omega)).trans a1, (I _ _ _ (by omega)).trans a2, (I _ _ _ (by omega)).trans a3, (R _ _ _ (by omega) (by decide)).trans a4, (R _ _ _ (by omega) (by decide)).trans a5, (K _ (by omega)).trans a6, (R _ _ _ (by omega) (by decide)).trans a7, (K _ (by omega)).trans a8, (Ln _ (by omega)).trans a9, (K _ (by omega)).trans a10, (Ln _ (by omega)).trans a11⟩
/-- r replicas made -/
def lI (L M : me_M) (b n r : Nat) : Prop := mSz M = aR b n r ∧ wf M ∧ mSl M ≤ mSl L + 100 + 408 * r ∧ (∀ r', r' < r → skR M b n r') ∧ hd M b n ∧ zM M b
theorem c_LM_loop (hn : n = 3 ∨ n = 5) : ∀ t r M, r + t = n → lI L M b n r → EX eL X_LM_init 52 [some (.inr (some b)), none, some (.inl (nI r))] [] M (fun x N => x = none ∧ lI L N b n n) := by
  intro t
  induction t with
  | zero =>
    intro r M ht I
    have hr : r = n := by omega
    subst hr
    refine sg_LM_init_52 ⟨I.2.2.2.2.1.1, fun _ => ⟨rfl, I⟩, fun h => ?_⟩
    rw [I.2.2.2.2.1.2.1] at h
    exact absurd (Int32.le_refl _) h
  | succ t ih =>
    intro r M ht I
    obtain ⟨z1, z2, z3, z4, z5, z6⟩ := I
    have hlo := aR_lo b n r
    refine sg_LM_init_52 ⟨z5.1, fun h => ?_, fun _ => ?_⟩
    · rw [z5.2.1, nle (by omega) (by omega)] at h
      omega
    · intro q3 M2 e3 e2
      rw [z1] at e3
      have k2 : ∀ x, mKd M2 x = if x = aR b n r then 3 else mKd M x := fun x => by rw [e2, mKd_New, z1]
      have o2 : lo M M2 (aR b n r) := by rw [e2]; exact lo.refl.new (by omega)
      have s2 : mSz M2 = aR b n r + 1 := by rw [e2, mSz_New, z1]
      have w2 : wf M2 := by rw [e2]; exact z2.new
      have y2 : zM M2 b := by rw [e2]; exact z6.new
      have t2 : mSl M2 = mSl M + 8 := by rw [e2]; rfl
      have i2 : mI M2 = mI M := by rw [e2]; rfl
      have r2 : mR M2 = mR M := by rw [e2]; rfl
      clear e2
      refine ⟨by rw [k2, if_neg (by omega)]; exact z5.1, ?_⟩
      rw [i2, r2, z5.2.1, z5.2.2.2.1, e3]
      refine EX.mono (c_Rp_init hn w2 s2 (by rw [k2, if_pos rfl]) (y2.up (by omega))) fun x M6 hv => ?_
      obtain ⟨rfl, x1, x2, x3, x4, x5, x6⟩ := hv
      have same6 : ∀ y, y < aR b n r → mKd M6 y = mKd M y ∧ mLn M6 y = mLn M y ∧ ∀ k j, mI M6 k y j = mI M k y j ∧ mR M6 k y j = mR M k y j := by
        intro y hy
        have a := x6 y hy
        have c := o2 y hy
        exact ⟨a.1.trans c.1, a.2.1.trans c.2.1, fun k j => ⟨(a.2.2 k j).1.trans (c.2.2 k j).1, (a.2.2 k j).2.trans (c.2.2 k j).2⟩⟩
      refine ⟨rfl, _, z5.2.2.2.2.1, by rw [(same6 _ (by omega)).1]; exact z5.2.2.2.2.2.2.2.2.2.1, by rw [(same6 _ (by omega)).2.1, z5.2.2.2.2.2.2.2.2.2.2]; exact vin (by omega) (by omega), x1.2.1, ?_⟩
      intro M12 e12 x14 e14
      rw [e14, nI_i1]
      refine ih (r + 1) M12 (by omega) ?_
      rw [cl (by omega)] at e12
      have same12 : ∀ y, y < aR b n r → mKd M12 y = mKd M y ∧ mLn M12 y = mLn M y ∧ ∀ k j, mI M12 k y j = mI M k y j ∧ (¬ k = 103 → mR M12 k y j = mR M k y j) := by
        intro y hy
        have a := same6 y hy
        rw [e12]
        refine ⟨a.1, a.2.1, fun k j => ⟨(a.2.2 k j).1, fun hk => ?_⟩⟩
        rw [mR_SetR, if_neg (fun z => hk z.1)]
        exact (a.2.2 k j).2
      have hr12 : ∀ j, mR M12 103 (b + 3) j = if j = r then some (aR b n r) else mR M 103 (b + 3) j := by
        intro j
        rw [e12, mR_SetR]
        by_cases hj : j = r
        · rw [if_pos ⟨rfl, rfl, hj⟩, if_pos hj]
        · rw [if_neg (fun z => hj z.2.2), if_neg hj, ((same6 _ (by omega)).2.2 _ _).2]
      have q12 : skQ M12 (aR b n r) n r (b + 1) := by
        refine x1.same hn (x := aR b n r + (6 * n + 6)) (fun y _ => ?_) (Nat.le_refl _)
        rw [e12]
        refine ⟨rfl, rfl, fun k j => ⟨rfl, fun hk => ?_⟩⟩
        rw [mR_SetR, if_neg (fun z => hk z.1)]
      have q9 : mSl M12 = mSl M6 := by rw [e12, mSl_SetR]
      refine ⟨by rw [e12, mSz_SetR, x3, aR_s], by rw [e12]; exact x2.setR (by omega), by omega, fun r' hr' => ?_, z5.same same12 hlo, ?_⟩
      · rw [skR_Q, hr12]
        by_cases hx : r' = r
        · rw [if_pos hx, hx]; exact ⟨rfl, q12⟩
        · rw [if_neg hx]
          have o := z4 r' (by omega)
          rw [skR_Q] at o
          refine ⟨o.1, o.2.same hn same12 ?_⟩
          rw [← aR_s]
          exact aR_le b (by omega)
      · rw [e12]
        refine zM.setR ?_ (by decide)
        intro k y j hk hy
        rcases Nat.lt_or_ge y (aR b n r) with h | h
        · have a := (same6 y h).2.2 k j
          rw [a.1, a.2]
          exact z6 k y j hk hy
        · exact x5 k y j hk h
theorem LM_body (hn : n = 3 ∨ n = 5) (w : wf M) (hs : mSz M = b + 1) (hk : mKd M b = 1) (hz : zM M b) {M2 M3 M4 : me_M} {q5 : Nat} {v u : Int32} (hv : v = nI n) (hu : v / 2 = nI (n / 2)) (e2 : M2 = mSetI M 1000 b 0 v) (e3 : M3 = mSetI M2 1001 b 0 ((mI M2 1000 b 0) / 2)) (e5 : q5 = mSz M3) (e4 : M4 = mNew M3 2 0 3) : EX eL X_Net_init 0 [some (.inr (some q5))] [] M4 (fun r8 M7 => r8 = none ∧ mKd M7 b = 1 ∧ ∀ M10, M10 = mSetR M7 1002 b 0 (some q5) → ¬ (mI M10 1000 b 0) < 0 ∧ (mI M10 1000 b 0).toNatClampNeg ≤ 100000 ∧ ∀ q12 M11, q12 = mSz M10 → M11 = mNew M10 103 (mI M10 1000 b 0).toNatClampNeg (mI M10 1000 b 0).toNatClampNeg → mKd M11 b = 1 ∧ ∀ M17, M17 = mSetR M11 1003 b 0 (some q12) → EX eL X_LM_init 52 [some (.inr (some b)), none, some (.inl 0)] [] M17 (fun x N => x = none ∧ lI M N b n n)) := by
  have i3 : ∀ k x j, mI M3 k x j = if k = 1001 ∧ x = b ∧ j = 0 then nI (n / 2) else if k = 1000 ∧ x = b ∧ j = 0 then nI n else mI M k x j := by
    intro k x j
    have v2 : mI M2 1000 b 0 = v := by rw [e2, mI_SetI, if_pos ⟨rfl, rfl, rfl⟩]
    rw [e3, mI_SetI, v2, hu, e2, mI_SetI, hv]
  have s3 : mSz M3 = b + 1 := by rw [e3, e2]; exact hs
  have k3 : mKd M3 = mKd M := by rw [e3, e2]; rfl
  have r3 : mR M3 = mR M := by rw [e3, e2]; rfl
  have w3 : wf M3 := by rw [e3, e2]; exact (w.setI (by omega)).setI (by show _ < mSz M; omega)
  have y3 : zM M3 b := by rw [e3, e2]; exact (hz.setI (by decide)).setI (by decide)
  have t3 : mSl M3 = mSl M := by rw [e3, e2]; rfl
  have l3 : mLn M3 = mLn M := by rw [e3, e2]; rfl
  clear e3 e2
  have k4 : ∀ x, mKd M4 x = if x = b + 1 then 2 else mKd M x := fun x => by rw [e4, mKd_New, s3, k3]
  have s4 : mSz M4 = b + 2 := by rw [e4, mSz_New, s3]
  have w4 : wf M4 := by rw [e4]; exact w3.new
  have y4 : zM M4 b := by rw [e4]; exact y3.new
  have i4 : mI M4 = mI M3 := by rw [e4]; rfl
  have r4 : mR M4 = mR M := by rw [e4, mR_New, r3]
  have t4 : mSl M4 = mSl M + 3 := by rw [e4, mSl_New, t3]
  clear e4
  rw [s3] at e5
  rw [e5]
  refine EX.mono (c_Net_init (s := b + 1) s4 (by rw [k4, if_pos rfl])) fun x M7 hv => ?_
  obtain ⟨rfl, e7⟩ := hv
  have k7 : ∀ x, mKd M7 x = if x = b + 2 then 102 else mKd M4 x := fun x => by rw [e7, mKd_SetR, mKd_New, s4]
  have l7 : mLn M7 (b + 2) = 40 := by rw [e7, mLn_SetR, mLn_New, s4, if_pos rfl]
  have s7 : mSz M7 = b + 3 := by rw [e7, mSz_SetR, mSz_New, s4]
  have w7 : wf M7 := by rw [e7]; exact (w4.new).setR (by rw [mSz_New]; omega)
  have y7 : zM M7 b := by rw [e7]; exact y4.new.setR (by decide)
  have i7 : mI M7 = mI M3 := by rw [e7, mI_SetR, mI_New, i4]
  have r7 : ∀ k x j, mR M7 k x j = if k = 1064 ∧ x = b + 1 ∧ j = 0 then some (b + 2) else mR M k x j := fun k x j => by rw [e7, mR_SetR, mR_New, r4]
  have t7 : mSl M7 = mSl M + 43 := by rw [e7, mSl_SetR, mSl_New, t4]
  clear e7
  refine ⟨rfl, by rw [k7, if_neg (by omega), k4, if_neg (by omega)]; exact hk, ?_⟩
  intro M10 e10
  have v10 : mI M10 1000 b 0 = nI n := by rw [e10, mI_SetR, i7, i3, if_neg (by omega), if_pos ⟨rfl, rfl, rfl⟩]
  rw [v10, cl (by omega)]
  refine ⟨by rw [show (0 : Int32) = nI 0 from rfl, nlt (by omega) (by omega)]; omega, by omega, ?_⟩
  intro q12 M11 e12 e11
  have s10 : mSz M10 = b + 3 := by rw [e10]; exact s7
  rw [s10] at e12
  refine ⟨by rw [e11, mKd_New, s10, if_neg (by omega), e10, mKd_SetR, k7, if_neg (by omega), k4, if_neg (by omega)]; exact hk, ?_⟩
  intro M17 e17
  have k17 : ∀ x, mKd M17 x = if x = b + 3 then 103 else mKd M7 x := fun x => by rw [e17, mKd_SetR, e11, mKd_New, s10, e10, mKd_SetR]
  have l17 : ∀ x, mLn M17 x = if x = b + 3 then n else mLn M7 x := fun x => by rw [e17, mLn_SetR, e11, mLn_New, s10, e10, mLn_SetR]
  have r17 : ∀ k x j, mR M17 k x j = if k = 1003 ∧ x = b ∧ j = 0 then some (b + 3) else if k = 1002 ∧ x = b ∧ j = 0 then some (b + 1) else mR M7 k x j := fun k x j => by rw [e17, mR_SetR, e11, mR_New, e10, mR_SetR, e12]
  have i17 : mI M17 = mI M3 := by rw [e17, mI_SetR, e11, mI_New, e10, mI_SetR, i7]
  refine c_LM_loop hn n 0 M17 (by omega) ⟨?_, ?_, ?_, fun r' hr' => by omega, ⟨?_, ?_, ?_, ?_, ?_, ?_, ?_, ?_, ?_, ?_, ?_⟩, ?_⟩
  · rw [e17, mSz_SetR, e11, mSz_New, s10]; unfold aR; omega
  · rw [e17, e11, e10]; exact ((w7.setR (by omega)).new).setR (by rw [mSz_New, mSz_SetR]; omega)
  · rw [e17, mSl_SetR, e11, mSl_New, e10, mSl_SetR, t7]; omega
  all_goals try simp (disch := omega) only [k17, l17, r17, i17, k7, k4, r7, i3, l7, if_pos, if_neg, and_self, if_true]
  · exact hk
  · rw [e17, e11, e10]; exact ((y7.setR (by decide)).new).setR (by decide)
theorem c_LM_init {v : Int32} (hn : n = if 4 ≤ v then 5 else 3) (w : wf M) (hs : mSz M = b + 1) (hk : mKd M b = 1) (hz : zM M b) : EX eL X_LM_init 0 [some (.inr (some b)), some (.inl v), none] [] M (fun x N => x = none ∧ lI M N b n n) := by
  refine sg_LM_init_0 ⟨fun hv => ⟨hk, ?_⟩, fun hv => ⟨hk, ?_⟩⟩
  · rw [if_pos hv] at hn
    intro M2 e2 M3 e3 q5 M4 e5 e4
    subst hn
    exact LM_body (u := 0) (Or.inr rfl) w hs hk hz rfl (by decide) e2 e3 e5 e4
  · rw [if_neg hv] at hn
    intro M2 e2 M3 e3 q5 M4 e5 e4
    subst hn
    exact LM_body (u := 0) (Or.inl rfl) w hs hk hz rfl (by decide) e2 e3 e5 e4
theorem many0 : ∀ k, g_manyU (D0 n) k = 0 := by
  intro k
  induction k with
  | zero => rfl
  | succ k ih => rw [g_manyU, ih, D0_z (by decide)]; decide
/-- the relation at the beginning -/
theorem cW0 (hn : n = 3 ∨ n = 5) (w : wf M) (S : skel M b n) (z : zM M b) : cW M b n (D0 n) := by
  have hlo := fun r => aR_lo b n r
  have un : g_un (D0 n) = 0 := by unfold g_un; rw [D0_z (by decide)]; decide
  have at0 : ∀ r i, mR M 105 (aR b n r + 2 + 6 * n) i = none := fun r i => (z _ _ _ (by decide) (by have := hlo r; omega)).2
  refine ⟨hn, w, S, fun r i hr hi => ?_, fun r i hr hi => ?_, ?_, ?_, ?_, fun r hr => ?_, fun r hr => ?_, ?_⟩
  · have I : ∀ k, mutK k = true → mI M k (aR b n r + 2 + i) 0 = 0 ∧ mR M k (aR b n r + 2 + i) 0 = none := fun k hk => z k _ _ hk (by have := hlo r; omega)
    refine ⟨?_, ?_, ?_, ?_, ?_, fun _ => (I _ (by decide)).2, fun h => absurd (D0_z (by decide)) h⟩
    all_goals rw [(I _ (by decide)).1, D0_z (by decide)]
  · rw [at0]
    exact ⟨fun _ => rfl, fun h => absurd (D0_z (by decide)) h⟩
  · intro r i r' i' q _ _ _ _ h
    rw [at0] at h; cases h
  · intro r i r' i' q q' w _ _ _ _ h
    rw [at0] at h; cases h
  · refine ⟨?_, ?_, fun k hk => by rw [un] at hk; omega⟩
    · rw [(z _ _ _ (by decide) (by omega)).1, D0_z (by decide)]
    · rw [(z _ _ _ (by decide) (by omega)).1, D0_z (by decide)]
  · have := hlo r
    refine ⟨fun k hk => ?_, ?_, fun i hi => ?_⟩
    · rw [(z _ _ _ (by decide) (by omega)).1, D0_z (by decide)]
    · rw [(z _ _ _ (by decide) (by omega)).1, D0_z (by decide)]
    · rw [(z _ _ _ (by decide) (by omega)).1, D0_z (by decide), b_0]
      exact ⟨fun h => (by cases h), fun h => absurd h (by decide)⟩
  · have := hlo r
    rw [(z _ _ _ (by decide) (by omega)).1, D0_z (by decide)]
  · rw [(z _ _ _ (by decide) (Nat.le_refl _)).1, many0]
theorem dI0 (hn : n = 3 ∨ n = 5) : dI (D0 n) n 0 := by
  have un : g_un (D0 n) = 0 := by unfold g_un; rw [D0_z (by decide)]; decide
  have b0 : ∀ j, j < 32 → bt (0 : Int32) j = true → j < 6 * n := fun j _ h => by rw [b_0] at h; cases h
  refine ⟨rfl, rfl, rfl, ⟨0, by rw [D0_z (by decide)]; rfl, by omega⟩, fun r hr => Or.inl (D0_z (by decide)), fun k hk => by rw [un] at hk; omega, fun r i hr hi => ?_⟩
  unfold entI
  simp (disch := decide) only [D0_z]
  refine ⟨⟨0, rfl, by omega⟩, ⟨0, rfl, by omega⟩, ⟨0, rfl, by omega⟩, b0, Or.inl trivial, ⟨0, rfl, by omega⟩, ⟨0, rfl, by omega, fun _ => rfl, fun _ _ => by omega, fun _ _ => by omega, fun _ _ => by omega, fun _ => by omega⟩, fun h => absurd trivial h, fun k hk => ⟨⟨0, rfl, by omega⟩, b0⟩⟩
/-- the class's cells after both constructors -/
theorem cW_start (hn : n = 3 ∨ n = 5) {K : me_M} (h : lI L M b n n) (h2 : mEnd K N (mdA b n) n) (hK : K = mNew M 11 0 30) : cW N b n (D0 n) := by
  obtain ⟨z1, z2, z3, z4, z5, z6⟩ := h
  obtain ⟨-, -, w, -, -, y1, y2⟩ := h2
  have z1 : mSz M = mdA b n := z1
  have same : ∀ y, y < mdA b n → mKd N y = mKd M y ∧ mLn N y = mLn M y ∧ ∀ k j, mI N k y j = mI M k y j ∧ mR N k y j = mR M k y j := by
    intro y hy
    have a := y1 y hy
    rw [hK, mKd_New, mLn_New, if_neg (by omega), if_neg (by omega)] at a
    refine ⟨a.1, a.2, fun k j => ?_⟩
    have c := y2 k y j (Or.inl hy)
    rw [hK] at c
    exact c
  have same' : ∀ y, y < mdA b n → mKd N y = mKd M y ∧ mLn N y = mLn M y ∧ ∀ k j, mI N k y j = mI M k y j ∧ (¬ k = 103 → mR N k y j = mR M k y j) := fun y hy => ⟨(same y hy).1, (same y hy).2.1, fun k j => ⟨((same y hy).2.2 k j).1, fun _ => ((same y hy).2.2 k j).2⟩⟩
  have hm : b + 4 ≤ mdA b n := by unfold mdA; omega
  refine cW0 hn w ⟨fun r hr => ?_, z5.same same' hm⟩ ?_
  · rw [skR_Q]
    have o := z4 r hr
    rw [skR_Q] at o
    refine ⟨(((same _ (by omega)).2.2 _ _).2).trans o.1, o.2.same hn same' ?_⟩
    rw [← aR_s]
    exact aR_le b (r' := r + 1) (r := n) (by omega)
  · intro k y j hk hy
    rcases Nat.lt_or_ge y (mdA b n) with h | h
    · have a := (same y h).2.2 k j
      rw [a.1, a.2]
      exact z6 k y j hk hy
    · have hk2 : k < 1640 := by
        unfold mutK at hk
        simp only [Bool.or_eq_true, Bool.and_eq_true, decide_eq_true_eq] at hk
        omega
      have c := y2 k y j (Or.inr hk2)
      rw [c.1, c.2, hK]
      exact (z2 y (by omega)).2 k j
/-- the reference's cells are none of the class's -/
theorem cW_sD (C : cW M b n D) {E : me_D} (hs : mdA b n + 26 ≤ mSz M) : cW (sD M (mdA b n) E) b n D := by
  obtain ⟨c1, c2, c3, c4, c5, c6, c7, c8, c9, c10, c11⟩ := C
  have e : ∀ k q i, (k < 1640 ∧ ¬ k = 100 ∧ ¬ k = 101) → mI (sD M (mdA b n) E) k q i = mI M k q i := fun k q i h => mI_sD_out _ _ _ _ _ _ (Or.inr (Or.inr h))
  refine ⟨c1, fun q hq => ⟨(c2 q hq).1, fun k i => ⟨?_, ((c2 q hq).2 k i).2⟩⟩, ?_, fun r i hr hi => ?_, fun r i hr hi => ?_, c6, c7, ?_, fun r hr => ?_, fun r hr => ?_, ?_⟩
  · rw [mSz_sD] at hq
    rw [mI_sD_out _ _ _ _ _ _ (Or.inr (Or.inl (by omega)))]
    exact ((c2 q hq).2 k i).1
  · unfold skel skR at c3 ⊢
    simp (disch := decide) only [e, mKd_sD, mLn_sD, mR_sD]
    exact c3
  · have := c4 r i hr hi
    unfold EntOK OrdR OrdOK CmdOK at this ⊢
    simp (disch := decide) only [e, mKd_sD, mLn_sD, mR_sD]
    exact this
  · have := c5 r i hr hi
    unfold AttOK RptOK OrdR OrdOK CmdOK at this ⊢
    simp (disch := decide) only [e, mKd_sD, mLn_sD, mR_sD]
    exact this
  · unfold NetOK MsgOK RptOK OrdR OrdOK CmdOK at c8 ⊢
    simp (disch := decide) only [e, mKd_sD, mLn_sD, mR_sD]
    exact c8
  · have := c9 r hr
    unfold StoOK at this ⊢
    simp (disch := decide) only [e]
    refine ⟨fun k hk => ?_, this.2⟩
    have hh : aR b n r + 4 + 6 * n < mdA b n := by
      have := aR_hi (b := b) (x := 4 + 6 * n) c1 hr (by omega)
      unfold mdA
      omega
    rw [mI_sD_out _ _ _ _ _ _ (Or.inl hh)]
    exact this.1 k hk
  · rw [e _ _ _ (by decide)]; exact c10 r hr
  · rw [e _ _ _ (by decide)]; exact c11
end INIT3
