section DI6
variable {c d : Nat} {n r i a : Nat} {A D E : me_D}
theorem ct_of {k : Nat} (h : D 16 a = nI k) (hk : k ≤ 4) : g_ct D a = k := by unfold g_ct; rw [h, cl (by omega)]
/-- what counting gives -/
theorem cnt_of {w : Int32} (h : g_cnt? D a w = true) : ¬ D 13 a = 0 ∧ D 4 a < 3 ∧ (D 14 a = w ∨ (w = 1 ∧ D 14 a = 0)) := by
  unfold g_cnt? at h
  simp only [Bool.and_eq_true, Bool.or_eq_true, decide_eq_true_iff] at h
  exact ⟨h.1.1.1.1.1, h.1.1.1.2, h.1.1.2⟩
theorem log_ne {j x : Nat} (h1 : ¬ j = 16) (h2 : j < 17 ∨ 23 < j) : g_log D a j x = D j x := by
  unfold g_log
  rw [dU_ne _ h1, dU_ne _ (by omega), dU_ne _ (by omega), dU_ne _ (by omega), dU_ne _ (by omega), dU_ne _ (by omega), dU_ne _ (by omega), dU_ne _ (by omega)]
theorem log_ct {k : Nat} (h : D 16 a = nI k) : g_log D a 16 a = nI (k + 1) := by
  unfold g_log
  rw [dU_eq, h, p1]
theorem log_sl {k : Nat} (hs : slI D n c a) (J : msgI D n c 40) (h : D 16 a = nI k) (hk : k ≤ 3) : slI (g_log D a) n c a := by
  obtain ⟨-, -, -, -, b, -, -, -, -, -, -, -, -, b1, b2, s, g, -⟩ := J
  intro q hq
  have hc := ct_of h (by omega)
  by_cases hx : q = k
  · unfold g_log
    rw [hc, hx]
    simp only [dU_at, Nat.reduceEqDiff, false_and, and_self, if_true, if_false]
    exact ⟨s, g⟩
  · have e1 : g_log D a 21 (4 * a + q) = D 21 (4 * a + q) := by
      unfold g_log
      rw [hc]
      have : ¬ (4 * a + q = 4 * a + k) := by omega
      simp only [dU_at, Nat.reduceEqDiff, false_and, this, and_false, if_false]
    have e2 : g_log D a 22 (4 * a + q) = D 22 (4 * a + q) := by
      unfold g_log
      rw [hc]
      have : ¬ (4 * a + q = 4 * a + k) := by omega
      simp only [dU_at, Nat.reduceEqDiff, false_and, this, and_false, if_false]
    rw [e1, e2]
    exact hs q hq
/-- a reply logged, and not enough of them yet -/
theorem dI.log (I : dI D n c) (J : msgI D n c 40) (hn : n ≤ 5) (hr : r < n) (hi : i < 6 * n) {k : Nat} (hk : D 16 (30 * r + i) = nI k) (hk3 : k + 1 ≤ 3) (ht : ¬ D 13 (30 * r + i) = 0) (l0 : D 4 (30 * r + i) < 3 → D 14 (30 * r + i) = 0 → k + 1 < n - 2) (l1 : D 4 (30 * r + i) < 3 → D 14 (30 * r + i) = 1 → k + 1 < n / 2) (l2 : D 4 (30 * r + i) < 3 → D 14 (30 * r + i) = 2 → k + 1 < n / 2) (l3 : D 14 (30 * r + i) = 3 → k + 1 < n / 2) : dI (g_log D (30 * r + i)) n c := by
  refine I.ent (Nat.le_refl _) hn hi (off.refl.log (by rw [ct_of hk (by omega)]; omega)) ?_
  obtain ⟨h1, h2, h3, h4, h5, h6, -, h8, h9⟩ := I.e hr hi
  have hs := log_sl (a := 30 * r + i) h9 J hk (by omega)
  unfold entI
  rw [log_ct hk, log_ne (j := 4) (by decide) (by decide), log_ne (j := 9) (by decide) (by decide), log_ne (j := 7) (by decide) (by decide), log_ne (j := 8) (by decide) (by decide), log_ne (j := 13) (by decide) (by decide), log_ne (j := 15) (by decide) (by decide), log_ne (j := 14) (by decide) (by decide)]
  exact ⟨h1, h2, h3, h4, h5, h6, ⟨k + 1, rfl, hk3, fun z => absurd z ht, l0, l1, l2, l3⟩, h8, hs⟩
theorem ph01 : ¬ ((1 : Int32) = 0) := by decide
theorem dI.afterPre (I : dI D n c) (J : msgI D n c 40) (hn : n = 3 ∨ n = 5) (hr : r < n) (hi : i < 6 * n) (hg : g_cnt? D (30 * r + i) 1 = true) : dI (g_afterPre (g_log D (30 * r + i)) n r i) n (c + 1) := by
  have n5 : n ≤ 5 := by omega
  obtain ⟨ht, hst, hph⟩ := cnt_of hg
  obtain ⟨h1, ⟨p, q1, q2⟩, h3, h4, h5, ⟨b, b1, b2⟩, ⟨k, k1, k2, k3, k4, k5, k6, k7⟩, h8, h9⟩ := I.e hr hi
  have ht1 : D 13 (30 * r + i) = 1 := h5.resolve_left ht
  have hph : D 14 (30 * r + i) = 1 ∨ D 14 (30 * r + i) = 0 := hph.imp_right (·.2)
  have kn : k < n - 2 := by
    rcases hph with z | z
    · have := k5 hst z; omega
    · exact k4 hst z
  have hn3 : ¬ D 14 (30 * r + i) = 3 := by rcases hph with z | z <;> rw [z] <;> decide
  have hn2 : ¬ D 14 (30 * r + i) = 2 := by rcases hph with z | z <;> rw [z] <;> decide
  have hs := (log_sl (a := 30 * r + i) h9 J k1 (by omega)).up (Nat.le_succ c)
  have ho : off (30 * r + i) D (g_log D (30 * r + i)) := off.refl.log (by rw [ct_of k1 (by omega)]; omega)
  have e1 : g_log D (30 * r + i) 14 (30 * r + i) = D 14 (30 * r + i) := log_ne (by decide) (by decide)
  have e2 := log_ct k1
  have e3 : g_log D (30 * r + i) 9 (30 * r + i) = nI p := (log_ne (by decide) (by decide)).trans q1
  have e4 : g_log D (30 * r + i) 15 (30 * r + i) = nI b := (log_ne (by decide) (by decide)).trans b1
  have e5 : g_log D (30 * r + i) 13 (30 * r + i) = 1 := (log_ne (by decide) (by decide)).trans ht1
  have e6 : g_log D (30 * r + i) 1641 0 = nI (n / 2) := (log_ne (by decide) (by decide)).trans I.2.1
  have e7 := ct_of e2 (by omega)
  obtain ⟨⟨y, y1, y2⟩, gg⟩ := apU_rng hs (k + 1) (by omega)
  unfold g_afterPre
  dsimp only
  rw [e7, e1, e2, e6]
  split
  · split
    · refine I.fin (Nat.le_succ _) n5 hr hi ho e3 (by omega) y1 y2 gg e5 e4 (by omega) e2 (by omega) (by rw [e1]; exact hn3) hs
    · next z0 z1 =>
      refine (I.log J n5 hr hi k1 (by omega) ht (fun _ _ => ?_) (fun _ z => ?_) (fun _ z => absurd z hn2) (fun z => absurd z hn3)).up (Nat.le_succ _)
      · rw [show (2 : Int32) = nI 2 from rfl, nI_sub (by omega), neq (by omega) (by omega)] at z1
        omega
      · rw [z0.1] at z; exact absurd z (by decide)
  · split
    · exact I.agree (Nat.le_succ _) n5 (by omega) hr hi ho e3 (by omega) y1 y2 gg e4 (by omega) hs
    · next z1 =>
      rw [nle (by omega) (by omega)] at z1
      exact (I.log J n5 hr hi k1 (by omega) ht (fun _ _ => by omega) (fun _ _ => by omega) (fun _ z => absurd z hn2) (fun z => absurd z hn3)).up (Nat.le_succ _)
theorem own_ne {k j x : Nat} (h2 : j < 17 ∨ 23 < j) : g_own D r a k j x = D j x := by
  unfold g_own
  rw [dU_ne _ (by omega), dU_ne _ (by omega), dU_ne _ (by omega), dU_ne _ (by omega), dU_ne _ (by omega), dU_ne _ (by omega), dU_ne _ (by omega)]
theorem own_sl {k : Nat} (hs : slI D n c a) (h3 : ∃ q, D 7 a = nI q ∧ q ≤ c + 1) (h4 : bOK n (D 8 a)) : slI (g_own D r a k) n c a := by
  intro q hq
  by_cases hx : q = k
  · unfold g_own
    rw [hx]
    simp only [dU_at, Nat.reduceEqDiff, false_and, and_self, if_true, if_false]
    exact ⟨h3, h4⟩
  · have e1 : g_own D r a k 21 (4 * a + q) = D 21 (4 * a + q) := by
      unfold g_own
      have : ¬ (4 * a + q = 4 * a + k) := by omega
      simp only [dU_at, Nat.reduceEqDiff, false_and, this, and_false, if_false]
    have e2 : g_own D r a k 22 (4 * a + q) = D 22 (4 * a + q) := by
      unfold g_own
      have : ¬ (4 * a + q = 4 * a + k) := by omega
      simp only [dU_at, Nat.reduceEqDiff, false_and, this, and_false, if_false]
    rw [e1, e2]
    exact hs q hq
theorem best_in {m x : Nat} (h : g_best D a m i = some x) : a ≤ x ∧ x < a + m := by
  unfold g_best at h
  cases hz : g_accU D a m with
  | some y =>
    rw [hz] at h
    cases h
    exact ⟨g_accU_ge hz, g_accU_lt hz⟩
  | none =>
    rw [hz] at h
    have h1 := g_first_ge (show g_firstU _ a m 0 = some x from h)
    have h2 := g_first_at (show g_firstU _ a m 0 = some x from h)
    omega
theorem pre_in {m x : Nat} (h : g_pre D a m = some x) : a ≤ x ∧ x < a + m := by
  have h1 := g_first_ge (show g_firstU _ a m 0 = some x from h)
  have h2 := g_first_at (show g_firstU _ a m 0 = some x from h)
  omega
theorem dI.afterPromise (I : dI D n c) (J : msgI D n c 40) (hn : n = 3 ∨ n = 5) (hr : r < n) (hi : i < 6 * n) (hg : g_cnt? D (30 * r + i) 3 = true) : dI (g_afterPromise (g_log D (30 * r + i)) n r i) n (c + 1) := by
  have n5 : n ≤ 5 := by omega
  obtain ⟨ht, hst, hph⟩ := cnt_of hg
  obtain ⟨h1, ⟨p, q1, q2⟩, h3, h4, h5, ⟨b, b1, b2⟩, ⟨k, k1, k2, k3, k4, k5, k6, k7⟩, h8, h9⟩ := I.e hr hi
  have hph : D 14 (30 * r + i) = 3 := hph.resolve_right (fun z => absurd z.1 (by decide))
  have kn := k7 hph
  have e7 := ct_of (log_ct k1) (by omega)
  unfold g_afterPromise
  dsimp only
  rw [e7]
  have hs : slI (g_own (g_log D (30 * r + i)) r (30 * r + i) (k + 1)) n c (30 * r + i) := own_sl (log_sl h9 J k1 (by omega)) (by rw [log_ne (by decide) (by decide)]; exact h3) (by rw [log_ne (by decide) (by decide)]; exact h4)
  have hs1 := hs.up (Nat.le_succ c)
  have ho : off (30 * r + i) D (g_own (g_log D (30 * r + i)) r (30 * r + i) (k + 1)) := (off.refl.log (by rw [ct_of k1 (by omega)]; omega)).own (by omega)
  have ee : ∀ j x, ¬ j = 16 → (j < 17 ∨ 23 < j) → g_own (g_log D (30 * r + i)) r (30 * r + i) (k + 1) j x = D j x := fun j x z1 z2 => (own_ne z2).trans (log_ne z1 z2)
  generalize g_own (g_log D (30 * r + i)) r (30 * r + i) (k + 1) = E at hs hs1 ho ee ⊢
  have e3 : E 9 (30 * r + i) = nI p := (ee _ _ (by decide) (by decide)).trans q1
  have e4 : E 15 (30 * r + i) = nI b := (ee _ _ (by decide) (by decide)).trans b1
  cases hb : g_best E (4 * (30 * r + i)) (n / 2 + 1) i with
  | some x =>
    obtain ⟨x1, x2⟩ := best_in hb
    obtain ⟨⟨s, s1, s2⟩, g⟩ := hs1 (x - 4 * (30 * r + i)) (by omega)
    rw [show 4 * (30 * r + i) + (x - 4 * (30 * r + i)) = x by omega] at s1 g
    exact I.agree (Nat.le_succ _) n5 (by omega) hr hi ho e3 (by omega) s1 s2 g e4 (by omega) hs1
  | none =>
    dsimp only
    cases hp : g_pre E (4 * (30 * r + i)) (n / 2 + 1) with
    | none => exact I.agree (q := 0) (Nat.le_succ _) n5 (by omega) hr hi ho e3 (by omega) rfl (by omega) (fun j _ hb => by rw [b_0] at hb; cases hb) e4 (by omega) hs1
    | some x =>
      dsimp only
      unfold g_again
      rw [e4]
      refine dI.all (kd := 0) ?_ n5 (by omega) hr hi (by omega)
      obtain ⟨⟨y, y1, y2⟩, g⟩ := fit_rng (D := E) (r := r) (i := i) (x := E 19 x) (s := 1) (e := 0) (s0 := 1) (c := c) (fun j hj => by rw [ee _ _ (by decide) (by decide)]; exact (I.e hr hj).2.2.1) n5 rfl (by omega) (fun j _ hb => by rw [b_0] at hb; cases hb) (6 * n) (Nat.le_refl _)
      refine I.start (Nat.le_succ _) n5 (by omega) hi (((ho.put.u (by decide)).u (by decide)).u (by decide)) (st := 1) (p := p) (q := y) ?_ (by omega) ?_ (by omega) ?_ y2 ?_ (by omega) (fun _ => by omega) (hs1.eq (fun k hk => ?_) (fun k hk => ?_))
      all_goals simp only [g_put, dU_at, Nat.reduceEqDiff, false_and, and_self, if_true, if_false]
      · rfl
      · exact e3
      · exact y1
      · exact g
theorem dI.receive (I : dI D n c) (J : msgI D n c 40) (hn : n = 3 ∨ n = 5) (hr : r < n) {f : Nat} (hf : f < n) (hi : i < 6 * n) {kd : Int32} : dI (g_receive D n kd r f i) n (c + 1) := by
  have n5 : n ≤ 5 := by omega
  obtain ⟨h1, ⟨p, q1, q2⟩, ⟨sq, sq1, sq2⟩, h4, h5, ⟨b, b1, b2⟩, ⟨k, k1, k2, k3, k4, k5, k6, k7⟩, h8, h9⟩ := I.e hr hi
  unfold g_receive
  split
  · exact (I.send (kd := 4) (b := 0) n5 (by omega) hr hf hi (by omega)).up (Nat.le_succ _)
  · next z0 =>
    have h3 : (kd = 0 ∨ kd = 2 ∨ kd = 5) → D 4 (30 * r + i) < 3 := fun z => by
      rw [← Int32.not_le]
      exact fun w => z0 ⟨z, w⟩
    split
    · next z => exact I.preaccept J n5 hr hf hi (h3 (Or.inl z))
    split
    · next z => exact I.accept J n5 hr hf hi (h3 (Or.inr (Or.inl z)))
    split
    · exact I.asked J n5 hr hf hi
    split
    · split
      · next z => exact (I.settle (w := 3) J n5 hr hi z (by omega) (by omega)).up (Nat.le_succ _)
      · exact I.up (Nat.le_succ _)
    split
    · split
      · next z => exact I.afterPre J hn hr hi z
      · exact I.up (Nat.le_succ _)
    split
    · split
      · next hg =>
        obtain ⟨ht, hst, hph⟩ := cnt_of hg
        have hph : D 14 (30 * r + i) = 2 := hph.resolve_right (fun z => absurd z.1 (by decide))
        have kn := k6 hst hph
        rw [k1, p1, I.2.1]
        split
        · refine I.fin (Nat.le_succ _) n5 hr hi (off.refl.log (by rw [ct_of k1 (by omega)]; omega)) ((log_ne (by decide) (by decide)).trans q1) (by omega) sq1 (by omega) h4 ((log_ne (by decide) (by decide)).trans (h5.resolve_left ht)) ((log_ne (by decide) (by decide)).trans b1) (by omega) (log_ct k1) (by omega) (by rw [log_ne (by decide) (by decide), hph]; decide) ((log_sl h9 J k1 (by omega)).up (Nat.le_succ c))
        · next zz =>
          rw [neq (by omega) (by omega)] at zz
          refine (I.log J n5 hr hi k1 (by omega) ht ?_ ?_ ?_ ?_).up (Nat.le_succ _)
          · intro _ z; rw [hph] at z; exact absurd z (by decide)
          · intro _ z; rw [hph] at z; exact absurd z (by decide)
          · intro _ _; omega
          · intro z; rw [hph] at z; exact absurd z (by decide)
      · exact I.up (Nat.le_succ _)
    split
    · split
      · next hg =>
        obtain ⟨ht, hst, hph⟩ := cnt_of hg
        have hph : D 14 (30 * r + i) = 3 := hph.resolve_right (fun z => absurd z.1 (by decide))
        have kn := k7 hph
        rw [k1, p1, I.2.1]
        split
        · exact I.afterPromise J hn hr hi hg
        · next zz =>
          rw [neq (by omega) (by omega)] at zz
          refine (I.log J n5 hr hi k1 (by omega) ht ?_ ?_ ?_ ?_).up (Nat.le_succ _)
          · intro _ z; rw [hph] at z; exact absurd z (by decide)
          · intro _ z; rw [hph] at z; exact absurd z (by decide)
          · intro _ z; rw [hph] at z; exact absurd z (by decide)
          · intro _; omega
      · exact I.up (Nat.le_succ _)
    · exact I.up (Nat.le_succ _)
theorem dI.deliver (I : dI D n c) (hn : n = 3 ∨ n = 5) {u k : Nat} (hu : D 1666 0 = nI u) (h40 : u ≤ 40) (hk : k < u) : dI (g_deliver D n k) n (c + 1) := by
  have hg := g_un_of hu h40
  have J0 := I.2.2.2.2.2.1 k (by omega)
  have J : msgI (g_take D k) n c 40 := by
    have e0 := take_got (j := 0) hu h40 hk (by decide)
    have e1 := take_got (j := 1) hu h40 hk (by decide)
    have e2 := take_got (j := 2) hu h40 hk (by decide)
    have e3 := take_got (j := 3) hu h40 hk (by decide)
    have e4 := take_got (j := 4) hu h40 hk (by decide)
    have e7 := take_got (j := 7) hu h40 hk (by decide)
    have e8 := take_got (j := 8) hu h40 hk (by decide)
    have e9 := take_got (j := 9) hu h40 hk (by decide)
    obtain ⟨kd, fr, to, i, b, a1, a2, a3, a4, a5, a6, a7, a8, a9, a10, ⟨s, s1, s2⟩, g, h⟩ := J0
    refine ⟨kd, fr, to, i, b, e0.trans a1, a2, e1.trans a3, a4, e2.trans a5, a6, e3.trans a7, a8, e4.trans a9, a10, ⟨s, e7.trans s1, s2⟩, ?_, ?_⟩
    · rw [show g_take D k 24 (11 * 40 + 8) = D 24 (11 * k + 8) from e8]; exact g
    · rw [show g_take D k 24 (11 * 40 + 9) = D 24 (11 * k + 9) from e9]; exact h
  have T := dI_take I hu h40 hk
  obtain ⟨kd, fr, to, i, b, a1, a2, a3, a4, a5, a6, a7, a8, -⟩ := id J
  unfold g_deliver g_nat
  dsimp only
  rw [show g_take D k 24 441 = nI fr from a3, show g_take D k 24 442 = nI to from a5, show g_take D k 24 443 = nI i from a7, cl (by omega), cl (by omega), cl (by omega)]
  split
  · exact T.receive J hn a6 a4 a8
  · exact T.up (Nat.le_succ _)
end DI6
