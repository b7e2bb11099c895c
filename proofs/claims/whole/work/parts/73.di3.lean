section DI3
variable {c d : Nat} {n r i a : Nat} {A D E : me_D}
theorem dI.e (I : dI D n c) (hr : r < n) (hi : i < 6 * n) : entI D n c (30 * r + i) := I.2.2.2.2.2.2 r i hr hi
theorem dI.prom (I : dI D n c) (hn : n ≤ 5) (hr : r < n) (hi : i < 6 * n) {p : Nat} (hp : p ≤ 5 * c) : dI (dU D 9 (30 * r + i) (nI p)) n c := by
  refine I.ent (Nat.le_refl _) hn hi (off.refl.u (by decide)) ?_
  obtain ⟨h1, -, h3, h4, h5, h6, h7, h8, h9⟩ := I.e hr hi
  unfold entI
  simp only [dU_at, Nat.reduceEqDiff, false_and, and_self, if_true, if_false]
  exact ⟨h1, ⟨p, rfl, hp⟩, h3, h4, h5, h6, h7, h8, h9⟩
theorem dI.vote (I : dI D n c) (hn : n ≤ 5) (hr : r < n) (hi : i < 6 * n) {v : Int32} : dI (dU D 10 (30 * r + i) v) n c := by
  refine I.ent (Nat.le_refl _) hn hi (off.refl.u (by decide)) ?_
  obtain ⟨h1, h2, h3, h4, h5, h6, h7, h8, h9⟩ := I.e hr hi
  unfold entI
  simp only [dU_at, Nat.reduceEqDiff, false_and, and_self, if_true, if_false]
  exact ⟨h1, h2, h3, h4, h5, h6, h7, h8, h9⟩
/-- an entry's order set, below COMMITTED or COMMITTED -/
theorem dI.set (I : dI D n c) (hcd : c ≤ d) (hn : n ≤ 5) (hr : r < n) (hi : i < 6 * n) (h3 : D 4 (30 * r + i) < 3) {w q : Nat} (hw : w ≤ 4) (hw0 : ¬ w = 0) {x v s e : Int32} (hs : s = nI q) (hq : q ≤ d + 1) (he : bOK n e) : dI (dU (dU (g_put D (30 * r + i) (nI w) x v) 7 (30 * r + i) s) 8 (30 * r + i) e) n d := by
  refine I.ent hcd hn hi ((off.refl.put.u (by decide)).u (by decide)) ?_
  obtain ⟨h1, ⟨p, p1, p2⟩, -, -, h5, ⟨b, b1, b2⟩, ⟨k, k1, k2, k3, k4, k5, k6, k7⟩, h8, h9⟩ := I.e hr hi
  unfold entI
  simp only [g_put, dU_at, Nat.reduceEqDiff, false_and, and_self, if_true, if_false]
  refine ⟨⟨w, rfl, hw⟩, ⟨p, p1, by omega⟩, ⟨q, hs, hq⟩, he, h5, ⟨b, b1, by omega⟩, ⟨k, k1, k2, k3, fun _ => k4 h3, fun _ => k5 h3, fun _ => k6 h3, k7⟩, fun _ _ z => hw0 ((neq (b := 0) (by omega) (by omega)).mp z), fun k hk => ?_⟩
  obtain ⟨⟨s, s1, s2⟩, g⟩ := h9 k hk
  exact ⟨⟨s, s1, by omega⟩, g⟩
theorem dI.fit (I : dI D n c) (hn : n ≤ 5) (hr : r < n) (hi : i < 6 * n) (h3 : D 4 (30 * r + i) < 3) {s0 : Nat} {x v s e : Int32} (hs : s = nI s0) (h0 : s0 ≤ c + 2) (he : bOK n e) : dI (g_fit D n r i x v s e) n (c + 1) := by
  obtain ⟨⟨y, y1, y2⟩, g⟩ := fit_rng (D := D) (r := r) (i := i) (x := x) (fun j hj => (I.e hr hj).2.2.1) hn hs h0 he (6 * n) (Nat.le_refl _)
  exact I.set (w := 1) (Nat.le_succ _) hn hr hi h3 (by omega) (by omega) y1 y2 g
theorem dI.preaccept (I : dI D n c) (J : msgI D n c 40) (hn : n ≤ 5) (hr : r < n) {f : Nat} (hf : f < n) (hi : i < 6 * n) (h3 : D 4 (30 * r + i) < 3) : dI (g_preaccept D n r f i) n (c + 1) := by
  obtain ⟨-, -, -, -, b, -, -, -, -, -, -, -, -, b1, b2, ⟨s, s1, s2⟩, g, -⟩ := J
  unfold g_preaccept
  split
  · exact I.up (Nat.le_succ _)
  · rw [show D 24 444 = nI b from b1]
    refine dI.send (kd := 1) (dI.fit ((I.prom hn hr hi b2).vote hn hr hi) hn hr hi ?_ s1 (by omega) g) hn (by omega) hr hf hi (by omega)
    rw [dU_ne _ (by decide), dU_ne _ (by decide)]; exact h3
theorem dI.settle (I : dI D n c) (J : msgI D n c 40) (hn : n ≤ 5) (hr : r < n) (hi : i < 6 * n) (h3 : D 4 (30 * r + i) < 3) {w : Nat} (hw : w ≤ 4) (hw0 : ¬ w = 0) : dI (g_settle D (30 * r + i) (nI w)) n c := by
  obtain ⟨-, -, -, -, b, -, -, -, -, -, -, -, -, b1, b2, ⟨s, s1, s2⟩, g, -⟩ := J
  exact I.set (Nat.le_refl _) hn hr hi h3 hw hw0 s1 s2 g
theorem dI.accept (I : dI D n c) (J : msgI D n c 40) (hn : n ≤ 5) (hr : r < n) {f : Nat} (hf : f < n) (hi : i < 6 * n) (h3 : D 4 (30 * r + i) < 3) : dI (g_accept D r f i) n (c + 1) := by
  obtain ⟨-, -, -, -, b, -, -, -, -, -, -, -, -, b1, b2, -⟩ := id J
  unfold g_accept
  split
  · exact I.up (Nat.le_succ _)
  · rw [show D 24 444 = nI b from b1]
    refine dI.up (c := c) (dI.send (kd := 3) (dI.settle (w := 2) ((I.prom hn hr hi b2).vote hn hr hi) (J.congr (Nat.le_refl _) fun j _ => ?_) hn hr hi ?_ (by omega) (by omega)) hn (by omega) hr hf hi b2) (Nat.le_succ _)
    · rw [dU_ne _ (by decide), dU_ne _ (by decide)]
    · rw [dU_ne _ (by decide), dU_ne _ (by decide)]; exact h3
theorem dI.asked (I : dI D n c) (J : msgI D n c 40) (hn : n ≤ 5) (hr : r < n) {f : Nat} (hf : f < n) (hi : i < 6 * n) : dI (g_asked D r f i) n (c + 1) := by
  obtain ⟨-, -, -, -, b, -, -, -, -, -, -, -, -, b1, b2, -⟩ := id J
  unfold g_asked
  split
  · exact I.up (Nat.le_succ _)
  · rw [show D 24 444 = nI b from b1]
    exact dI.up (c := c) (dI.send (kd := 6) (I.prom hn hr hi b2) hn (by omega) hr hf hi b2) (Nat.le_succ _)
theorem dI.crash (I : dI D n c) (hr : r < n) : dI (dU D 1 r 1) n (c + 1) := by
  obtain ⟨i1, i2, i3, ⟨u, u1, u2⟩, i5, i6, i7⟩ := I
  have hg : g_un (dU D 1 r 1) = g_un D := by unfold g_un; rw [dU_ne _ (by decide)]
  refine ⟨by rw [dU_ne _ (by decide)]; exact i1, by rw [dU_ne _ (by decide)]; exact i2, by rw [dU_ne _ (by decide)]; exact i3, ⟨u, by rw [dU_ne _ (by decide)]; exact u1, u2⟩, fun r' hr' => ?_, fun k hk => ?_, fun r' i' hr' hi' => ?_⟩
  · by_cases hx : r' = r
    · subst hx; rw [dU_eq]; exact Or.inr rfl
    · rw [dU_nei _ hx]; exact i5 r' hr'
  · rw [hg] at hk
    exact (i6 k hk).congr (Nat.le_succ _) (fun j _ => dU_ne _ (by decide))
  · exact (i7 r' i' hr' hi').congr (Nat.le_succ _) (fun j _ _ => dU_ne _ (by omega)) (fun j k _ _ _ => dU_ne _ (by omega))
end DI3
