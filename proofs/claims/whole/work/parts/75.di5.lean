section DI5
variable {c d : Nat} {n r i a : Nat} {A D E : me_D}
theorem dI.dr (I : dI D n c) (hE : ∀ j x, ¬ j = 25 → E j x = D j x) : dI E n c := by
  obtain ⟨i1, i2, i3, ⟨u, u1, u2⟩, i5, i6, i7⟩ := I
  have hg : g_un E = g_un D := by unfold g_un; rw [hE _ _ (by decide)]
  refine ⟨by rw [hE _ _ (by decide)]; exact i1, by rw [hE _ _ (by decide)]; exact i2, by rw [hE _ _ (by decide)]; exact i3, ⟨u, by rw [hE _ _ (by decide)]; exact u1, u2⟩, fun r' hr' => by rw [hE _ _ (by decide)]; exact i5 r' hr', fun k hk => ?_, fun r' i' hr' hi' => ?_⟩
  · rw [hg] at hk
    exact (i6 k hk).congr (Nat.le_refl _) (fun j _ => hE _ _ (by decide))
  · exact (i7 r' i' hr' hi').congr (Nat.le_refl _) (fun j _ _ => hE _ _ (by omega)) (fun j k _ _ _ => hE _ _ (by omega))
theorem dI.act (I : dI D n c) (hn : n ≤ 5) (hi : i < 6 * n) : dI (g_act D r i) n c := by
  have gO : ∀ j x, ¬ j = 12 → ¬ j = 2 → ¬ j = 4 → ¬ j = 11 → ¬ j = 3 → g_act D r i j x = D j x := fun j x h1 h2 h3 h4 h5 => g_act_ne h1 h2 h3 h4 h5
  obtain ⟨i1, i2, i3, ⟨u, u1, u2⟩, i5, i6, i7⟩ := I
  have hg : g_un (g_act D r i) = g_un D := by unfold g_un; rw [gO _ _ (by decide) (by decide) (by decide) (by decide) (by decide)]
  refine ⟨by rw [gO _ _ (by decide) (by decide) (by decide) (by decide) (by decide)]; exact i1, by rw [gO _ _ (by decide) (by decide) (by decide) (by decide) (by decide)]; exact i2, by rw [gO _ _ (by decide) (by decide) (by decide) (by decide) (by decide)]; exact i3, ⟨u, by rw [gO _ _ (by decide) (by decide) (by decide) (by decide) (by decide)]; exact u1, u2⟩, fun r' hr' => by rw [gO _ _ (by decide) (by decide) (by decide) (by decide) (by decide)]; exact i5 r' hr', fun k hk => ?_, fun r' i' hr' hi' => ?_⟩
  · rw [hg] at hk
    exact (i6 k hk).congr (Nat.le_refl _) (fun j _ => gO _ _ (by decide) (by decide) (by decide) (by decide) (by decide))
  · obtain ⟨h1, h2, h3, h4, h5, h6, ⟨k, k1, k2, k3, k4, k5, k6, k7⟩, h8, h9⟩ := i7 r' i' hr' hi'
    unfold entI
    simp (disch := decide) only [gO]
    by_cases hx : 30 * r' + i' = 30 * r + i
    · rw [hx] at h2 h3 h4 h5 h6 h9 k1 k3 k7 ⊢
      rw [g_act_st]
      exact ⟨⟨4, rfl, by omega⟩, h2, h3, h4, h5, h6, ⟨k, k1, k2, k3, fun z => absurd z (by decide), fun z => absurd z (by decide), fun z => absurd z (by decide), k7⟩, fun _ _ => by decide, h9⟩
    · rw [g_act_o (fun z => hx z.2) (fun z => absurd z.1 (by decide)) (fun z => absurd z.1 (by decide))]
      exact ⟨h1, h2, h3, h4, h5, h6, ⟨k, k1, k2, k3, k4, k5, k6, k7⟩, h8, h9⟩
theorem dI.run (hn : n ≤ 5) : ∀ T D s, dI D n c → dI (g_runU n r T D s) n c := by
  intro T
  induction T with
  | zero => intro D s I; exact I
  | succ T ih =>
    intro D s I
    rw [g_runU]
    split
    · exact I
    · cases hq : g_nxtU D r s (6 * n) none with
      | none => exact I
      | some q =>
        have hb := nxt_all (D := D) (r := r) (s := s) (6 * n)
        rw [hq] at hb
        exact ih _ _ (I.act hn hb.2.1)
theorem dI.exec (I : dI D n c) (hn : n ≤ 5) : dI (g_exec D n r) n (c + 1) := by
  have go : ∀ T D, dI D n c → dI (g_passU n r T D) n c := by
    intro T
    induction T with
    | zero => intro D I; exact I
    | succ T ih =>
      intro D I
      have J : dI (g_reach D n r) n c := I.dr (fun _ _ h => g_reach_ne h)
      rw [g_passU]
      by_cases hz : g_selU (g_reach D n r) n r (6 * n) 0 = 0
      · rw [show (let E := g_reach D n r; let s := g_selU E n r (6 * n) 0; if s = 0 then E else g_passU n r T (g_runU n r 30 E s)) = g_reach D n r from if_pos hz]
        exact J
      · rw [show (let E := g_reach D n r; let s := g_selU E n r (6 * n) 0; if s = 0 then E else g_passU n r T (g_runU n r 30 E s)) = g_passU n r T (g_runU n r 30 (g_reach D n r) (g_selU (g_reach D n r) n r (6 * n) 0)) from if_neg hz]
        exact ih _ (dI.run hn 30 _ _ J)
  exact (go 31 D I).up (Nat.le_succ _)
end DI5
