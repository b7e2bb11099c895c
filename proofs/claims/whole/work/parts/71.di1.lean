section DI1
variable {c d : Nat} {n r i a : Nat} {D E : me_D}
theorem entI.congr (h : entI D n c a) (hcd : c ≤ d) (hE : ∀ j, 4 ≤ j → j ≤ 16 → E j a = D j a) (hR : ∀ j k, 17 ≤ j → j ≤ 23 → k < 4 → E j (4 * a + k) = D j (4 * a + k)) : entI E n d a := by
  obtain ⟨h1, ⟨p, p1, p2⟩, ⟨q, q1, q2⟩, h4, h5, ⟨e, e1, e2⟩, h7, h8, h9⟩ := h
  unfold entI
  rw [hE 4 (by decide) (by decide), hE 9 (by decide) (by decide), hE 7 (by decide) (by decide), hE 8 (by decide) (by decide), hE 13 (by decide) (by decide), hE 15 (by decide) (by decide), hE 16 (by decide) (by decide), hE 14 (by decide) (by decide)]
  refine ⟨h1, ⟨p, p1, by omega⟩, ⟨q, q1, by omega⟩, h4, h5, ⟨e, e1, by omega⟩, h7, h8, fun k hk => ?_⟩
  obtain ⟨⟨s, s1, s2⟩, g⟩ := h9 k hk
  rw [hR 21 k (by decide) (by decide) hk, hR 22 k (by decide) (by decide) hk]
  exact ⟨⟨s, s1, by omega⟩, g⟩
theorem msgI.congr {k : Nat} (h : msgI D n c k) (hcd : c ≤ d) (hE : ∀ j, j < 11 → E 24 (11 * k + j) = D 24 (11 * k + j)) : msgI E n d k := by
  obtain ⟨kd, fr, to, i, b, a1, a2, a3, a4, a5, a6, a7, a8, a9, a10, ⟨s, s1, s2⟩, g, h⟩ := h
  have e0 := hE 0 (by omega)
  rw [Nat.add_zero] at e0
  refine ⟨kd, fr, to, i, b, by rw [e0]; exact a1, a2, by rw [hE 1 (by omega)]; exact a3, a4, by rw [hE 2 (by omega)]; exact a5, a6, by rw [hE 3 (by omega)]; exact a7, a8, by rw [hE 4 (by omega)]; exact a9, by omega, ⟨s, by rw [hE 7 (by omega)]; exact s1, by omega⟩, by rw [hE 8 (by omega)]; exact g, by rw [hE 9 (by omega)]; exact h⟩
/-- one entry and its attempt changed -/
theorem dI.ent (I : dI D n c) (hcd : c ≤ d) (hn : n ≤ 5) (hi : i < 6 * n) (hE : ∀ j x, ¬ (4 ≤ j ∧ j ≤ 16 ∧ x = 30 * r + i) → ¬ (17 ≤ j ∧ j ≤ 23 ∧ 4 * (30 * r + i) ≤ x ∧ x < 4 * (30 * r + i) + 4) → E j x = D j x) (he : entI E n d (30 * r + i)) : dI E n d := by
  obtain ⟨i1, i2, i3, ⟨u, u1, u2⟩, i5, i6, i7⟩ := I
  have hg : g_un E = g_un D := by unfold g_un; rw [hE _ _ (fun z => by omega) (fun z => by omega)]
  refine ⟨by rw [hE _ _ (fun z => by omega) (fun z => by omega)]; exact i1, by rw [hE _ _ (fun z => by omega) (fun z => by omega)]; exact i2, by rw [hE _ _ (fun z => by omega) (fun z => by omega)]; exact i3, ⟨u, by rw [hE _ _ (fun z => by omega) (fun z => by omega)]; exact u1, u2⟩, fun r' hr' => by rw [hE _ _ (fun z => by omega) (fun z => by omega)]; exact i5 r' hr', fun k hk => ?_, fun r' i' hr' hi' => ?_⟩
  · rw [hg] at hk
    exact (i6 k hk).congr hcd (fun j _ => hE _ _ (fun z => by omega) (fun z => by omega))
  · by_cases hx : 30 * r' + i' = 30 * r + i
    · rw [hx]; exact he
    · exact (i7 r' i' hr' hi').congr hcd (fun j _ _ => hE _ _ (fun z => hx z.2.2) (fun z => by omega)) (fun j k _ _ hk => hE _ _ (fun z => by omega) (fun z => by omega))
theorem dI.up (I : dI D n c) (hcd : c ≤ d) : dI D n d := by
  obtain ⟨i1, i2, i3, u, i5, i6, i7⟩ := I
  exact ⟨i1, i2, i3, u, i5, fun k hk => (i6 k hk).congr hcd (fun _ _ => rfl), fun r i hr hi => (i7 r i hr hi).congr hcd (fun _ _ _ => rfl) (fun _ _ _ _ _ => rfl)⟩
theorem mail_ne {k : Nat} {kd f t x y : Int32} {j z : Nat} (h : ¬ (j = 24 ∧ 11 * k ≤ z ∧ z < 11 * k + 11)) : g_mail D k kd f t x y a j z = D j z := by
  unfold g_mail
  simp only [dU_at]
  repeat rw [if_neg (fun w => h ⟨w.1, by omega, by omega⟩)]
theorem g_mail_r {k : Nat} {kd f t x y : Int32} : g_mail D k kd f t x y a 24 (11 * k) = kd ∧ g_mail D k kd f t x y a 24 (11 * k + 1) = f ∧ g_mail D k kd f t x y a 24 (11 * k + 2) = t ∧ g_mail D k kd f t x y a 24 (11 * k + 3) = x ∧ g_mail D k kd f t x y a 24 (11 * k + 4) = y ∧ g_mail D k kd f t x y a 24 (11 * k + 7) = D 7 a ∧ g_mail D k kd f t x y a 24 (11 * k + 8) = D 8 a ∧ g_mail D k kd f t x y a 24 (11 * k + 9) = D 4 a := by
  unfold g_mail
  simp [dU_at]
theorem dI.send (I : dI D n c) (hn : n ≤ 5) {kd f t b : Nat} (hk : kd ≤ 6) (hf : f < n) (ht : t < n) (hi : i < 6 * n) (hb : b ≤ 5 * c) : dI (g_send D (nI kd) f t i (nI b)) n c := by
  obtain ⟨i1, i2, i3, ⟨u, u1, u2⟩, i5, i6, i7⟩ := I
  have hg : g_un D = u := g_un_of u1 u2
  unfold g_send
  by_cases h40 : D 1666 0 = 40
  · rw [if_pos h40]
    have hg2 : g_un (dU D 1667 0 (D 1667 0 + 1)) = u := by unfold g_un; rw [dU_ne _ (by decide)]; exact hg
    refine ⟨by rw [dU_ne _ (by decide)]; exact i1, by rw [dU_ne _ (by decide)]; exact i2, by rw [dU_ne _ (by decide)]; exact i3, ⟨u, by rw [dU_ne _ (by decide)]; exact u1, u2⟩, fun r' hr' => by rw [dU_ne _ (by decide)]; exact i5 r' hr', fun k hk => ?_, fun r' i' hr' hi' => ?_⟩
    · rw [hg2, ← hg] at hk
      exact (i6 k hk).congr (Nat.le_refl _) (fun j _ => dU_ne _ (by decide))
    · exact (i7 r' i' hr' hi').congr (Nat.le_refl _) (fun j _ _ => dU_ne _ (by omega)) (fun j k _ _ _ => dU_ne _ (by omega))
  · rw [if_neg h40]
    have u39 : u < 40 := by
      rcases Nat.lt_or_ge u 40 with z | z
      · exact z
      · have : u = 40 := by omega
        rw [u1, this] at h40
        exact absurd rfl h40
    have hu2 : dU (g_mail D (g_un D) (nI kd) (nI f) (nI t) (nI i) (nI b) (30 * f + i)) 1666 0 (D 1666 0 + 1) 1666 0 = nI (u + 1) := by rw [dU_eq, u1, p1]
    have hg2 := g_un_of hu2 (by omega)
    have ne : ∀ j x, ¬ j = 24 → ¬ j = 1666 → dU (g_mail D (g_un D) (nI kd) (nI f) (nI t) (nI i) (nI b) (30 * f + i)) 1666 0 (D 1666 0 + 1) j x = D j x := fun j x h1 h2 => by rw [dU_ne _ h2, mail_ne (fun z => h1 z.1)]
    refine ⟨by rw [ne _ _ (by decide) (by decide)]; exact i1, by rw [ne _ _ (by decide) (by decide)]; exact i2, by rw [ne _ _ (by decide) (by decide)]; exact i3, ⟨u + 1, hu2, by omega⟩, fun r' hr' => by rw [ne _ _ (by decide) (by decide)]; exact i5 r' hr', fun k hk => ?_, fun r' i' hr' hi' => ?_⟩
    · rw [hg2] at hk
      by_cases hx : k = u
      · rw [hx]
        obtain ⟨m0, m1, m2, m3, m4, m7, m8, m9⟩ := g_mail_r (D := D) (a := 30 * f + i) (k := u) (kd := nI kd) (f := nI f) (t := nI t) (x := nI i) (y := nI b)
        obtain ⟨e1, -, e3, e4, -⟩ := i7 f i hf hi
        rw [hg]
        refine ⟨kd, f, t, i, b, by rw [dU_ne _ (by decide)]; exact m0, ‹_›, by rw [dU_ne _ (by decide)]; exact m1, hf, by rw [dU_ne _ (by decide)]; exact m2, ht, by rw [dU_ne _ (by decide)]; exact m3, hi, by rw [dU_ne _ (by decide)]; exact m4, hb, ?_, ?_, ?_⟩
        · rw [dU_ne _ (by decide), m7]; exact e3
        · rw [dU_ne _ (by decide), m8]; exact e4
        · rw [dU_ne _ (by decide), m9]; exact e1
      · refine (i6 k (by omega)).congr (Nat.le_refl _) (fun j hj => ?_)
        rw [dU_ne _ (by decide), mail_ne (fun z => by omega)]
    · exact (i7 r' i' hr' hi').congr (Nat.le_refl _) (fun j _ _ => ne _ _ (by omega) (by omega)) (fun j k _ _ _ => ne _ _ (by omega) (by omega))
theorem dI.all (I : dI D n c) (hn : n ≤ 5) {kd f b : Nat} (hk : kd ≤ 6) (hf : f < n) (hi : i < 6 * n) (hb : b ≤ 5 * c) : dI (g_all D n (nI kd) f i (nI b)) n c := by
  have go : ∀ t, t ≤ n → dI (g_allU D (nI kd) f i (nI b) t) n c := by
    intro t
    induction t with
    | zero => intro _; exact I
    | succ t ih =>
      intro ht
      rw [g_allU]
      split
      · exact ih (by omega)
      · exact (ih (by omega)).send hn hk hf (by omega) hi hb
  exact go n (Nat.le_refl _)
theorem dI.firsts (I : dI D n c) (hn : n ≤ 5) (hr : r < n) (hi : i < 6 * n) : ∀ k, dI (g_firstsU D n r i k) n c := by
  intro k
  induction k with
  | zero => exact I
  | succ k ih =>
    rw [g_firstsU]
    exact ih.send (kd := 0) (b := 0) hn (by omega) hr (Nat.mod_lt _ (by omega)) hi (by omega)
end DI1
