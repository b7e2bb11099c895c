section DI2
variable {c d : Nat} {n r i a : Nat} {A D E : me_D}
/-- alike but for an entry and its attempt -/
def off (a : Nat) (D E : me_D) : Prop := ∀ j x, ¬ (4 ≤ j ∧ j ≤ 16 ∧ x = a) → ¬ (17 ≤ j ∧ j ≤ 23 ∧ 4 * a ≤ x ∧ x < 4 * a + 4) → E j x = D j x
theorem off.refl : off a D D := fun _ _ _ _ => rfl
theorem off.u (h : off a A D) {j : Nat} {v : Int32} (hj : 4 ≤ j ∧ j ≤ 16) : off a A (dU D j a v) := fun j' x h1 h2 => by
  rw [dU_at, if_neg (fun z => h1 ⟨by omega, by omega, z.2⟩)]; exact h j' x h1 h2
theorem off.w (h : off a A D) {j k : Nat} {v : Int32} (hj : 17 ≤ j ∧ j ≤ 23) (hk : k < 4) : off a A (dU D j (4 * a + k) v) := fun j' x h1 h2 => by
  rw [dU_at, if_neg (fun z => h2 ⟨by omega, by omega, by omega, by omega⟩)]; exact h j' x h1 h2
theorem off.put (h : off a A D) {w x v : Int32} : off a A (g_put D a w x v) := ((h.u (by decide)).u (by decide)).u (by decide)
theorem off.start (h : off a A D) {w x : Int32} : off a A (g_start D a w x) := (((h.u (by decide)).u (by decide)).u (by decide)).u (by decide)
theorem off.log (h : off a A D) (hk : g_ct D a < 4) : off a A (g_log D a) := (((((((h.w (by decide) hk).w (by decide) hk).w (by decide) hk).w (by decide) hk).w (by decide) hk).w (by decide) hk).w (by decide) hk).u (by decide)
theorem off.own (h : off a A D) {k : Nat} (hk : k < 4) : off a A (g_own D r a k) := ((((((h.w (by decide) hk).w (by decide) hk).w (by decide) hk).w (by decide) hk).w (by decide) hk).w (by decide) hk).w (by decide) hk
def bOK (n : Nat) (d : Int32) : Prop := ∀ j, j < 32 → bt d j = true → j < 6 * n
def slI (D : me_D) (n c a : Nat) : Prop := ∀ k, k < 4 → (∃ sq, D 21 (4 * a + k) = nI sq ∧ sq ≤ c + 1) ∧ bOK n (D 22 (4 * a + k))
theorem slI.up (h : slI D n c a) (hcd : c ≤ d) : slI D n d a := fun k hk => by
  obtain ⟨⟨s, s1, s2⟩, g⟩ := h k hk
  exact ⟨⟨s, s1, by omega⟩, g⟩
theorem slI.eq (h : slI D n c a) (h1 : ∀ k, k < 4 → E 21 (4 * a + k) = D 21 (4 * a + k)) (h2 : ∀ k, k < 4 → E 22 (4 * a + k) = D 22 (4 * a + k)) : slI E n c a := fun k hk => by
  rw [h1 k hk, h2 k hk]; exact h k hk
/-- begun anew -/
theorem dI.start (I : dI A n c) (hcd : c ≤ d) (hn : n ≤ 5) (hn3 : 3 ≤ n) (hi : i < 6 * n) (ho : off (30 * r + i) A D) {st p q b : Nat} {w : Int32} (h1 : D 4 (30 * r + i) = nI st) (h1' : st ≤ 4) (h2 : D 9 (30 * r + i) = nI p) (h2' : p ≤ 5 * d) (h3 : D 7 (30 * r + i) = nI q) (h3' : q ≤ d + 1) (h4 : bOK n (D 8 (30 * r + i))) (hb : b ≤ 5 * d) (hw : ¬ w = 3 → ¬ st = 0) (hs : slI D n d (30 * r + i)) : dI (g_start D (30 * r + i) w (nI b)) n d := by
  refine I.ent hcd hn hi ho.start ?_
  unfold entI g_start
  simp only [dU_at, Nat.reduceEqDiff, false_and, and_self, if_true, if_false]
  refine ⟨⟨st, h1, h1'⟩, ⟨p, h2, h2'⟩, ⟨q, h3, h3'⟩, h4, Or.inr trivial, ⟨b, rfl, hb⟩, ⟨0, rfl, by omega, fun _ => rfl, fun _ _ => by omega, fun _ _ => by omega, fun _ _ => by omega, fun _ => by omega⟩, fun _ h z => ?_, hs⟩
  rw [h1] at z
  exact hw h ((neq (by omega) (by omega)).mp z)
theorem dI.agree (I : dI A n c) (hcd : c ≤ d) (hn : n ≤ 5) (hn3 : 3 ≤ n) (hr : r < n) (hi : i < 6 * n) (ho : off (30 * r + i) A D) {p q b : Nat} {x v s e : Int32} (h2 : D 9 (30 * r + i) = nI p) (h2' : p ≤ 5 * d) (h3 : s = nI q) (h3' : q ≤ d + 1) (h4 : bOK n e) (hb : D 15 (30 * r + i) = nI b) (hb' : b ≤ 5 * d) (hs : slI D n d (30 * r + i)) : dI (g_agree D n r i x v s e) n d := by
  unfold g_agree
  rw [hb]
  refine dI.all (kd := 2) ?_ hn (by omega) hr hi hb'
  refine I.start hcd hn hn3 hi (((ho.put.u (by decide)).u (by decide)).u (by decide)) (st := 2) (p := p) (q := q) ?_ (by omega) ?_ h2' ?_ h3' ?_ hb' (fun _ => by omega) (hs.eq (fun k hk => ?_) (fun k hk => ?_))
  all_goals simp only [g_put, dU_at, Nat.reduceEqDiff, false_and, and_self, if_true, if_false]
  · rfl
  · exact h2
  · exact h3
  · exact h4
theorem dI.fin (I : dI A n c) (hcd : c ≤ d) (hn : n ≤ 5) (hr : r < n) (hi : i < 6 * n) (ho : off (30 * r + i) A D) {p q b k : Nat} {s e : Int32} (h2 : D 9 (30 * r + i) = nI p) (h2' : p ≤ 5 * d) (h3 : s = nI q) (h3' : q ≤ d + 1) (h4 : bOK n e) (h5 : D 13 (30 * r + i) = 1) (hb : D 15 (30 * r + i) = nI b) (hb' : b ≤ 5 * d) (hk : D 16 (30 * r + i) = nI k) (hk3 : k ≤ 3) (hp : ¬ D 14 (30 * r + i) = 3) (hs : slI D n d (30 * r + i)) : dI (g_finish D n r i s e) n d := by
  unfold g_finish
  refine dI.all (kd := 4) (b := 0) ?_ hn (by omega) hr hi (by omega)
  refine I.ent hcd hn hi (((ho.u (by decide)).u (by decide)).u (by decide)) ?_
  unfold entI
  simp only [dU_at, Nat.reduceEqDiff, false_and, and_self, if_true, if_false]
  refine ⟨⟨3, rfl, by omega⟩, ⟨p, h2, h2'⟩, ⟨q, h3, h3'⟩, h4, Or.inr h5, ⟨b, hb, hb'⟩, ⟨k, hk, hk3, fun z => ?_, fun z => absurd z (by decide), fun z => absurd z (by decide), fun z => absurd z (by decide), fun z => absurd z hp⟩, fun _ _ => by decide, hs⟩
  rw [h5] at z
  exact absurd z (by decide)
/-- fitted orders stay in range -/
theorem fit_rng {x s e : Int32} {s0 : Nat} (hq : ∀ j, j < 6 * n → ∃ q, D 7 (30 * r + j) = nI q ∧ q ≤ c + 1) (hn : n ≤ 5) (hs : s = nI s0) (h0 : s0 ≤ c + 2) (he : bOK n e) : ∀ m, m ≤ 6 * n → (∃ y, (g_fitU D r i x s e m).1 = nI y ∧ y ≤ c + 2) ∧ bOK n (g_fitU D r i x s e m).2 := by
  intro m
  induction m with
  | zero => intro _; exact ⟨⟨s0, hs, h0⟩, he⟩
  | succ m ih =>
    intro hm
    obtain ⟨⟨y, y1, y2⟩, g⟩ := ih (by omega)
    rw [g_fitU]
    split
    · obtain ⟨q, q1, q2⟩ := hq m (by omega)
      refine ⟨?_, fun j hj hb => ?_⟩
      · by_cases hz : D 7 (30 * r + m) < (g_fitU D r i x s e m).1
        · exact ⟨y, (if_pos hz).trans y1, y2⟩
        · exact ⟨q + 1, (if_neg hz).trans (by rw [q1, p1]), by omega⟩
      · rw [b_or, bt_s (by omega) hj, Bool.or_eq_true, decide_eq_true_iff] at hb
        rcases hb with hb | hb
        · exact g j hj hb
        · omega
    · exact ⟨⟨y, y1, y2⟩, g⟩
theorem apU_rng (hs : slI D n c a) : ∀ m, m ≤ 4 → (∃ y, (g_apU D a m).2.1 = nI y ∧ y ≤ c + 1) ∧ bOK n (g_apU D a m).2.2 := by
  intro m
  induction m with
  | zero => intro _; exact ⟨(hs 0 (by omega)).1, fun j _ hb => by rw [g_apU, b_0] at hb; cases hb⟩
  | succ m ih =>
    intro hm
    obtain ⟨y, g⟩ := ih (by omega)
    refine ⟨?_, fun j hj hb => ?_⟩
    · rw [g_apU]
      by_cases hz : D 21 (4 * a + m) ≤ (g_apU D a m).2.1
      · obtain ⟨y, y1, y2⟩ := y
        exact ⟨y, (if_pos hz).trans y1, y2⟩
      · obtain ⟨y, y1, y2⟩ := (hs m (by omega)).1
        exact ⟨y, (if_neg hz).trans y1, y2⟩
    · rw [g_apU] at hb
      have hb : bt ((g_apU D a m).2.2 ||| D 22 (4 * a + m)) j = true := hb
      rw [b_or, Bool.or_eq_true] at hb
      rcases hb with hb | hb
      · exact g j hj hb
      · exact (hs m (by omega)).2 j hj hb
end DI2
