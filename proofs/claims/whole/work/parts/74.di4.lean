section DI4
variable {c d : Nat} {n r i a : Nat} {A D E : me_D}
theorem ballot_le : ∀ k b j, j < k → (b + j) % n = r → g_ballotU n r k b ≤ b + j := by
  intro k
  induction k with
  | zero => intro b j h; omega
  | succ k ih =>
    intro b j hj hb
    rw [g_ballotU]
    split
    · omega
    · next h =>
      have hj0 : ¬ j = 0 := fun z => h (by rw [z] at hb; exact hb)
      have := ih (b + 1) (j - 1) (by omega) (by rw [show b + 1 + (j - 1) = b + j by omega]; exact hb)
      omega
theorem ballot_5 (hn : n = 3 ∨ n = 5) (hr : r < n) (b : Nat) : g_ballotU n r n b ≤ b + 4 := by
  have : ∃ j, j < n ∧ (b + j) % n = r := by
    refine ⟨(r + n - b % n) % n, Nat.mod_lt _ (by omega), ?_⟩
    rcases hn with rfl | rfl <;> omega
  obtain ⟨j, h1, h2⟩ := this
  have := ballot_le n b j h1 h2
  rcases hn with rfl | rfl <;> omega
theorem dI.prepare (I : dI D n c) (hn : n = 3 ∨ n = 5) (hr : r < n) (hi : i < 6 * n) (hc9 : c ≤ 100000) : dI (g_prepare D n r i) n (c + 1) := by
  have n5 : n ≤ 5 := by omega
  obtain ⟨⟨st, t1, t2⟩, ⟨p, p1, p2⟩, ⟨q, q1, q2⟩, h4, -, -, -, -, h9⟩ := I.e hr hi
  have hb : g_nat D 9 (30 * r + i) = p := by unfold g_nat; rw [p1, cl (by omega)]
  have b5 := ballot_5 hn hr (p + 1)
  unfold g_prepare g_ballot
  rw [hb]
  refine dI.all (kd := 5) ?_ n5 (by omega) hr hi (by omega)
  refine I.start (Nat.le_succ _) n5 (by omega) hi (off.refl.u (by decide)) (st := st) (p := g_ballotU n r n (p + 1)) (q := q) ?_ t2 ?_ (by omega) ?_ (by omega) ?_ (by omega) (fun z => absurd rfl z) (fun k hk => ?_)
  all_goals simp only [dU_at, Nat.reduceEqDiff, false_and, and_self, if_true, if_false]
  · exact t1
  · exact q1
  · exact h4
  · obtain ⟨⟨s, s1, s2⟩, g⟩ := h9 k hk
    exact ⟨⟨s, s1, by omega⟩, g⟩
theorem free_st {b : Nat} : ∀ {k j : Nat}, g_freeU D r k j = some b → D 4 (30 * r + b) = 0 := by
  intro k
  induction k with
  | zero => intro j h; cases h
  | succ k ih =>
    intro j h
    rw [g_freeU] at h
    split at h
    · next z => cases h; exact z.1
    · exact ih h
theorem dI.propose (I : dI D n c) (hn : n = 3 ∨ n = 5) (hr : r < n) {key : Nat} {put : Bool} {v : Int32} : dI (g_propose D n r key put v) n (c + 1) := by
  have n5 : n ≤ 5 := by omega
  unfold g_propose
  cases hf : g_freeU D r 6 0 with
  | none => exact I.up (Nat.le_succ _)
  | some i =>
    have hi : i < 6 * n := by have := g_freeU_lt hf; omega
    have h0 := free_st hf
    show dI (g_begin D n r i key put v) n (c + 1)
    unfold g_begin
    refine dI.firsts ?_ n5 hr hi _
    have F := I.fit n5 hr hi (by rw [h0]; decide) (x := nI (if put = true then 4 + key else key)) (v := if put = true then v else 0) (s0 := 1) (s := 1) (e := 0) rfl (by omega) (fun j _ hb => by rw [b_0] at hb; cases hb)
    obtain ⟨-, ⟨p, p1, p2⟩, ⟨q, q1, q2⟩, h4, -, -, -, -, h9⟩ := F.e hr hi
    refine F.start (Nat.le_refl _) n5 (by omega) hi off.refl (st := 1) (b := 0) ?_ (by omega) p1 p2 q1 q2 h4 (by omega) (fun _ => by omega) h9
    unfold g_fit g_put
    simp only [dU_at, Nat.reduceEqDiff, false_and, and_self, if_true, if_false]
    rfl
end DI4
