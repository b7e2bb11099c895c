section EXEC2
variable {c : Nat} {M N : me_M} {b n r i : Nat} {D E : me_D} {s : Int32} {lo hi : Nat} {o p : Option Nat}
/-- the least of s between lo and hi: by seq, then by number -/
def bs (D : me_D) (r : Nat) (s : Int32) (lo hi : Nat) : Option Nat → Prop
  | none => ∀ j, lo ≤ j → j < hi → bt s j = false
  | some q => lo ≤ q ∧ q < hi ∧ bt s q = true ∧ ∀ j, lo ≤ j → j < hi → bt s j = true → (D 7 (30 * r + q)).toInt ≤ (D 7 (30 * r + j)).toInt ∧ (j < q → (D 7 (30 * r + q)).toInt < (D 7 (30 * r + j)).toInt)
theorem bs_uniq (h : bs D r s lo hi o) (g : bs D r s lo hi p) : o = p := by
  cases o with
  | none => cases p with
    | none => rfl
    | some q => exact absurd g.2.2.1 (by rw [h q g.1 g.2.1]; decide)
  | some q => cases p with
    | none => exact absurd h.2.2.1 (by rw [g q h.1 h.2.1]; decide)
    | some q' =>
      have a := h.2.2.2 q' g.1 g.2.1 g.2.2.1
      have e := g.2.2.2 q h.1 h.2.1 h.2.2.1
      rcases Nat.lt_trichotomy q q' with z | z | z
      · have := e.2 z; omega
      · rw [z]
      · have := a.2 z; omega
theorem bs_skip (hb : bt s hi = false) (h : bs D r s lo hi o) : bs D r s lo (hi + 1) o := by
  cases o with
  | none =>
    intro j h1 h2
    by_cases hj : j = hi
    · rw [hj]; exact hb
    · exact h j h1 (by omega)
  | some q =>
    refine ⟨h.1, by have := h.2.1; omega, h.2.2.1, fun j h1 h2 h3 => ?_⟩
    by_cases hj : j = hi
    · rw [hj, hb] at h3; cases h3
    · exact h.2.2.2 j h1 (by omega) h3
theorem bs_new (hl : lo ≤ hi) (hb : bt s hi = true) (h : bs D r s lo hi none) : bs D r s lo (hi + 1) (some hi) := by
  refine ⟨hl, by omega, hb, fun j h1 h2 h3 => ?_⟩
  by_cases hj : j = hi
  · subst hj; exact ⟨Int.le_refl _, fun z => by omega⟩
  · rw [h j h1 (by omega)] at h3; cases h3
theorem bs_less {q : Nat} (hl : lo ≤ hi) (hb : bt s hi = true) (hq : (D 7 (30 * r + hi)).toInt < (D 7 (30 * r + q)).toInt) (h : bs D r s lo hi (some q)) : bs D r s lo (hi + 1) (some hi) := by
  refine ⟨hl, by omega, hb, fun j h1 h2 h3 => ?_⟩
  by_cases hj : j = hi
  · subst hj; exact ⟨Int.le_refl _, fun z => by omega⟩
  · have := (h.2.2.2 j h1 (by omega) h3).1
    exact ⟨by omega, fun _ => by omega⟩
theorem bs_stay {q : Nat} (hq : (D 7 (30 * r + q)).toInt ≤ (D 7 (30 * r + hi)).toInt) (h : bs D r s lo hi (some q)) : bs D r s lo (hi + 1) (some q) := by
  refine ⟨h.1, by have := h.2.1; omega, h.2.2.1, fun j h1 h2 h3 => ?_⟩
  by_cases hj : j = hi
  · subst hj; exact ⟨hq, fun z => by have := h.2.1; omega⟩
  · exact h.2.2.2 j h1 (by omega) h3
theorem bs_dn {j : Nat} (hj : j < hi) (h : bs D r s (j + 1) hi o) : bs D r s j hi (if bt s j = true ∧ g_nb D r j o = true then some j else o) := by
  by_cases hb : bt s j = true
  · cases o with
    | none =>
      rw [if_pos ⟨hb, rfl⟩]
      refine ⟨Nat.le_refl _, hj, hb, fun x h1 h2 h3 => ?_⟩
      by_cases hx : x = j
      · subst hx; exact ⟨Int.le_refl _, fun z => by omega⟩
      · rw [h x (by omega) h2] at h3; cases h3
    | some q =>
      have hg : g_nb D r j (some q) = true ↔ (D 7 (30 * r + j)).toInt ≤ (D 7 (30 * r + q)).toInt := by
        show decide (¬ D 7 (30 * r + q) < D 7 (30 * r + j)) = true ↔ _
        rw [decide_eq_true_iff, Int32.lt_iff_toInt_lt]
        omega
      obtain ⟨h1, h2, h3, h4⟩ := h
      by_cases hk : g_nb D r j (some q) = true
      · rw [if_pos ⟨hb, hk⟩]
        rw [hg] at hk
        refine ⟨Nat.le_refl _, hj, hb, fun x g1 g2 g3 => ?_⟩
        by_cases hx : x = j
        · subst hx; exact ⟨Int.le_refl _, fun z => by omega⟩
        · have := (h4 x (by omega) g2 g3).1
          exact ⟨by omega, fun z => by omega⟩
      · rw [if_neg (fun z => hk z.2)]
        rw [hg] at hk
        refine ⟨by omega, h2, h3, fun x g1 g2 g3 => ?_⟩
        by_cases hx : x = j
        · subst hx; exact ⟨by omega, fun z => by omega⟩
        · exact h4 x (by omega) g2 g3
  · rw [if_neg (fun z => hb z.1)]
    cases o with
    | none =>
      intro x h1 h2
      by_cases hx : x = j
      · rw [hx]; exact Bool.eq_false_iff.mpr hb
      · exact h x (by omega) h2
    | some q =>
      refine ⟨by have := h.1; omega, h.2.1, h.2.2.1, fun x g1 g2 g3 => ?_⟩
      by_cases hx : x = j
      · rw [hx] at g3; exact absurd g3 hb
      · exact h.2.2.2 x (by omega) g2 g3
theorem nxt_bs : ∀ k o, k ≤ hi → bs D r s k hi o → bs D r s 0 hi (g_nxtU D r s k o) := by
  intro k
  induction k with
  | zero => intro o _ h; exact h
  | succ k ih =>
    intro o hk h
    rw [nxtU_s]
    exact ih _ (by omega) (bs_dn (by omega) h)
theorem nxt_all (m : Nat) : bs D r s 0 m (g_nxtU D r s m none) := nxt_bs m none (Nat.le_refl _) (fun j h1 h2 => by omega)
def oF : Option Nat → Int32
  | none => 0
  | some _ => 1
theorem c_Sto_leastSeq (C : cW M b n D) (hr : r < n) (hs : ∀ j, j < 6 * n → bt s j = true → ¬ D 4 (30 * r + j) = 0) : EX eL X_Sto_leastSeq 0 [some (.inr (some (aR b n r + 3 + 6 * n))), some (.inr (some (aR b n r + 1))), some (.inl s), none, none, none] [] M (fun x N => x = some (.inl (nI ((g_nxtU D r s (6 * n) none).getD 0))) ∧ N = M) := by
  have n5 := C.n5
  have S := C.sk
  refine sg_Sto_leastSeq_0 ?_
  have loop : ∀ t i o, t + i = 6 * n → bs D r s 0 i o → EX eL X_Sto_leastSeq 8 [none, some (.inr (some (aR b n r + 1))), some (.inl s), some (.inl (nI (o.getD 0))), some (.inl (oF o)), some (.inl (nI i))] [] M (fun x N => x = some (.inl (nI ((g_nxtU D r s (6 * n) none).getD 0))) ∧ N = M) := by
    intro t
    induction t with
    | zero =>
      intro i o hi ho
      have hi : i = 6 * n := by omega
      subst hi
      refine sg_Sto_leastSeq_8 ⟨_, rfl, s_kEnts S hr, fun _ => ⟨?_, rfl⟩, fun h => ?_⟩
      · rw [bs_uniq ho (nxt_all (6 * n))]
      · rw [s_lEnts S hr] at h
        exact absurd (Int32.le_refl _) h
    | succ t ih =>
      intro i o hi ho
      have hi6 : i < 6 * n := by omega
      refine sg_Sto_leastSeq_8 ⟨_, rfl, s_kEnts S hr, fun h => ?_, fun _ => ?_⟩
      · rw [s_lEnts S hr, oN, nle (by omega) (by omega)] at h; omega
      · refine EX.mono (c_Sto_contains (by omega)) fun y N hv => ?_
        obtain ⟨rfl, rfl⟩ := hv
        refine ⟨_, rfl, fun h x hx => ?_, fun h => ?_⟩
        · subst hx
          rw [nI_i1]
          exact ih (i + 1) o (by omega) (bs_skip (b01_0 h) ho)
        · have hb := b01_1 h
          cases o with
          | none =>
            refine ⟨fun _ x hx => ?_, fun z => absurd rfl z⟩
            subst hx
            rw [nI_i1]
            exact ih (i + 1) (some i) (by omega) (bs_new (Nat.zero_le _) hb ho)
          | some q =>
            obtain ⟨k1, k2, k3, -⟩ := id ho
            have hq6 : q < 6 * n := by omega
            obtain ⟨w1, a1, a2, a3, -⟩ := (C.ent hr hi6).2.2.2.2.2.2 (hs i hi6 hb)
            obtain ⟨w2, e1, e2, e3, -⟩ := (C.ent hr hq6).2.2.2.2.2.2 (hs q hq6 k3)
            have v : ∀ x, x < 6 * n → vp_in (nI x) (mLn N (aR b n r + 1)) := fun x hx => by rw [s_lEnts S hr]; exact vin hx (by omega)
            refine ⟨fun z => absurd z (show ¬ (1 : Int32) = 0 by decide), fun _ => ⟨s_kEnts S hr, v i hi6, _, by rw [cl (by omega)]; exact s_ent S hr hi6, s_kEnt S hr hi6, w1, a1, a2, v q hq6, _, by rw [Option.getD_some, cl (by omega)]; exact s_ent S hr hq6, s_kEnt S hr hq6, w2, e1, e2, ?_⟩⟩
            rw [a3, e3, Int32.le_iff_toInt_le]
            refine ⟨fun z x hx => ?_, fun z x hx => ?_⟩
            · subst hx
              rw [nI_i1]
              exact ih (i + 1) (some q) (by omega) (bs_stay z ho)
            · subst hx
              rw [nI_i1]
              exact ih (i + 1) (some i) (by omega) (bs_less (Nat.zero_le _) hb (by omega) ho)
  exact loop (6 * n) 0 none (by omega) (fun j h1 h2 => by omega)
end EXEC2
