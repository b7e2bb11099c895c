section EXEC5
variable {M N : me_M} {b n r i : Nat} {A D E : me_D}
def yC (D : me_D) (n r i : Nat) : Prop := i < 6 * n ∧ D 4 (30 * r + i) = 3
def yE (D : me_D) (r j : Nat) : Prop := D 4 (30 * r + j) = 4
def yD (D : me_D) (r i j : Nat) : Prop := bt (D 8 (30 * r + i)) j = true
/-- A: at the call's start, D: now -/
def yI (A D : me_D) (n r : Nat) : Prop := (∀ i, i < 6 * n → D 8 (30 * r + i) = A 8 (30 * r + i)) ∧ (∀ i, i < 6 * n → (D 4 (30 * r + i) = 3 ↔ A 4 (30 * r + i) = 3 ∧ ¬ D 4 (30 * r + i) = 4)) ∧ cClosed (yC A n r) (yE D r) (yD A r)
theorem yT (h : yI A D n r) {i : Nat} : cT (yC A n r) (yE D r) i ↔ i < 6 * n ∧ D 4 (30 * r + i) = 3 :=
  ⟨fun z => ⟨z.1.1, (h.2.1 i z.1.1).mpr ⟨z.1.2, z.2⟩⟩, fun z => ⟨⟨z.1, ((h.2.1 i z.1).mp z.2).1⟩, ((h.2.1 i z.1).mp z.2).2⟩⟩
theorem yI_0 : yI A A n r := ⟨fun _ _ => rfl, fun i _ => ⟨fun z => ⟨z, fun y => by rw [z] at y; exact absurd y (by decide)⟩, fun z => z.1⟩, fun i z y => by
  unfold yE at y
  rw [z.2] at y
  exact absurd y (by decide)⟩
theorem row_cls {x j : Nat} (hx : x < 6 * n) : bt (cWU (cR0 A r) (6 * n) (6 * n) x) j = true ↔ Relation.TransGen (cG (yC A n r) (yD A r)) x j := by
  rw [cWU_tg _ _ hx]
  have e : (fun a e => a < 6 * n ∧ bt (cR0 A r a) e = true) = cG (yC A n r) (yD A r) := by
    funext a e
    apply propext
    unfold cG yC yD cR0
    by_cases h : A 4 (30 * r + a) = 3
    · rw [if_pos h]; exact ⟨fun z => ⟨⟨z.1, h⟩, z.2⟩, fun z => ⟨z.1.1, z.2⟩⟩
    · rw [if_neg h, b_0]; exact ⟨fun z => absurd z.2 (by decide), fun z => absurd z.1.2 h⟩
  rw [e]
theorem open_bt : ∀ m j, m ≤ 32 → j < 32 → (bt (g_openU D r m) j = true ↔ j < m ∧ D 4 (30 * r + j) = 3) := by
  intro m
  induction m with
  | zero => intro j _ _; rw [g_openU, b_0]; exact ⟨fun z => absurd z (by decide), fun z => absurd z.1 (Nat.not_lt_zero _)⟩
  | succ m ih =>
    intro j hm hj
    rw [g_openU]
    by_cases h : D 4 (30 * r + m) = 3
    · rw [if_pos h, b_or, bt_s (by omega) hj, Bool.or_eq_true, ih j (by omega) hj, decide_eq_true_iff]
      constructor
      · rintro (z | z)
        · exact ⟨by omega, z.2⟩
        · rw [z]; exact ⟨by omega, h⟩
      · intro z
        by_cases hx : j = m
        · exact Or.inr hx
        · exact Or.inl ⟨by omega, z.2⟩
    · rw [if_neg h, ih j (by omega) hj]
      constructor
      · exact fun z => ⟨by omega, z.2⟩
      · intro z
        by_cases hx : j = m
        · rw [hx] at z; exact absurd z.2 h
        · exact ⟨by omega, z.2⟩
theorem rc0_row {o : Int32} {x : Nat} : ∀ m, x < m → g_rc0U D r o m 25 x = if bt o x = true then (D 8 (30 * r + x) &&& o) ||| (1 <<< (nI x &&& 31)) else 0 := by
  intro m
  induction m with
  | zero => intro h; omega
  | succ m ih =>
    intro hx
    rw [g_rc0U]
    by_cases hm : x = m
    · subst hm
      by_cases h : bt o x = true
      · rw [if_pos h, if_pos h, dU_at, if_pos ⟨rfl, rfl⟩]
      · rw [if_neg h, if_neg h, dU_at, if_pos ⟨rfl, rfl⟩]
    · by_cases h : bt o m = true
      · rw [if_pos h, dU_at, if_neg (fun z => hm z.2)]; exact ih (by omega)
      · rw [if_neg h, dU_at, if_neg (fun z => hm z.2)]; exact ih (by omega)
theorem row_ref (hn : n ≤ 5) (h : yI A D n r) {x j : Nat} (hx : x < 6 * n) : bt (g_reach D n r 25 x) j = true ↔ Relation.TransGen (cH (yC A n r) (yE D r) (yD A r)) x j := by
  unfold g_reach
  rw [warU_eq, cWU_tg _ _ hx]
  have e : (fun a e => a < 6 * n ∧ bt (g_rc0U D r (g_openU D r (6 * n)) (6 * n) 25 a) e = true) = cH (yC A n r) (yE D r) (yD A r) := by
    funext a e
    apply propext
    unfold cH
    rw [yT h, yT h]
    by_cases ha : a < 6 * n
    · rw [rc0_row (6 * n) ha]
      by_cases hs : D 4 (30 * r + a) = 3
      · rw [if_pos ((open_bt (6 * n) a (by omega) (by omega)).mpr ⟨ha, hs⟩)]
        by_cases he : e < 32
        · rw [b_or, b_and, bt_s (by omega) he, Bool.or_eq_true, Bool.and_eq_true, decide_eq_true_iff, open_bt (6 * n) e (by omega) he, h.1 a ha]
          exact ⟨fun z => ⟨⟨ha, hs⟩, z.2.elim Or.inl (fun y => Or.inr y.symm)⟩, fun z => ⟨ha, z.2.elim Or.inl (fun y => Or.inr y.symm)⟩⟩
        · rw [b_big (by omega)]
          exact ⟨fun z => absurd z.2 (by decide), fun z => by rcases z.2 with y | y <;> omega⟩
      · rw [if_neg (fun z => hs ((open_bt (6 * n) a (by omega) (by omega)).mp z).2), b_0]
        exact ⟨fun z => absurd z.2 (by decide), fun z => absurd z.1.2 hs⟩
    · exact ⟨fun z => absurd z.1 ha, fun z => absurd z.1.1 ha⟩
  rw [e]
theorem comp_iff : ∀ m j, m ≤ 32 → j < 32 → (bt (g_compU E i m) j = true ↔ j < m ∧ bt (E 25 i) j = true ∧ bt (E 25 j) i = true) := by
  intro m
  induction m with
  | zero => intro j _ _; rw [g_compU, b_0]; exact ⟨fun z => absurd z (by decide), fun z => absurd z.1 (Nat.not_lt_zero _)⟩
  | succ m ih =>
    intro j hm hj
    rw [g_compU]
    by_cases h : bt (E 25 i) m = true ∧ bt (E 25 m) i = true
    · rw [if_pos h, b_or, bt_s (by omega) hj, Bool.or_eq_true, ih j (by omega) hj, decide_eq_true_iff]
      constructor
      · rintro (z | z)
        · exact ⟨by omega, z.2⟩
        · rw [z]; exact ⟨by omega, h⟩
      · intro z
        by_cases hx : j = m
        · exact Or.inr hx
        · exact Or.inl ⟨by omega, z.2⟩
    · rw [if_neg h, ih j (by omega) hj]
      constructor
      · exact fun z => ⟨by omega, z.2⟩
      · intro z
        by_cases hx : j = m
        · rw [hx] at z; exact absurd z.2 h
        · exact ⟨by omega, z.2⟩
theorem old_iff {s : Int32} : ∀ m j, m ≤ 32 → j < 32 → (bt (g_oldU E r s m) j = true ↔ bt s j = true ∨ (j < m ∧ E 4 (30 * r + j) = 4)) := by
  intro m
  induction m with
  | zero => intro j _ _; rw [g_oldU]; exact ⟨Or.inl, fun z => z.elim id (fun y => absurd y.1 (Nat.not_lt_zero _))⟩
  | succ m ih =>
    intro j hm hj
    rw [g_oldU]
    by_cases h : E 4 (30 * r + m) = 4
    · rw [if_pos h, b_or, bt_s (by omega) hj, Bool.or_eq_true, ih j (by omega) hj, decide_eq_true_iff]
      constructor
      · rintro ((z | z) | z)
        · exact Or.inl z
        · exact Or.inr ⟨by omega, z.2⟩
        · rw [z]; exact Or.inr ⟨by omega, h⟩
      · rintro (z | z)
        · exact Or.inl (Or.inl z)
        · by_cases hx : j = m
          · exact Or.inr hx
          · exact Or.inl (Or.inr ⟨by omega, z.2⟩)
    · rw [if_neg h, ih j (by omega) hj]
      constructor
      · exact fun z => z.elim Or.inl (fun y => Or.inr ⟨by omega, y.2⟩)
      · rintro (z | z)
        · exact Or.inl z
        · by_cases hx : j = m
          · rw [hx] at z; exact absurd z.2 h
          · exact Or.inr ⟨by omega, z.2⟩
theorem rdy_iff {s o : Int32} : ∀ t j, g_rdyU E r s o t j = true ↔ ¬ s = 0 ∧ ∀ x, j ≤ x → x < j + t → bt s x = true → E 8 (30 * r + x) &&& (o ^^^ -1) = 0 := by
  intro t
  induction t with
  | zero => intro j; rw [g_rdyU, decide_eq_true_iff]; exact ⟨fun z => ⟨z, fun x h1 h2 => by omega⟩, fun z => z.1⟩
  | succ t ih =>
    intro j
    rw [g_rdyU]
    by_cases h : bt s j = true ∧ ¬ E 8 (30 * r + j) &&& (o ^^^ -1) = 0
    · rw [if_pos h]
      exact ⟨fun z => absurd z (by decide), fun z => absurd (z.2 j (Nat.le_refl _) (by omega) h.1) h.2⟩
    · rw [if_neg h, ih (j + 1)]
      refine ⟨fun z => ⟨z.1, fun x h1 h2 h3 => ?_⟩, fun z => ⟨z.1, fun x h1 h2 h3 => z.2 x (by omega) (by omega) h3⟩⟩
      by_cases hx : x = j
      · subst hx
        exact Classical.byContradiction fun y => h ⟨h3, y⟩
      · exact z.2 x (by omega) (by omega) h3
theorem sel_none {k : Nat} {a : Int32} : (∀ i, i < k → g_ready E n r (g_compU E i (6 * n)) = false) → g_selU E n r k a = a := by
  induction k generalizing a with
  | zero => intro _; rfl
  | succ k ih =>
    intro h
    rw [g_selU, if_neg (by rw [h k (by omega)]; decide)]
    exact ih (fun i hi => h i (by omega))
theorem sel_some {k i : Nat} {a : Int32} (hi : i < k) (h1 : g_ready E n r (g_compU E i (6 * n)) = true) (h2 : ∀ j, j < i → g_ready E n r (g_compU E j (6 * n)) = false) : g_selU E n r k a = g_compU E i (6 * n) := by
  induction k generalizing a with
  | zero => omega
  | succ k ih =>
    rw [g_selU]
    by_cases hx : i = k
    · subst hx
      rw [if_pos h1]
      exact sel_none h2
    · exact ih (by omega)
end EXEC5
