section EXEC6
variable {M N : me_M} {b n r i : Nat} {A D E : me_D}
def yP (A : me_D) (n r : Nat) : Prop := ∀ i, i < 6 * n → ∀ j, j < 32 → bt (A 8 (30 * r + i)) j = true → j < 6 * n
theorem comp_c (hn : n ≤ 5) (h : yI A D n r) (hi : i < 6 * n) {j : Nat} (hj : j < 32) : bt (g_compU (g_reach D n r) i (6 * n)) j = true ↔ cComp (yC A n r) (yE D r) (yD A r) i j := by
  rw [comp_iff (6 * n) j (by omega) hj]
  constructor
  · rintro ⟨h1, h2, h3⟩
    exact ⟨(row_ref hn h hi).mp h2, (row_ref hn h h1).mp h3⟩
  · rintro ⟨h1, h2⟩
    have h3 := ((yT h).mp (cH_end h1)).1
    exact ⟨h3, (row_ref hn h hi).mpr h1, (row_ref hn h h3).mpr h2⟩
theorem ready_c (hn : n ≤ 5) (h : yI A D n r) (hp : yP A n r) (hi : i < 6 * n) : g_ready (g_reach D n r) n r (g_compU (g_reach D n r) i (6 * n)) = true ↔ cT (yC A n r) (yE D r) i ∧ cDone (yC A n r) (yE D r) (yD A r) i := by
  unfold g_ready
  rw [rdy_iff]
  constructor
  · rintro ⟨h1, h2⟩
    refine ⟨Classical.byContradiction fun z => h1 (bt_z.mpr fun j hj => ?_), fun j hj l hl => ?_⟩
    · cases hb : bt (g_compU (g_reach D n r) i (6 * n)) j with
      | false => rfl
      | true => exact absurd (cH_ct ((comp_c hn h hi hj).mp hb).1) z
    · have hj6 := ((yT h).mp (cH_end hj.1)).1
      have h3 := h2 j (Nat.zero_le _) (by omega) ((comp_c hn h hi (by omega)).mpr hj)
      rw [g_reach_ne (by decide), h.1 j hj6] at h3
      have l32 : l < 32 := Nat.lt_of_not_le fun z => by
        unfold yD at hl
        rw [b_big z] at hl; cases hl
      have h4 := b_0 l
      rw [← h3, b_and, bt_n l32, show bt (A 8 (30 * r + j)) l = true from hl, Bool.true_and] at h4
      have h5 : bt (g_oldU (g_reach D n r) r (g_compU (g_reach D n r) i (6 * n)) (6 * n)) l = true := by simpa using h4
      rw [old_iff (6 * n) l (by omega) l32, g_reach_ne (by decide), comp_c hn h hi l32] at h5
      exact h5.elim Or.inl (fun y => Or.inr y.2)
  · rintro ⟨hT, hD⟩
    refine ⟨fun z => ?_, fun x _ h2 h3 => bt_z.mpr fun l hl => ?_⟩
    · have := (comp_c hn h hi (j := i) (by omega)).mpr (cComp_self hT)
      rw [z, b_0] at this; cases this
    · have hx6 : x < 6 * n := by omega
      rw [g_reach_ne (by decide), h.1 x hx6, b_and, bt_n hl]
      cases hb : bt (A 8 (30 * r + x)) l with
      | false => rfl
      | true =>
        have : bt (g_oldU (g_reach D n r) r (g_compU (g_reach D n r) i (6 * n)) (6 * n)) l = true := by
          rw [old_iff (6 * n) l (by omega) hl, g_reach_ne (by decide), comp_c hn h hi hl]
          exact (hD x ((comp_c hn h hi (by omega)).mp h3) l hb).elim Or.inl (fun y => Or.inr ⟨hp x hx6 l hl hb, y⟩)
        rw [this]; rfl
/-- what the class calls open, as a set -/
def clO (R : Nat → Int32) (e : Int32) (i : Nat) : Int32 := (R i ||| (1 <<< (nI i &&& 31))) &&& (e ^^^ -1)
def clR (R : Nat → Int32) (o : Int32) (i m : Nat) : Prop := ∀ j, j < m → bt o j = true → j = i ∨ bt (R j) i = true
theorem tg_lt (hp : yP A n r) {x j : Nat} (h : Relation.TransGen (cG (yC A n r) (yD A r)) x j) : j < 6 * n := by
  have go : ∀ x, cG (yC A n r) (yD A r) x j → j < 6 * n := fun x z => hp x z.1.1 j (Nat.lt_of_not_le fun y => by
    have := z.2
    unfold yD at this
    rw [b_big y] at this; cases this) z.2
  cases h with
  | single z => exact go _ z
  | tail _ z => exact go _ z
theorem clO_c (hn : n ≤ 5) (hp : yP A n r) (hi : i < 6 * n) {e : Int32} (he : ∀ j, j < 6 * n → (bt e j = true ↔ D 4 (30 * r + j) = 4)) {j : Nat} (hj : j < 32) : bt (clO (cWU (cR0 A r) (6 * n) (6 * n)) e i) j = true ↔ cOpen (yC A n r) (yE D r) (yD A r) i j := by
  unfold clO
  rw [b_and, b_or, bt_n hj, bt_s (by omega) hj, Bool.and_eq_true, Bool.or_eq_true, decide_eq_true_iff, row_cls hi]
  have lt : (Relation.TransGen (cG (yC A n r) (yD A r)) i j ∨ j = i) → j < 6 * n := fun z => z.elim (tg_lt hp) (fun y => by omega)
  constructor
  · rintro ⟨h1, h2⟩
    refine ⟨h1, fun z => ?_⟩
    rw [(he j (lt h1)).mpr z] at h2; cases h2
  · rintro ⟨h1, h2⟩
    refine ⟨h1, ?_⟩
    cases hb : bt e j with
    | false => rfl
    | true => exact absurd ((he j (lt h1)).mp hb) h2
theorem clR_c (hn : n ≤ 5) (hp : yP A n r) (hi : i < 6 * n) {e : Int32} (he : ∀ j, j < 6 * n → (bt e j = true ↔ D 4 (30 * r + j) = 4)) : clR (cWU (cR0 A r) (6 * n) (6 * n)) (clO (cWU (cR0 A r) (6 * n) (6 * n)) e i) i (6 * n) ↔ cReady (yC A n r) (yE D r) (yD A r) i := by
  constructor
  · intro h j hj
    have j6 : j < 6 * n := hj.1.elim (tg_lt hp) (fun y => by omega)
    exact (h j j6 ((clO_c hn hp hi he (by omega)).mpr hj)).elim Or.inl (fun y => Or.inr ((row_cls j6).mp y))
  · intro h j hj hb
    exact (h j ((clO_c hn hp hi he (by omega)).mp hb)).elim Or.inl (fun y => Or.inr ((row_cls hj).mpr y))
/-- the class's set of a ready one is the reference's -/
theorem clO_eq (hn : n ≤ 5) (h : yI A D n r) (hp : yP A n r) (hi : i < 6 * n) {e : Int32} (he : ∀ j, j < 6 * n → (bt e j = true ↔ D 4 (30 * r + j) = 4)) (hT : cT (yC A n r) (yE D r) i) (hr : cReady (yC A n r) (yE D r) (yD A r) i) : clO (cWU (cR0 A r) (6 * n) (6 * n)) e i = g_compU (g_reach D n r) i (6 * n) := by
  refine b_ext fun j hj => ?_
  rw [Bool.eq_iff_iff, clO_c hn hp hi he hj, comp_c hn h hi hj]
  exact cOpen_iff h.2.2 hT hr j
end EXEC6
