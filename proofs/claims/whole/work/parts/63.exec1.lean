section EXEC1
variable {c : Nat} {M N : me_M} {b n r i : Nat} {D E : me_D}
theorem c_Sto_contains {x : Int32} {j : Nat} (hj : j < 32) : EX eL X_Sto_contains 0 [some (.inl x), some (.inl (nI j))] [] M (fun y N => y = some (.inl (b01 (bt x j))) ∧ N = M) := by
  refine sg_Sto_contains_0 ?_
  rw [bt_0 hj]
  cases h : bt x j
  · exact ⟨fun _ => ⟨rfl, rfl⟩, fun z => absurd rfl z⟩
  · exact ⟨(fun z => by cases z), fun _ => ⟨rfl, rfl⟩⟩
/-- rows of sets, closed step by step -/
def cWI (R : Nat → Int32) (k : Nat) : Nat → Nat → Int32
  | 0 => R
  | t + 1 => fun x => if x = t ∧ bt (cWI R k t t) k = true then cWI R k t t ||| cWI R k t k else cWI R k t x
theorem cWI_s (R : Nat → Int32) (k t x : Nat) : cWI R k (t + 1) x = if x = t ∧ bt (cWI R k t t) k = true then cWI R k t t ||| cWI R k t k else cWI R k t x := rfl
def cWU (R : Nat → Int32) (m : Nat) : Nat → Nat → Int32
  | 0 => R
  | k + 1 => cWI (cWU R m k) k m
theorem cWI_row (R : Nat → Int32) (k : Nat) : ∀ t, cWI R k t k = R k ∧ ∀ x, t ≤ x → cWI R k t x = R x := by
  intro t
  induction t with
  | zero => exact ⟨rfl, fun _ _ => rfl⟩
  | succ t ih =>
    obtain ⟨i1, i2⟩ := ih
    constructor
    · rw [cWI_s]
      by_cases h : k = t ∧ bt (cWI R k t t) k = true
      · obtain ⟨h1, h2⟩ := h
        subst h1
        rw [if_pos ⟨rfl, h2⟩, i1]; exact Int32.or_self
      · rw [if_neg h, i1]
    · intro x hx
      rw [cWI_s, if_neg (fun z => by omega), i2 x (by omega)]
theorem cWI_bt (R : Nat → Int32) (k : Nat) {j : Nat} : ∀ t x, x < t → (bt (cWI R k t x) j = true ↔ (bt (R x) j = true ∨ (bt (R x) k = true ∧ bt (R k) j = true))) := by
  intro t
  induction t with
  | zero => intro x hx; omega
  | succ t ih =>
    intro x hx
    rw [cWI_s]
    by_cases hxt : x = t
    · subst hxt
      rw [(cWI_row R k x).2 x (Nat.le_refl _), (cWI_row R k x).1]
      by_cases hb : bt (R x) k = true
      · rw [if_pos ⟨rfl, hb⟩, b_or, Bool.or_eq_true]
        exact ⟨fun z => z.elim Or.inl (fun y => Or.inr ⟨hb, y⟩), fun z => z.elim Or.inl (fun y => Or.inr y.2)⟩
      · rw [if_neg (fun z => hb z.2)]
        exact ⟨Or.inl, fun z => z.elim id (fun y => absurd y.1 hb)⟩
    · rw [if_neg (fun z => hxt z.1)]
      exact ih x (by omega)
/-- the closed rows are Warshall's -/
theorem cWU_bt (R : Nat → Int32) (m : Nat) : ∀ k, k ≤ m → ∀ x j, x < m → (bt (cWU R m k x) j = true ↔ wr (fun a e => a < m ∧ bt (R a) e = true) k x j) := by
  intro k
  induction k with
  | zero => intro _ x j hx; exact ⟨fun z => ⟨hx, z⟩, fun z => z.2⟩
  | succ k ih =>
    intro hk x j hx
    rw [cWU, cWI_bt _ _ _ _ hx, ih (by omega) x j hx, ih (by omega) x k hx, ih (by omega) k j (by omega)]
    exact Iff.rfl
theorem cWU_tg (R : Nat → Int32) (m : Nat) {x j : Nat} (hx : x < m) : bt (cWU R m m x) j = true ↔ Relation.TransGen (fun a e => a < m ∧ bt (R a) e = true) x j := by
  rw [cWU_bt R m m (Nat.le_refl _) x j hx]
  exact wr_all (fun a e h => h.1) x j
/-- the reference's rows are the same closing -/
theorem warI_eq (k : Nat) : ∀ t, g_warI D k t 25 = cWI (D 25) k t := by
  intro t
  induction t with
  | zero => rfl
  | succ t ih =>
    funext x
    rw [g_warI, cWI_s, ← ih]
    by_cases hb : bt (g_warI D k t 25 t) k = true
    · rw [if_pos hb, dU_at]
      by_cases hx : x = t
      · rw [if_pos ⟨rfl, hx⟩, if_pos ⟨hx, hb⟩]
      · rw [if_neg (fun z => hx z.2), if_neg (fun z => hx z.1)]
    · rw [if_neg hb, if_neg (fun z => hb z.2)]
theorem warU_eq (n : Nat) : ∀ k, g_warU D n k 25 = cWU (D 25) (6 * n) k := by
  intro k
  induction k with
  | zero => rfl
  | succ k ih => rw [g_warU, cWU, warI_eq, ih]
def cR0 (D : me_D) (r x : Nat) : Int32 := if D 4 (30 * r + x) = 3 then D 8 (30 * r + x) else 0
def pRc (b n r k q : Nat) : Prop := k = 100 ∧ q = aR b n r + 5 + 6 * n
theorem pRc_mut : mutP (pRc b n r) := fun k q z => by rw [z.1]; rfl
/-- the reach rows alone changed -/
theorem cW.rch (C : cW M b n D) (hr : r < n) (h : fr (pRc b n r) c M N) (w : wf N) : cW N b n D := by
  have S := C.sk
  have hP := pRc_mut (b := b) (n := n) (r := r)
  have no : ∀ k q, ¬ k = 100 → ¬ pRc b n r k q := fun k q z y => z y.1
  refine ⟨C.1, w, S.fr h C.w hP, fun r' i' hr' hi' => ?_, fun r' i' hr' hi' => ?_, attD.keep C h (fun _ => no _ _ (by decide)), attR.keep C h hP (fun _ => no _ _ (by decide)), ?_, fun r' hr' => ?_, fun r' hr' => ?_, ?_⟩
  · exact EntOK.keep h hP C.w (s_kEnt S hr' hi') (fun k h1 h2 => no _ _ (by omega)) (fun _ _ _ => rfl) (C.ent hr' hi')
  · have l := C.w.lt (q := aR b n r' + 2 + 6 * n) (by rw [s_kAtts S hr']; decide)
    rw [h.r l (no _ _ (by decide))]
    exact AttOK.keep h hP C.w (fun _ _ k h1 h2 => no _ _ (by omega)) (fun _ _ _ _ => no _ _ (by decide)) (fun _ _ _ => rfl) (fun _ _ _ _ _ => rfl) (C.att hr' hi')
  · obtain ⟨e1, e2, e3⟩ := C.net
    have m1 := C.w.lt (q := b + 1) (by rw [s_kNet S]; decide)
    have m2 := C.w.lt (q := b + 2) (by rw [s_kLine S]; decide)
    refine ⟨by rw [h.i m1 (no _ _ (by decide))]; exact e1, by rw [h.i m1 (no _ _ (by decide))]; exact e2, fun k hk => ?_⟩
    obtain ⟨q, a1, a2⟩ := e3 k hk
    exact ⟨q, (h.r m2 (no _ _ (by decide))).trans a1, MsgOK.fr h hP.imm C.w a2⟩
  · refine StoOK.keep h hP C.w S hr' (fun z => ?_) (no _ _ (by decide)) (no _ _ (by decide)) (fun _ _ => rfl) rfl (fun _ _ => Iff.rfl) (C.sto hr')
    have := aR_inj (b := b) (r := r') (r' := r) (x := 4 + 6 * n) (y := 5 + 6 * n) C.1 (by omega) (by omega) (by have := z.2; omega)
    omega
  · rw [h.i (C.w.lt (by rw [s_kRp S hr']; decide)) (no _ _ (by decide))]; exact C.cr hr'
  · rw [h.i (C.w.lt (by rw [s_kLM S]; decide)) (no _ _ (by decide))]; exact C.many
theorem c_Sto_findReach (C : cW M b n D) (hr : r < n) : EX eL X_Sto_findReach 0 [some (.inr (some (aR b n r + 3 + 6 * n))), some (.inr (some (aR b n r + 1))), none, none] [] M (fun x N => x = none ∧ cW N b n D ∧ fr (pRc b n r) 0 M N ∧ ∀ x, x < 6 * n → mI N 100 (aR b n r + 5 + 6 * n) x = cWU (cR0 D r) (6 * n) (6 * n) x) := by
  have n5 := C.n5
  have lr := C.w.lt (q := aR b n r + 5 + 6 * n) (by rw [s_kRch C.sk hr]; decide)
  have wr1 : ∀ L x v, cW L b n D → fr (pRc b n r) 0 M L → cW (mSetI L 100 (aR b n r + 5 + 6 * n) x v) b n D ∧ fr (pRc b n r) 0 M (mSetI L 100 (aR b n r + 5 + 6 * n) x v) := by
    intro L x v CL hf
    have h1 : fr (pRc b n r) 0 L (mSetI L 100 (aR b n r + 5 + 6 * n) x v) := (fr.refl _ L).setI (fun _ => ⟨rfl, rfl⟩)
    exact ⟨CL.rch hr h1 (CL.w.setI (CL.w.lt (by rw [s_kRch CL.sk hr]; decide))), hf.setI (fun _ => ⟨rfl, rfl⟩)⟩
  refine sg_Sto_findReach_0 ?_
  have loop2 : ∀ t k L, t + k = 6 * n → cW L b n D → fr (pRc b n r) 0 M L → (∀ x, x < 6 * n → mI L 100 (aR b n r + 5 + 6 * n) x = cWU (cR0 D r) (6 * n) k x) → EX eL X_Sto_findReach 45 [some (.inr (some (aR b n r + 3 + 6 * n))), some (.inr (some (aR b n r + 1))), some (.inl (nI k)), none] [] L (fun x N => x = none ∧ cW N b n D ∧ fr (pRc b n r) 0 M N ∧ ∀ x, x < 6 * n → mI N 100 (aR b n r + 5 + 6 * n) x = cWU (cR0 D r) (6 * n) (6 * n) x) := by
    intro t
    induction t with
    | zero =>
      intro k L hk CL hf hR
      have hk : k = 6 * n := by omega
      subst hk
      refine sg_Sto_findReach_45 ⟨_, rfl, s_kEnts CL.sk hr, fun _ => ⟨rfl, CL, hf, hR⟩, fun h => ?_⟩
      rw [s_lEnts CL.sk hr] at h
      exact absurd (Int32.le_refl _) h
    | succ t ih =>
      intro k L hk CL hf hR
      have inner : ∀ t2 i L, t2 + i = 6 * n → cW L b n D → fr (pRc b n r) 0 M L → (∀ x, x < 6 * n → mI L 100 (aR b n r + 5 + 6 * n) x = cWI (cWU (cR0 D r) (6 * n) k) k i x) → EX eL X_Sto_findReach 53 [some (.inr (some (aR b n r + 3 + 6 * n))), some (.inr (some (aR b n r + 1))), some (.inl (nI k)), some (.inl (nI i))] [] L (fun x N => x = none ∧ cW N b n D ∧ fr (pRc b n r) 0 M N ∧ ∀ x, x < 6 * n → mI N 100 (aR b n r + 5 + 6 * n) x = cWU (cR0 D r) (6 * n) (6 * n) x) := by
        intro t2
        induction t2 with
        | zero =>
          intro i L hi CL hf hR
          have hi : i = 6 * n := by omega
          subst hi
          refine sg_Sto_findReach_53 ⟨_, rfl, s_kEnts CL.sk hr, fun _ x hx => ?_, fun h => ?_⟩
          · subst hx
            rw [nI_i1]
            exact ih (k + 1) L (by omega) CL hf hR
          · rw [s_lEnts CL.sk hr] at h
            exact absurd (Int32.le_refl _) h
        | succ t2 ih2 =>
          intro i L hi CL hf hR
          have S := CL.sk
          have v1 : ∀ x, x < 6 * n → vp_in (nI x) (mLn L (aR b n r + 5 + 6 * n)) := fun x hx => by rw [s_lRch S hr]; exact vin hx (by omega)
          refine sg_Sto_findReach_53 ⟨_, rfl, s_kEnts S hr, fun h => ?_, fun _ => ⟨s_kSto S hr, _, s_rch S hr, s_kRch S hr, v1 i (by omega), ?_⟩⟩
          · rw [s_lEnts S hr, oN, nle (by omega) (by omega)] at h; omega
          · rw [cl (by omega), hR i (by omega)]
            refine EX.mono (c_Sto_contains (by omega)) fun y L2 hv => ?_
            obtain ⟨rfl, rfl⟩ := hv
            refine ⟨_, rfl, fun h x hx => ?_, fun h => ⟨s_kSto S hr, _, s_rch S hr, s_kRch S hr, v1 i (by omega), v1 k (by omega), v1 i (by omega), ?_⟩⟩
            · subst hx
              rw [nI_i1]
              refine ih2 (i + 1) _ (by omega) CL hf (fun x hx => ?_)
              rw [hR x hx, cWI_s, if_neg (fun z => by rw [b01_0 h] at z; exact absurd z.2 (by decide))]
            · rintro _ rfl _ rfl
              rw [nI_i1, cl (by omega), hR i (by omega), hR k (by omega)]
              obtain ⟨C2, f2⟩ := wr1 _ i (cWI (cWU (cR0 D r) (6 * n) k) k i i ||| cWI (cWU (cR0 D r) (6 * n) k) k i k) CL hf
              refine ih2 (i + 1) _ (by omega) C2 f2 (fun x hx => ?_)
              rw [mI_SetI, cWI_s]
              by_cases hxi : x = i
              · rw [if_pos ⟨rfl, rfl, hxi⟩, if_pos ⟨hxi, b01_1 h⟩]
              · rw [if_neg (fun z => hxi z.2.2), if_neg (fun z => hxi z.1), hR x hx]
      refine sg_Sto_findReach_45 ⟨_, rfl, s_kEnts CL.sk hr, fun h => ?_, fun _ => inner (6 * n) 0 L (by omega) CL hf hR⟩
      rw [s_lEnts CL.sk hr, oN, nle (by omega) (by omega)] at h; omega
  have loop1 : ∀ t i L, t + i = 6 * n → cW L b n D → fr (pRc b n r) 0 M L → (∀ x, x < i → mI L 100 (aR b n r + 5 + 6 * n) x = cR0 D r x) → EX eL X_Sto_findReach 2 [some (.inr (some (aR b n r + 3 + 6 * n))), some (.inr (some (aR b n r + 1))), some (.inl (nI i)), none] [] L (fun x N => x = none ∧ cW N b n D ∧ fr (pRc b n r) 0 M N ∧ ∀ x, x < 6 * n → mI N 100 (aR b n r + 5 + 6 * n) x = cWU (cR0 D r) (6 * n) (6 * n) x) := by
    intro t
    induction t with
    | zero =>
      intro i L hi CL hf hR
      have hi : i = 6 * n := by omega
      subst hi
      refine sg_Sto_findReach_2 ⟨_, rfl, s_kEnts CL.sk hr, fun _ => loop2 (6 * n) 0 L (by omega) CL hf hR, fun h => ?_⟩
      rw [s_lEnts CL.sk hr] at h
      exact absurd (Int32.le_refl _) h
    | succ t ih =>
      intro i L hi CL hf hR
      have S := CL.sk
      have hi6 : i < 6 * n := by omega
      have E0 := CL.ent hr hi6
      have v1 : vp_in (nI i) (mLn L (aR b n r + 5 + 6 * n)) := by rw [s_lRch S hr]; exact vin hi6 (by omega)
      have v2 : vp_in (nI i) (mLn L (aR b n r + 1)) := by rw [s_lEnts S hr]; exact vin hi6 (by omega)
      have stp : ∀ v, v = cR0 D r i → EX eL X_Sto_findReach 2 [some (.inr (some (aR b n r + 3 + 6 * n))), some (.inr (some (aR b n r + 1))), some (.inl (nI i + Int32.ofInt 1)), none] [] (mSetI L 100 (aR b n r + 5 + 6 * n) i v) (fun x N => x = none ∧ cW N b n D ∧ fr (pRc b n r) 0 M N ∧ ∀ x, x < 6 * n → mI N 100 (aR b n r + 5 + 6 * n) x = cWU (cR0 D r) (6 * n) (6 * n) x) := by
        rintro v rfl
        rw [nI_i1]
        obtain ⟨C2, f2⟩ := wr1 _ i (cR0 D r i) CL hf
        refine ih (i + 1) _ (by omega) C2 f2 (fun x hx => ?_)
        rw [mI_SetI]
        by_cases hxi : x = i
        · rw [if_pos ⟨rfl, rfl, hxi⟩, hxi]
        · rw [if_neg (fun z => hxi z.2.2)]; exact hR x (by omega)
      refine sg_Sto_findReach_2 ⟨_, rfl, s_kEnts S hr, fun h => ?_, fun _ => ⟨s_kSto S hr, v2, _, by rw [cl (by omega)]; exact s_ent S hr hi6, s_kEnt S hr hi6, ?_⟩⟩
      · rw [s_lEnts S hr, oN, nle (by omega) (by omega)] at h; omega
      · rw [E0.1]
        refine ⟨fun h => ⟨_, s_rch S hr, s_kRch S hr, v1, ?_⟩, fun h => ?_⟩
        · rintro _ rfl _ rfl
          rw [cl (by omega)]
          exact stp 0 (by unfold cR0; rw [if_neg h])
        · obtain ⟨o, o1, o2, -, o4, -⟩ := E0.2.2.2.2.2.2 (by rw [h]; decide)
          refine ⟨v2, o, o1, o2, _, s_rch S hr, s_kRch S hr, v1, ?_⟩
          rintro _ rfl _ rfl
          rw [cl (by omega), o4]
          exact stp _ (by unfold cR0; rw [if_pos h])
  exact loop1 (6 * n) 0 M (by omega) C (fr.refl _ M) (fun x hx => absurd hx (Nat.not_lt_zero _))
end EXEC1
