section EXEC7
variable {M N : me_M} {b n r i : Nat} {A D E : me_D} {R : Nat → Int32}
theorem c_Sto_readyComponent (C : cW M b n D) (hr : r < n) (hi : i < 6 * n) (hR : ∀ x, x < 6 * n → mI M 100 (aR b n r + 5 + 6 * n) x = R x) : EX eL X_Sto_readyComponent 0 [some (.inr (some (aR b n r + 3 + 6 * n))), some (.inl (nI i)), none, none, none] [] M (fun x N => N = M ∧ ∃ o, x = some (.inl o) ∧ ((o = clO R (mI M 1258 (aR b n r + 3 + 6 * n) 0) i ∧ clR R o i (6 * n)) ∨ (o = 0 ∧ ¬ clR R (clO R (mI M 1258 (aR b n r + 3 + 6 * n) 0) i) i (6 * n)))) := by
  have n5 := C.n5
  have S := C.sk
  have v : ∀ x, x < 6 * n → vp_in (nI x) (mLn M (aR b n r + 5 + 6 * n)) := fun x hx => by rw [s_lRch S hr]; exact vin hx (by omega)
  have loop : ∀ t j o, o = clO R (mI M 1258 (aR b n r + 3 + 6 * n) 0) i → t + j = 6 * n → clR R o i j → EX eL X_Sto_readyComponent 20 [some (.inr (some (aR b n r + 3 + 6 * n))), some (.inl (nI i)), some (.inl o), some (.inl (nI j)), none] [] M (fun x N => N = M ∧ ∃ o, x = some (.inl o) ∧ ((o = clO R (mI M 1258 (aR b n r + 3 + 6 * n) 0) i ∧ clR R o i (6 * n)) ∨ (o = 0 ∧ ¬ clR R (clO R (mI M 1258 (aR b n r + 3 + 6 * n) 0) i) i (6 * n)))) := by
    intro t
    induction t with
    | zero =>
      intro j o ho hj hc
      have hj : j = 6 * n := by omega
      subst hj
      refine sg_Sto_readyComponent_20 ⟨s_kSto S hr, _, s_rch S hr, s_kRch S hr, fun _ => ⟨rfl, o, rfl, Or.inl ⟨ho, hc⟩⟩, fun h => ?_⟩
      rw [s_lRch S hr] at h
      exact absurd (Int32.le_refl _) h
    | succ t ih =>
      intro j o ho hj hc
      have j6 : j < 6 * n := by omega
      have go : (bt o j = true → j = i ∨ bt (R j) i = true) → EX eL X_Sto_readyComponent 20 [some (.inr (some (aR b n r + 3 + 6 * n))), some (.inl (nI i)), some (.inl o), some (.inl (nI j + Int32.ofInt 1)), none] [] M (fun x N => N = M ∧ ∃ o, x = some (.inl o) ∧ ((o = clO R (mI M 1258 (aR b n r + 3 + 6 * n) 0) i ∧ clR R o i (6 * n)) ∨ (o = 0 ∧ ¬ clR R (clO R (mI M 1258 (aR b n r + 3 + 6 * n) 0) i) i (6 * n)))) := by
        intro h
        rw [nI_i1]
        refine ih (j + 1) o ho (by omega) (fun x hx hb => ?_)
        by_cases hxj : x = j
        · subst hxj; exact h hb
        · exact hc x (by omega) hb
      refine sg_Sto_readyComponent_20 ⟨s_kSto S hr, _, s_rch S hr, s_kRch S hr, fun h => ?_, fun _ => ⟨fun hz => ?_, fun hz => ⟨v j j6, ?_⟩⟩⟩
      · rw [s_lRch S hr, oN, nle (by omega) (by omega)] at h; omega
      · rw [neq (by omega) (by omega)] at hz
        refine EX.mono (c_Sto_contains (by omega)) fun y L hv => ?_
        obtain ⟨rfl, rfl⟩ := hv
        refine ⟨_, rfl, fun _ x hx => ?_, fun _ x hx => ?_⟩
        · subst hx; exact go (fun _ => Or.inl hz)
        · subst hx; exact go (fun _ => Or.inl hz)
      · rw [neq (by omega) (by omega)] at hz
        rw [cl (by omega), hR j j6]
        refine EX.mono (c_Sto_contains (by omega)) fun y L hv => ?_
        obtain ⟨rfl, rfl⟩ := hv
        refine ⟨_, rfl, fun h1 => ?_, fun h1 => ?_⟩
        · refine EX.mono (c_Sto_contains (by omega)) fun y L hv => ?_
          obtain ⟨rfl, rfl⟩ := hv
          refine ⟨_, rfl, fun h2 x hx => ?_, fun h2 => ?_⟩
          · subst hx
            exact go (fun z => by rw [b01_0 h2] at z; cases z)
          · refine ⟨rfl, 0, rfl, Or.inr ⟨rfl, fun z => ?_⟩⟩
            rw [← ho] at z
            rcases z j j6 (b01_1 h2) with y | y
            · exact hz y
            · rw [b01_0 h1] at y; cases y
        · refine EX.mono (c_Sto_contains (by omega)) fun y L hv => ?_
          obtain ⟨rfl, rfl⟩ := hv
          refine ⟨_, rfl, fun _ x hx => ?_, fun _ x hx => ?_⟩
          · subst hx; exact go (fun _ => Or.inr (b01_1 h1))
          · subst hx; exact go (fun _ => Or.inr (b01_1 h1))
  refine sg_Sto_readyComponent_0 ⟨s_kSto S hr, _, s_rch S hr, s_kRch S hr, v i hi, fun o ho => ?_⟩
  rw [cl (by omega), hR i hi] at ho
  exact loop (6 * n) 0 o ho (by omega) (fun x hx => absurd hx (Nat.not_lt_zero _))
theorem c_Sto_leastReadyComponent (C : cW M b n D) (hr : r < n) (h : yI A D n r) (hp : yP A n r) (hR : ∀ x, x < 6 * n → mI M 100 (aR b n r + 5 + 6 * n) x = cWU (cR0 A r) (6 * n) (6 * n) x) : EX eL X_Sto_leastReadyComponent 0 [some (.inr (some (aR b n r + 3 + 6 * n))), some (.inr (some (aR b n r + 1))), none, none] [] M (fun x N => x = some (.inl (g_selU (g_reach D n r) n r (6 * n) 0)) ∧ N = M ∧ (g_selU (g_reach D n r) n r (6 * n) 0 = 0 ∨ ∃ i, i < 6 * n ∧ g_selU (g_reach D n r) n r (6 * n) 0 = g_compU (g_reach D n r) i (6 * n) ∧ cT (yC A n r) (yE D r) i ∧ cDone (yC A n r) (yE D r) (yD A r) i)) := by
  have n5 := C.n5
  have S := C.sk
  have he := (C.sto hr).2.2
  refine sg_Sto_leastReadyComponent_0 ?_
  have loop : ∀ t i, t + i = 6 * n → (∀ j, j < i → g_ready (g_reach D n r) n r (g_compU (g_reach D n r) j (6 * n)) = false) → EX eL X_Sto_leastReadyComponent 2 [some (.inr (some (aR b n r + 3 + 6 * n))), some (.inr (some (aR b n r + 1))), some (.inl (nI i)), none] [] M (fun x N => x = some (.inl (g_selU (g_reach D n r) n r (6 * n) 0)) ∧ N = M ∧ (g_selU (g_reach D n r) n r (6 * n) 0 = 0 ∨ ∃ i, i < 6 * n ∧ g_selU (g_reach D n r) n r (6 * n) 0 = g_compU (g_reach D n r) i (6 * n) ∧ cT (yC A n r) (yE D r) i ∧ cDone (yC A n r) (yE D r) (yD A r) i)) := by
    intro t
    induction t with
    | zero =>
      intro i hi hc
      have hi : i = 6 * n := by omega
      subst hi
      refine sg_Sto_leastReadyComponent_2 ⟨_, rfl, s_kEnts S hr, fun _ => ?_, fun h => ?_⟩
      · rw [sel_none hc]; exact ⟨rfl, rfl, Or.inl rfl⟩
      · rw [s_lEnts S hr] at h
        exact absurd (Int32.le_refl _) h
    | succ t ih =>
      intro i hi hc
      have i6 : i < 6 * n := by omega
      have go : ¬ (cT (yC A n r) (yE D r) i ∧ cDone (yC A n r) (yE D r) (yD A r) i) → ∀ j, j < i + 1 → g_ready (g_reach D n r) n r (g_compU (g_reach D n r) j (6 * n)) = false := by
        intro z j hj
        by_cases hx : j = i
        · subst hx
          exact Bool.eq_false_iff.mpr (fun y => z ((ready_c n5 h hp i6).mp y))
        · exact hc j (by omega)
      refine sg_Sto_leastReadyComponent_2 ⟨_, rfl, s_kEnts S hr, fun h => ?_, fun _ => ⟨(by rw [s_lEnts S hr]; exact vin i6 (by omega)), _, (by rw [cl (by omega)]; exact s_ent S hr i6), s_kEnt S hr i6, ?_⟩⟩
      · rw [s_lEnts S hr, oN, nle (by omega) (by omega)] at h; omega
      · rw [(C.ent hr i6).1]
        refine ⟨fun hs x hx => ?_, fun hs => ⟨s_kSto S hr, ?_⟩⟩
        · subst hx
          rw [nI_i1]
          exact ih (i + 1) (by omega) (go fun z => hs ((yT h).mp z.1).2)
        · have hT : cT (yC A n r) (yE D r) i := (yT h).mpr ⟨i6, hs⟩
          refine EX.mono (c_Sto_readyComponent C hr i6 hR) fun y L hv => ?_
          obtain ⟨rfl, o, rfl, hv⟩ := hv
          rcases hv with ⟨ho, hc2⟩ | ⟨ho, hc2⟩
          · rw [ho, clR_c n5 hp i6 he] at hc2
            have hd := cReady_done h.2.2 hT hc2
            have hb := clO_eq n5 h hp i6 he hT hc2
            rw [← ho] at hb
            have hsel := sel_some (a := 0) i6 ((ready_c n5 h hp i6).mpr ⟨hT, hd⟩) hc
            refine ⟨o, rfl, fun hz => ?_, fun _ => ?_⟩
            · have := (comp_c n5 h i6 (j := i) (by omega)).mpr (cComp_self hT)
              rw [← hb, hz, b_0] at this; cases this
            · rw [hsel, hb]; exact ⟨rfl, rfl, Or.inr ⟨i, i6, rfl, hT, hd⟩⟩
          · refine ⟨o, rfl, fun _ x hx => ?_, fun hz => absurd ho hz⟩
            subst hx
            rw [nI_i1]
            refine ih (i + 1) (by omega) (go fun z => hc2 ?_)
            rw [clR_c n5 hp i6 he]
            exact cDone_ready h.2.2 hT z.2
  exact loop (6 * n) 0 (by omega) (fun j hj => absurd hj (Nat.not_lt_zero _))
end EXEC7
