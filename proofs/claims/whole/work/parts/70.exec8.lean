section EXEC8
variable {M N : me_M} {b n r i : Nat} {A D E : me_D} {R : Nat → Int32}
/-- the reference's rows are its own affair -/
theorem cW.dr (C : cW M b n D) (hE : ∀ j x, ¬ j = 25 → E j x = D j x) : cW M b n E := by
  have h : fr (fun _ _ => False) 0 M M := fr.refl _ M
  have hP : mutP (fun _ _ => False) := fun _ _ z => z.elim
  refine ⟨C.1, C.w, C.sk, fun r' i' hr' hi' => EntOK.keep h hP C.w (s_kEnt C.sk hr' hi') (fun _ _ _ z => z) (fun j h1 h2 => hE j _ (by omega)) (C.ent hr' hi'), fun r' i' hr' hi' => AttOK.keep h hP C.w (fun _ _ _ _ _ z => z) (fun _ _ _ _ z => z) (fun j h1 h2 => hE j _ (by omega)) (fun j k h1 h2 _ => hE j _ (by omega)) (C.att hr' hi'), C.2.2.2.2.2.1, C.2.2.2.2.2.2.1, ?_, fun r' hr' => StoOK.keep h hP C.w C.sk hr' (fun z => z) (fun z => z) (fun z => z) (fun _ _ => hE _ _ (by decide)) (hE _ _ (by decide)) (fun _ _ => by rw [hE _ _ (by decide)]) (C.sto hr'), fun r' hr' => by rw [hE _ _ (by decide)]; exact C.cr hr', by rw [g_manyU_congr (D := D) (fun r _ => hE _ _ (by decide))]; exact C.many⟩
  obtain ⟨e1, e2, e3⟩ := C.net
  have hg : g_un E = g_un D := by unfold g_un; rw [hE _ _ (by decide)]
  refine ⟨by rw [hE _ _ (by decide)]; exact e1, by rw [hE _ _ (by decide)]; exact e2, fun k hk => ?_⟩
  rw [hg] at hk
  obtain ⟨q, a1, a2⟩ := e3 k hk
  exact ⟨q, a1, a2.congr (fun j _ => hE _ _ (by decide))⟩
theorem cW.reach (C : cW M b n D) : cW M b n (g_reach D n r) := C.dr (fun _ _ h => g_reach_ne h)
theorem runU_dp : ∀ T D s x, g_runU n r T D s 8 x = D 8 x := by
  intro T
  induction T with
  | zero => intro D s x; rfl
  | succ T ih =>
    intro D s x
    rw [g_runU]
    split
    · rfl
    · cases hq : g_nxtU D r s (6 * n) none with
      | none => rfl
      | some q =>
        show g_runU n r T (g_act D r q) _ 8 x = _
        rw [ih, g_act_ne (by decide) (by decide) (by decide) (by decide) (by decide)]
theorem runU_st (hn : n ≤ 5) : ∀ T D s, sOK n s → cU s (6 * n) ≤ T → ∀ j, j < 6 * n → g_runU n r T D s 4 (30 * r + j) = if bt s j = true then 4 else D 4 (30 * r + j) := by
  intro T
  induction T with
  | zero =>
    intro D s hs hc j hj
    rw [if_neg (fun hb => ?_)]
    · rfl
    · have := cU_rm hb (6 * n) (by omega)
      rw [if_pos hj] at this
      omega
  | succ T ih =>
    intro D s hs hc j hj
    rw [g_runU]
    split
    · next h => rw [h, b_0]; rfl
    · next h =>
      have hb := nxt_all (D := D) (r := r) (s := s) (6 * n)
      cases hq : g_nxtU D r s (6 * n) none with
      | none =>
        rw [hq] at hb
        exact absurd (bt_z.mpr fun j hj => by
          cases hx : bt s j with
          | false => rfl
          | true => rw [hb j (Nat.zero_le _) (hs j hj hx)] at hx; cases hx) h
      | some q =>
        rw [hq] at hb
        obtain ⟨-, q6, qb, -⟩ := hb
        have e1 := cU_rm qb (6 * n) (by omega)
        rw [if_pos q6] at e1
        show g_runU n r T (g_act D r q) (rmB s q) 4 (30 * r + j) = _
        rw [ih _ _ (fun x hx hb2 => hs x hx (by rw [rm_bt (by omega) hx, Bool.and_eq_true] at hb2; exact hb2.1)) (by omega) j hj, rm_bt (by omega) (by omega)]
        by_cases hjq : j = q
        · subst hjq
          rw [if_pos qb, g_act_st]
          simp
        · rw [g_act_o (fun z => hjq (by omega)) (fun z => absurd z.1 (by decide)) (fun z => absurd z.1 (by decide))]
          simp [hjq]
theorem yI_step (hn : n ≤ 5) (h : yI A D n r) (hp : yP A n r) (hi : i < 6 * n) (hd : cDone (yC A n r) (yE D r) (yD A r) i) : yI A (g_runU n r 30 (g_reach D n r) (g_compU (g_reach D n r) i (6 * n))) n r := by
  have hs : ∀ j, j < 6 * n → g_runU n r 30 (g_reach D n r) (g_compU (g_reach D n r) i (6 * n)) 4 (30 * r + j) = if bt (g_compU (g_reach D n r) i (6 * n)) j = true then 4 else D 4 (30 * r + j) := fun j hj => by
    rw [runU_st hn 30 _ _ (fun x hx hb => comp_bt (by omega) hx hb) (Nat.le_trans (cU_le _ _) (by omega)) j hj, g_reach_ne (by decide)]
  refine ⟨fun j hj => ?_, fun j hj => ?_, fun a ha hx l hl => ?_⟩
  · rw [runU_dp, g_reach_ne (by decide)]; exact h.1 j hj
  · rw [hs j hj]
    by_cases hb : bt (g_compU (g_reach D n r) i (6 * n)) j = true
    · rw [if_pos hb]; exact ⟨fun z => absurd z (by decide), fun z => absurd rfl z.2⟩
    · rw [if_neg hb]; exact h.2.1 j hj
  · have key := cClosed_step h.2.2 hd a ha ?_ l hl
    · have l6 : l < 6 * n := hp a ha.1 l (Nat.lt_of_not_le fun z => by
        unfold yD at hl
        rw [b_big z] at hl; cases hl) hl
      show _ = _
      rw [hs l l6]
      by_cases hb : bt (g_compU (g_reach D n r) i (6 * n)) l = true
      · rw [if_pos hb]
      · rw [if_neg hb]
        rcases key with z | z
        · exact z
        · exact absurd ((comp_c hn h hi (by omega)).mpr z) hb
    · unfold yE at hx
      have a6 := ha.1
      rw [hs a a6] at hx
      by_cases hb : bt (g_compU (g_reach D n r) i (6 * n)) a = true
      · exact Or.inr ((comp_c hn h hi (by omega)).mp hb)
      · rw [if_neg hb] at hx; exact Or.inl hx
/-- how many are COMMITTED -/
def kU (D : me_D) (r : Nat) : Nat → Nat
  | 0 => 0
  | j + 1 => kU D r j + if D 4 (30 * r + j) = 3 then 1 else 0
theorem kU_le : ∀ m, kU D r m ≤ m := by
  intro m
  induction m with
  | zero => exact Nat.le_refl _
  | succ m ih => rw [kU]; split <;> omega
theorem kU_mono : ∀ m, (∀ j, j < m → E 4 (30 * r + j) = 3 → D 4 (30 * r + j) = 3) → kU E r m ≤ kU D r m := by
  intro m
  induction m with
  | zero => intro _; exact Nat.le_refl _
  | succ m ih =>
    intro h
    have := ih (fun j hj => h j (by omega))
    rw [kU, kU]
    by_cases h1 : E 4 (30 * r + m) = 3
    · rw [if_pos h1, if_pos (h m (by omega) h1)]; omega
    · rw [if_neg h1]; omega
theorem kU_lt : ∀ m, (∀ j, j < m → E 4 (30 * r + j) = 3 → D 4 (30 * r + j) = 3) → i < m → D 4 (30 * r + i) = 3 → ¬ E 4 (30 * r + i) = 3 → kU E r m < kU D r m := by
  intro m
  induction m with
  | zero => intro _ h; omega
  | succ m ih =>
    intro h hi h1 h2
    rw [kU, kU]
    by_cases hx : i = m
    · subst hx
      have := kU_mono i (fun j hj => h j (by omega))
      rw [if_pos h1, if_neg h2]; omega
    · have := ih (fun j hj => h j (by omega)) (by omega) h1 h2
      by_cases h3 : E 4 (30 * r + m) = 3
      · rw [if_pos h3, if_pos (h m (by omega) h3)]; omega
      · rw [if_neg h3]; omega
def pXR (b n r k q : Nat) : Prop := pRc b n r k q ∨ pRun b n r k q
theorem pXR_mut : mutP (pXR b n r) := fun k q z => z.elim (pRc_mut k q) (pRun_mut k q)
theorem c_Sto_runReady (C : cW M b n D) (hr : r < n) (hp : yP D n r) : EX eL X_Sto_runReady 0 [some (.inr (some (aR b n r + 3 + 6 * n))), some (.inr (some (aR b n r + 1))), none, none, none] [] M (fun x N => x = some (.inl (g_exec D n r 3 r - D 3 r)) ∧ cW N b n (g_exec D n r) ∧ fr (pXR b n r) 0 M N) := by
  have n5 := C.n5
  have loop : ∀ t k G L T, t + k = 6 * n → cW L b n G → yI D G n r → (∀ x, x < 6 * n → mI L 100 (aR b n r + 5 + 6 * n) x = cWU (cR0 D r) (6 * n) (6 * n) x) → kU G r (6 * n) ≤ t → kU G r (6 * n) < T → g_exec D n r = g_passU n r T G → fr (pXR b n r) 0 M L → EX eL X_Sto_runReady 12 [some (.inr (some (aR b n r + 3 + 6 * n))), some (.inr (some (aR b n r + 1))), some (.inl (D 3 r)), some (.inl (nI k)), none] [] L (fun x N => x = some (.inl (g_exec D n r 3 r - D 3 r)) ∧ cW N b n (g_exec D n r) ∧ fr (pXR b n r) 0 M N) := by
    intro t
    induction t with
    | zero =>
      intro k G L T hk CL hI hR h0 hT hg hf
      have S := CL.sk
      have hk : k = 6 * n := by omega
      subst hk
      obtain ⟨T', rfl⟩ : ∃ T', T = T' + 1 := ⟨T - 1, by omega⟩
      have hz : g_selU (g_reach G n r) n r (6 * n) 0 = 0 := sel_none fun i hi => Bool.eq_false_iff.mpr fun z => by
        have hT := (yT hI).mp ((ready_c n5 hI hp hi).mp z).1
        have : ∀ m, i < m → 0 < kU G r m := by
          intro m
          induction m with
          | zero => intro h; omega
          | succ m ih =>
            intro h
            rw [kU]
            by_cases hx : i = m
            · subst hx; rw [if_pos hT.2]; omega
            · have := ih (by omega); omega
        have := this _ hi
        omega
      have hg2 : g_exec D n r = g_reach G n r := by rw [hg, g_passU, hz]; rfl
      have CF := CL.reach (r := r)
      rw [← hg2] at CF
      refine sg_Sto_runReady_12 ⟨_, rfl, s_kEnts S hr, fun _ => ⟨s_kSto S hr, ?_, CF, hf⟩, fun h => ?_⟩
      · rw [(CF.sto hr).2.1]
      · rw [s_lEnts S hr] at h
        exact absurd (Int32.le_refl _) h
    | succ t ih =>
      intro k G L T hk CL hI hR h0 hT hg hf
      have S := CL.sk
      obtain ⟨T', rfl⟩ : ∃ T', T = T' + 1 := ⟨T - 1, by omega⟩
      refine sg_Sto_runReady_12 ⟨_, rfl, s_kEnts S hr, fun h => ?_, fun _ => ⟨s_kSto S hr, ?_⟩⟩
      · rw [s_lEnts S hr, oN, nle (by omega) (by omega)] at h; omega
      · refine EX.mono (c_Sto_leastReadyComponent CL hr hI hp hR) fun y L2 hv => ?_
        obtain ⟨rfl, rfl, hv⟩ := hv
        refine ⟨_, rfl, fun hz => ⟨s_kSto S hr, ?_⟩, fun hz => ⟨s_kSto S hr, ?_⟩⟩
        · rcases hv with hv | ⟨i, i6, hv, hT2, hd⟩
          · exact absurd hv hz
          · rw [hv] at hz ⊢
            have hI2 := yI_step n5 hI hp i6 hd
            have hsk : sOK n (g_compU (g_reach G n r) i (6 * n)) := fun x hx hb => comp_bt (by omega) hx hb
            refine sg_Sto_runComponent_0 (EX.mono (c_Sto_runComponent hr (6 * n) 0 L2 (g_reach G n r) _ CL.reach (by omega) (cU_le _ _) hsk (fun j hj hb => ?_) 30 (Nat.le_trans (cU_le _ _) (by omega))) fun y L3 hw => ?_)
            · rw [g_reach_ne (by decide), ((yT hI).mp (cH_end ((comp_c n5 hI i6 (by omega)).mp hb).1)).2]; decide
            · obtain ⟨rfl, C3, f3⟩ := hw
              refine ⟨rfl, ?_⟩
              rintro _ rfl
              rw [nI_i1]
              have lt3 : kU (g_runU n r 30 (g_reach G n r) (g_compU (g_reach G n r) i (6 * n))) r (6 * n) < kU G r (6 * n) := by
                have hs : ∀ j, j < 6 * n → g_runU n r 30 (g_reach G n r) (g_compU (g_reach G n r) i (6 * n)) 4 (30 * r + j) = if bt (g_compU (g_reach G n r) i (6 * n)) j = true then 4 else G 4 (30 * r + j) := fun j hj => by
                  rw [runU_st n5 30 _ _ hsk (Nat.le_trans (cU_le _ _) (by omega)) j hj, g_reach_ne (by decide)]
                refine kU_lt (i := i) (6 * n) (fun j hj z => ?_) i6 ((yT hI).mp hT2).2 ?_
                · rw [hs j hj] at z
                  by_cases hb : bt (g_compU (g_reach G n r) i (6 * n)) j = true
                  · rw [if_pos hb] at z; exact absurd z (by decide)
                  · rw [if_neg hb] at z; exact z
                · rw [hs i i6, if_pos ((comp_c n5 hI i6 (by omega)).mpr (cComp_self hT2))]; decide
              refine ih (k + 1) _ L3 T' (by omega) C3 hI2 (fun x hx => ?_) (by omega) (by omega) ?_ (hf.trans (f3.mono (Nat.le_refl _) (fun k' q' _ z => Or.inr z)))
              · rw [f3.i (CL.w.lt (by rw [s_kRch S hr]; decide)) (fun z => ?_)]
                · exact hR x hx
                · obtain ⟨i', hi', z⟩ := z
                  rcases z with ⟨z, -⟩ | ⟨-, z⟩ | ⟨z | z, -⟩
                  · exact absurd z (by decide)
                  · omega
                  · exact absurd z (by decide)
                  · exact absurd z (by decide)
              · rw [hg, g_passU, hv]
                exact if_neg hz
        · have hg2 : g_exec D n r = g_reach G n r := by rw [hg, g_passU, hz]; rfl
          have CF := CL.reach (r := r)
          rw [← hg2] at CF
          refine ⟨?_, CF, hf⟩
          rw [(CF.sto hr).2.1]
  refine sg_Sto_runReady_0 ⟨s_kSto C.sk hr, fun x hx => EX.mono (c_Sto_findReach C hr) fun y L hv => ?_⟩
  obtain ⟨rfl, CL, f1, hR⟩ := hv
  refine ⟨rfl, ?_⟩
  rw [(C.sto hr).2.1] at hx
  subst hx
  exact loop (6 * n) 0 D L 31 (by omega) CL yI_0 hR (kU_le _) (Nat.lt_of_le_of_lt (kU_le _) (by omega)) rfl (f1.mono (Nat.le_refl _) (fun k' q' _ z => Or.inl z))
theorem c_LM_execute_ok (C : cW M b n D) (hr : r < n) (hcr : D 1 r = 0) (hp : yP D n r) : EX eL X_LM_execute 0 [some (.inr (some b)), some (.inl (nI r)), none] [] M (fun x N => x = some (.inl (g_exec D n r 3 r - D 3 r)) ∧ cW N b n (g_exec D n r) ∧ fr (pC (mdA b n)) 0 M N) := by
  have S := C.sk
  refine sg_LM_execute_0 ⟨s_kLM S, EX.mono (c_LM_workingReplica_ok C hr hcr) fun x N hv => ?_⟩
  obtain ⟨rfl, rfl⟩ := hv
  refine ⟨_, rfl, fun _ => ⟨_, rfl, s_kRp S hr, _, s_sto S hr, s_kSto S hr, ?_⟩, (fun h => by cases h)⟩
  rw [s_ents S hr]
  refine EX.mono (c_Sto_runReady C hr hp) fun x N hv => ?_
  obtain ⟨rfl, h1, h2⟩ := hv
  refine ⟨_, rfl, rfl, h1, h2.toC pXR_mut (fun q z => ?_) (Nat.le_refl _)⟩
  rcases z with ⟨-, z⟩ | ⟨i, hi, z⟩
  · rw [z, Nat.add_assoc]; exact aR_hi C.1 hr (by omega)
  · rcases z with ⟨z, -⟩ | ⟨-, z⟩ | ⟨z | z, -⟩
    · exact absurd z (by decide)
    · rw [z, Nat.add_assoc]; exact aR_hi C.1 hr (by omega)
    · exact absurd z (by decide)
    · exact absurd z (by decide)
theorem c_LM_execute_bad (C : cW M b n D) {v : Int32} (hb : ¬ ∃ r, r < n ∧ v = nI r ∧ D 1 r = 0) : EX eL X_LM_execute 0 [some (.inr (some b)), some (.inl v), none] [] M (fun x N => x = some (.inl (-1)) ∧ N = M) := by
  refine sg_LM_execute_0 ⟨s_kLM C.sk, EX.mono (c_LM_workingReplica_bad C hb) fun x N hv => ?_⟩
  obtain ⟨rfl, rfl⟩ := hv
  exact ⟨_, rfl, fun h => absurd rfl h, fun _ => ⟨rfl, rfl⟩⟩
end EXEC8
