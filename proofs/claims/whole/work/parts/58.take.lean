section TAKE
variable {c : Nat} {M N : me_M} {b n r i : Nat} {D E : me_D}
theorem cpU_at {k : Nat} (hk : k < 40) : ∀ (cc : Nat), cc ≤ 11 → ∀ x, g_cpU D k cc 24 x = if 440 ≤ x ∧ x < 440 + cc then D 24 (11 * k + (x - 440)) else D 24 x := by
  intro cc
  induction cc with
  | zero => intro _ x; rw [if_neg (by omega)]; rfl
  | succ cc ih =>
    intro hc x
    rw [g_cpU, dU_at, ih (by omega), ih (by omega)]
    by_cases h1 : x = 440 + cc
    · subst h1
      rw [if_pos ⟨rfl, rfl⟩, if_neg (by omega), if_pos (by omega), show 440 + cc - 440 = cc by omega]
    · rw [if_neg (fun z => h1 z.2)]
      by_cases h2 : 440 ≤ x ∧ x < 440 + cc
      · rw [if_pos h2, if_pos (by omega)]
      · rw [if_neg h2, if_neg (by omega)]
theorem shU_at {k : Nat} : ∀ (cc : Nat) x, g_shU E k cc 24 x = if 11 * k ≤ x ∧ x < 11 * k + cc then E 24 (x + 11) else E 24 x := by
  intro cc
  induction cc with
  | zero => intro x; rw [if_neg (by omega)]; rfl
  | succ cc ih =>
    intro x
    rw [g_shU, dU_at, ih, ih]
    by_cases h1 : x = 11 * k + cc
    · subst h1
      rw [if_pos ⟨rfl, rfl⟩, if_neg (by omega), if_pos (by omega)]
    · rw [if_neg (fun z => h1 z.2)]
      by_cases h2 : 11 * k ≤ x ∧ x < 11 * k + cc
      · rw [if_pos h2, if_pos (by omega)]
      · rw [if_neg h2, if_neg (by omega)]
theorem take_got {u k j : Nat} (hu : D 1666 0 = nI u) (h40 : u ≤ 40) (hk : k < u) (hj : j < 11) : g_take D k 24 (440 + j) = D 24 (11 * k + j) := by
  unfold g_take
  rw [dU_ne _ (by decide), g_un_of hu h40, shU_at, if_neg (by omega), cpU_at (by omega) 11 (by omega), if_pos (by omega), show 440 + j - 440 = j by omega]
theorem take_old {u k t j : Nat} (hu : D 1666 0 = nI u) (h40 : u ≤ 40) (hk : k < u) (ht : t < u - 1) (hj : j < 11) : g_take D k 24 (11 * t + j) = D 24 (11 * (if t < k then t else t + 1) + j) := by
  unfold g_take
  rw [dU_ne _ (by decide), g_un_of hu h40, shU_at]
  by_cases h : t < k
  · rw [if_neg (by omega), cpU_at (by omega) 11 (by omega), if_neg (by omega), if_pos h]
  · rw [if_pos (by omega), cpU_at (by omega) 11 (by omega), if_neg (by omega), if_neg h]
    congr 1
    omega
theorem c_Net_take_ok (C : cW M b n D) {u k : Nat} (hu : D 1666 0 = nI u) (h40 : u ≤ 40) (hk : k < u) : EX eL X_Net_take 0 [some (.inr (some (b + 1))), some (.inl (nI k)), none, none] [] M (fun x N => ∃ q, x = some (.inr (some q)) ∧ MsgOK N q (fun j => g_take D k 24 (440 + j)) ∧ cW N b n (g_take D k) ∧ fr (pNet b) 0 M N) := by
  have S := C.sk
  obtain ⟨e1, e2, e3⟩ := C.net
  have hg := g_un_of hu h40
  obtain ⟨q, q1, q2⟩ := e3 k (by omega)
  have l1 := C.w.lt (q := b + 1) (by rw [s_kNet S]; decide)
  refine sg_Net_take_0 ⟨s_kNet S, EX.mono (c_Net_at_ok C hu h40 hk) fun x N hv => ?_⟩
  obtain ⟨rfl, rfl⟩ := hv
  rw [q1]
  refine ⟨_, rfl, fun _ => ⟨s_kNet S, ?_⟩, (fun h => by cases h)⟩
  rintro _ rfl
  rw [e1, hu, show nI u - 1 = nI (u - 1) from nI_sub (a := u) (b := 1) (by omega)]
  have loop : ∀ t j L, t + j = u - 1 → k ≤ j → fr (pNet b) 0 N L → wf L → mI L 1065 (b + 1) 0 = nI (u - 1) → mI L 1066 (b + 1) 0 = mI N 1066 (b + 1) 0 → (∀ s, mR L 102 (b + 2) s = if k ≤ s ∧ s < j then mR N 102 (b + 2) (s + 1) else mR N 102 (b + 2) s) → EX eL X_Net_take 24 [some (.inr (some (b + 1))), none, some (.inr (some q)), some (.inl (nI j))] [] L (fun x L => ∃ q, x = some (.inr (some q)) ∧ MsgOK L q (fun j => g_take D k 24 (440 + j)) ∧ cW L b n (g_take D k) ∧ fr (pNet b) 0 N L) := by
    intro t
    induction t with
    | zero =>
      intro j L hj hkj hf hw h1 h2 h3
      have hj : j = u - 1 := by omega
      subst hj
      have kn : mKd L (b + 1) = 2 := hf.kd C.w (s_kNet S) (by decide)
      have kl : mKd L (b + 2) = 102 := hf.kd C.w (s_kLine S) (by decide)
      have rl : mR L 1064 (b + 1) 0 = some (b + 2) := (hf.r l1 (pNet_mut.no (by decide))).trans (s_line S)
      have ll : mLn L (b + 2) = 40 := (hf.2.1 _ (C.w.lt (by rw [s_kLine S]; decide))).2.trans (s_lLine S)
      refine sg_Net_take_24 ⟨kn, fun _ => ⟨_, rl, kl, ?_, ?_⟩, fun h => ?_⟩
      · rw [h1, ll]; exact vin (by omega) (by decide)
      · rintro _ rfl
        rw [h1, cl (by omega)]
        have hf2 : fr (pNet b) 0 N (mSetR L 102 (b + 2) (u - 1) none) := hf.setR (fun _ => Or.inr (Or.inr ⟨rfl, rfl⟩))
        have hw2 : wf (mSetR L 102 (b + 2) (u - 1) none) := hw.setR (hw.lt (by rw [kl]; decide))
        have hgt : g_un (g_take D k) = u - 1 := g_un_of (uOK_take hu h40 hk) (by omega)
        refine ⟨q, rfl, (MsgOK.fr hf2 pNet_mut.imm C.w q2).congr (fun j hj => take_got hu h40 hk hj), C.netc hf2 hw2 (fun j x z1 z2 z3 => g_take_ne z1 z2) ⟨?_, ?_, fun s hs => ?_⟩, hf2⟩
        · rw [uOK_take hu h40 hk, mI_SetR]; exact h1
        · rw [g_take_ne (by decide) (by decide), mI_SetR, h2]; exact e2
        · rw [hgt] at hs
          obtain ⟨p, p1, p2⟩ := e3 (if s < k then s else s + 1) (by split <;> omega)
          refine ⟨p, ?_, (MsgOK.fr hf2 pNet_mut.imm C.w p2).congr (fun j hj => take_old hu h40 hk hs hj)⟩
          rw [mR_SetR, if_neg (by omega), h3]
          by_cases hsk : s < k
          · rw [if_neg (by omega)]; rw [if_pos hsk] at p1; exact p1
          · rw [if_pos (by omega)]; rw [if_neg hsk] at p1; exact p1
      · rw [h1] at h; exact absurd (Int32.le_refl _) h
    | succ t ih =>
      intro j L hj hkj hf hw h1 h2 h3
      have kn : mKd L (b + 1) = 2 := hf.kd C.w (s_kNet S) (by decide)
      have kl : mKd L (b + 2) = 102 := hf.kd C.w (s_kLine S) (by decide)
      have rl : mR L 1064 (b + 1) 0 = some (b + 2) := (hf.r l1 (pNet_mut.no (by decide))).trans (s_line S)
      have ll : mLn L (b + 2) = 40 := (hf.2.1 _ (C.w.lt (by rw [s_kLine S]; decide))).2.trans (s_lLine S)
      obtain ⟨p, p1, p2⟩ := e3 (j + 1) (by omega)
      refine sg_Net_take_24 ⟨kn, fun h => ?_, fun _ => ⟨_, rl, kl, ?_, ?_, p, ?_, hf.kd C.w p2.1 (by decide), ?_⟩⟩
      · rw [h1, nle (by omega) (by omega)] at h; omega
      · rw [ll, nI_1]; exact vin (by omega) (by decide)
      · rw [ll]; exact vin (by omega) (by decide)
      · rw [nI_1, cl (by omega), h3, if_neg (by omega)]; exact p1
      · rintro _ rfl _ rfl
        rw [nI_i1, cl (by omega)]
        refine ih (j + 1) _ (by omega) (by omega) (hf.setR (fun _ => Or.inr (Or.inr ⟨rfl, rfl⟩))) (hw.setR (hw.lt (by rw [kl]; decide))) (by rw [mI_SetR]; exact h1) (by rw [mI_SetR]; exact h2) (fun s => ?_)
        rw [mR_SetR, h3]
        by_cases hs : s = j
        · subst hs
          rw [if_pos ⟨rfl, rfl, rfl⟩, if_pos (by omega), p1]
        · rw [if_neg (fun z => hs z.2.2)]
          by_cases h4 : k ≤ s ∧ s < j
          · rw [if_pos h4, if_pos (by omega)]
          · rw [if_neg h4, if_neg (by omega)]
  refine loop (u - 1 - k) k _ (by omega) (Nat.le_refl _) ((fr.refl _ N).setI (fun _ => Or.inl ⟨rfl, rfl⟩)) (C.w.setI l1) (by rw [mI_SetI, if_pos ⟨rfl, rfl, rfl⟩]) (by rw [mI_SetI, if_neg (fun z => absurd z.1 (by decide))]) (fun s => ?_)
  rw [mR_SetI, if_neg (by omega)]
theorem c_Net_take_bad (C : cW M b n D) {v : Int32} (hv : v < 0 ∨ ¬ v < D 1666 0) : EX eL X_Net_take 0 [some (.inr (some (b + 1))), some (.inl v), none, none] [] M (fun x N => x = some (.inr none) ∧ N = M) := by
  refine sg_Net_take_0 ⟨s_kNet C.sk, EX.mono (c_Net_at_bad C hv) fun x N hv => ?_⟩
  obtain ⟨rfl, rfl⟩ := hv
  exact ⟨_, rfl, fun h => absurd rfl h, fun _ => ⟨rfl, rfl⟩⟩
theorem c_LM_lose_bad (C : cW M b n D) {v : Int32} (hv : v < 0 ∨ ¬ v < D 1666 0) : EX eL X_LM_lose 0 [some (.inr (some b)), some (.inl v)] [] M (fun x N => x = some (.inl 0) ∧ N = M) := by
  refine sg_LM_lose_0 ⟨s_kLM C.sk, _, s_net C.sk, s_kNet C.sk, EX.mono (c_Net_take_bad C hv) fun x N hv => ?_⟩
  obtain ⟨rfl, rfl⟩ := hv
  exact ⟨_, rfl, fun _ => ⟨rfl, rfl⟩, fun h => absurd rfl h⟩
theorem c_LM_lose_ok (C : cW M b n D) {u k : Nat} (hu : D 1666 0 = nI u) (h40 : u ≤ 40) (hk : k < u) : EX eL X_LM_lose 0 [some (.inr (some b)), some (.inl (nI k))] [] M (fun x N => x = some (.inl 1) ∧ cW N b n (g_take D k) ∧ fr (pC (mdA b n)) 0 M N) := by
  refine sg_LM_lose_0 ⟨s_kLM C.sk, _, s_net C.sk, s_kNet C.sk, EX.mono (c_Net_take_ok C hu h40 hk) fun x N hv => ?_⟩
  obtain ⟨q, rfl, h1, h2, h3⟩ := hv
  exact ⟨_, rfl, (fun h => by cases h), fun _ => ⟨rfl, h2, netC h3 (Nat.le_refl _)⟩⟩
end TAKE
