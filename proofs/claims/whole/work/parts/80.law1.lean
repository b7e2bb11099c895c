section LAW1
variable {M N : me_M} {b n c k u r i : Nat} {D E : me_D}
/-- what holds between two calls of the law -/
def LI (z s : Nat) (M : me_M) (b n c : Nat) (D : me_D) : Prop := cW M b n D ∧ mdl M (mdA b n) ∧ sD M (mdA b n) D = M ∧ dI D n c ∧ mdA b n + 26 ≤ mSz M ∧ mSz M ≤ z + 29 * c ∧ mSl M ≤ s + 290 * c
variable {z s : Nat}
theorem LI.stay (h : LI z s M b n c D) : LI z s M b n (c + 1) D := by
  obtain ⟨h1, h2, h3, h4, h5, h6, h7⟩ := h
  exact ⟨h1, h2, h3, h4.up (Nat.le_succ _), h5, by omega, by omega⟩
theorem LI.md (h : LI z s M b n c D) (f : fr (pC (mdA b n)) k M N) : mdl N (mdA b n) := by
  obtain ⟨h1, h2, h3, h4, h5, h6, h7⟩ := h
  have K : ∀ q, q < mSz M → mKd N q = mKd M q := fun q hq => (f.2.1 q hq).1
  have Ln : ∀ q, q < mSz M → mLn N q = mLn M q := fun q hq => (f.2.1 q hq).2
  have R : ∀ k, 1640 ≤ k → mR N k (mdA b n) 0 = mR M k (mdA b n) 0 := fun k hk => f.r (by omega) (fun z => by
    have := z.1
    unfold mutK at this
    simp only [Bool.or_eq_true, Bool.and_eq_true, decide_eq_true_eq] at this
    omega)
  unfold mdl at h2 ⊢
  simp (disch := omega) only [K, Ln, R]
  exact h2
theorem LI.sd (h : LI z s M b n c D) (f : fr (pC (mdA b n)) k M N) : sD N (mdA b n) D = N := by
  obtain ⟨h1, h2, h3, h4, h5, h6, h7⟩ := h
  have nm : ∀ k q, 1640 ≤ k → ¬ pC (mdA b n) k q := fun k q hk z => by
    have := z.1
    unfold mutK at this
    simp only [Bool.or_eq_true, Bool.and_eq_true, decide_eq_true_eq] at this
    omega
  refine Prod.ext rfl (Prod.ext rfl (Prod.ext ?_ rfl))
  funext k q i
  show (if mdA b n < q ∧ q ≤ mdA b n + 25 ∧ k = kdM (q - mdA b n) then D (q - mdA b n) i else if q = mdA b n ∧ 1640 ≤ k ∧ k < 1670 ∧ i = 0 then D k 0 else mI N k q i) = mI N k q i
  by_cases hz : mdA b n < q ∧ q ≤ mdA b n + 25 ∧ k = kdM (q - mdA b n)
  · rw [if_pos hz]
    have hp : ¬ pC (mdA b n) k q := fun w => by
      have hk : kdM (q - mdA b n) = 100 ∨ kdM (q - mdA b n) = 101 := by unfold kdM; split <;> simp
      rcases hk with hk | hk
      · have := w.2 (hz.2.2.trans hk); omega
      · have := w.1
        rw [hz.2.2, hk] at this
        exact absurd this (by decide)
    have e := mI_sDa M (mdA b n) D (q - mdA b n) k i (by omega) (by omega) hz.2.2
    rw [show mdA b n + (q - mdA b n) = q by omega, h3] at e
    rw [f.i (by omega) hp, e]
  · rw [if_neg hz]
    by_cases hy : q = mdA b n ∧ 1640 ≤ k ∧ k < 1670 ∧ i = 0
    · rw [if_pos hy]
      obtain ⟨y1, y2, y3, y4⟩ := hy
      subst y1 y4
      have e := mI_sDs M (mdA b n) D k y2 y3
      rw [h3] at e
      rw [f.i (by omega) (nm _ _ y2), e]
    · rw [if_neg hy]
/-- a call on both sides -/
theorem LI.step (h : LI z s M b n c D) (C : cW N b n E) (f : fr (pC (mdA b n)) k M N) (hk : k ≤ 29) (I : dI E n (c + 1)) : LI z s (sD N (mdA b n) E) b n (c + 1) E := by
  have H := h.md f
  obtain ⟨h1, h2, h3, h4, h5, h6, h7⟩ := h
  obtain ⟨f1, f2, f3⟩ := f.1
  have hs : mdA b n + 26 ≤ mSz N := by omega
  exact ⟨cW_sD C hs, H, sD_sD _ _ _ _, I, hs, by show mSz N ≤ _; omega, by show mSl N ≤ _; omega⟩
/-- both answer alike, and the relation holds behind -/
def both (z s : Nat) (M : me_M) (b n c : Nat) (XL XR : me_X) (as1 as2 : List (Option me_V)) : Prop := EX eL XL 0 as1 [] M (fun r N => ∃ x, r = some (.inl x) ∧ mKd N (mdA b n) = 11 ∧ EX eL XR 0 as2 [] N (fun r2 N2 => r2 = some (.inl x) ∧ ∃ E, LI z s N2 b n (c + 1) E))
theorem both_0 (h : LI z s M b n c D) {XL XR : me_X} {as1 as2 : List (Option me_V)} {x : Int32} (hL : EX eL XL 0 as1 [] M (fun r N => r = some (.inl x) ∧ N = M)) (hR : EX eL XR 0 as2 [] (sD M (mdA b n) D) (fun r N => r = some (.inl x) ∧ N = sD M (mdA b n) D)) : both z s M b n c XL XR as1 as2 := by
  refine EX.mono hL fun r N hv => ?_
  obtain ⟨rfl, rfl⟩ := hv
  rw [h.2.2.1] at hR
  refine ⟨x, rfl, h.2.1.1, EX.mono hR fun r2 N2 hv => ?_⟩
  obtain ⟨rfl, rfl⟩ := hv
  exact ⟨rfl, D, h.stay⟩
theorem both_1 (h : LI z s M b n c D) {XL XR : me_X} {as1 as2 : List (Option me_V)} {x : Int32} (hk : k ≤ 29) (I : dI E n (c + 1)) (hL : EX eL XL 0 as1 [] M (fun r N => r = some (.inl x) ∧ cW N b n E ∧ fr (pC (mdA b n)) k M N)) (hR : ∀ N, mdl N (mdA b n) → EX eL XR 0 as2 [] (sD N (mdA b n) D) (fun r N2 => r = some (.inl x) ∧ N2 = sD N (mdA b n) E)) : both z s M b n c XL XR as1 as2 := by
  refine EX.mono hL fun r N hv => ?_
  obtain ⟨rfl, C, f⟩ := hv
  have H := h.md f
  have hR := hR N H
  rw [h.sd f] at hR
  refine ⟨x, rfl, H.1, EX.mono hR fun r2 N2 hv => ?_⟩
  obtain ⟨rfl, rfl⟩ := hv
  exact ⟨rfl, E, h.step C f hk I⟩
theorem LI.n35 (h : LI z s M b n c D) : n = 3 ∨ n = 5 := h.1.1
theorem num {v : Int32} {m : Nat} (hm : m < 2147483648) (h0 : 0 ≤ v) (h1 : v < nI m) : ∃ r, r < m ∧ v = nI r := by
  obtain ⟨j, hj, rfl⟩ := nI_of (Int32.not_lt.mpr h0)
  exact ⟨j, (nlt (by omega) hm).mp h1, rfl⟩
theorem LI.dst (h : LI z s M b n c D) : ∀ r i, r < n → i < 6 * n → D 4 (30 * r + i) < 5 := by
  intro r i hr hi
  obtain ⟨⟨st, t1, t2⟩, -⟩ := h.2.2.2.1.e hr hi
  rw [t1, show (5 : Int32) = nI 5 from rfl, nlt (by omega) (by omega)]
  omega
theorem bo_waiting (h : LI z s M b n c D) : both z s M b n c X_LM_waiting X_Md_waiting [some (.inr (some b))] [some (.inr (some (mdA b n)))] := both_0 h (c_LM_waiting h.1) (c_Md_waiting h.2.1)
theorem bo_lost (h : LI z s M b n c D) : both z s M b n c X_LM_lost X_Md_lost [some (.inr (some b))] [some (.inr (some (mdA b n)))] := both_0 h (c_LM_lost h.1) (c_Md_lost h.2.1)
theorem under_of (h : dI D n c) {v : Int32} (hv : ¬ (v < 0 ∨ ¬ v < D 1666 0)) : ∃ u k, D 1666 0 = nI u ∧ u ≤ 40 ∧ k < u ∧ v = nI k := by
  obtain ⟨u, u1, u2⟩ := h.2.2.2.1
  have h0 : 0 ≤ v := Int32.not_lt.mp fun z => hv (Or.inl z)
  have h1 : v < nI u := by rw [← u1]; exact Classical.not_not.mp fun z => hv (Or.inr z)
  obtain ⟨k, k1, k2⟩ := num (by omega) h0 h1
  exact ⟨u, k, u1, u2, k1, k2⟩
theorem bo_message (h : LI z s M b n c D) {v : Int32} : both z s M b n c X_LM_message X_Md_message [some (.inr (some b)), some (.inl v), none] [some (.inr (some (mdA b n))), some (.inl v), none] := by
  by_cases hv : v < 0 ∨ ¬ v < D 1666 0
  · exact both_0 h (c_LM_message_bad h.1 hv) (c_Md_message_bad h.2.1 hv)
  · obtain ⟨u, k, hu, h40, hk, rfl⟩ := under_of h.2.2.2.1 hv
    exact both_0 h (c_LM_message_ok h.1 hu h40 hk) (c_Md_message_ok h.2.1 hu h40 hk)
theorem bo_lose (h : LI z s M b n c D) {v : Int32} : both z s M b n c X_LM_lose X_Md_lose [some (.inr (some b)), some (.inl v)] [some (.inr (some (mdA b n))), some (.inl v)] := by
  by_cases hv : v < 0 ∨ ¬ v < D 1666 0
  · exact both_0 h (c_LM_lose_bad h.1 hv) (c_Md_lose_bad h.2.1 hv)
  · obtain ⟨u, k, hu, h40, hk, rfl⟩ := under_of h.2.2.2.1 hv
    exact both_1 h (Nat.zero_le _) ((dI_take h.2.2.2.1 hu h40 hk).up (Nat.le_succ _)) (c_LM_lose_ok h.1 hu h40 hk) (fun N H => c_Md_lose_ok H hu h40 hk)
theorem bo_deliver (h : LI z s M b n c D) (hc : c ≤ 1000) {v : Int32} : both z s M b n c X_LM_deliver X_Md_deliver [some (.inr (some b)), some (.inl v), none] [some (.inr (some (mdA b n))), some (.inl v), none] := by
  have hn := h.n35
  have I := h.2.2.2.1
  by_cases hv : v < 0 ∨ ¬ v < D 1666 0
  · exact both_0 h (c_LM_deliver_bad h.1 hv) (c_Md_deliver_bad h.2.1 hv)
  · obtain ⟨u, k, hu, h40, hk, rfl⟩ := under_of I hv
    have hg := g_un_of hu h40
    obtain ⟨kd, fr', to, i, bb, m1, m2, m3, m4, m5, m6, m7, m8, -⟩ := I.2.2.2.2.2.1 k (by omega)
    have t1 : g_take D k 24 441 = nI fr' := (take_got (j := 1) hu h40 hk (by decide)).trans m3
    have t2 : g_take D k 24 442 = nI to := (take_got (j := 2) hu h40 hk (by decide)).trans m5
    have t3 : g_take D k 24 443 = nI i := (take_got (j := 3) hu h40 hk (by decide)).trans m7
    obtain ⟨-, -, -, -, -, -, ⟨q, k1, k2, k3, k4, k5, k6, k7⟩, -⟩ := I.e m6 m8
    exact both_1 h (Nat.le_refl _) (I.deliver hn hu h40 hk) (c_LM_deliver_ok h.1 I (by omega) hu h40 hk) (fun N H => c_Md_deliver_ok H hu h40 hk I.1 I.2.1 I.2.2.1 (by omega) t2 (by omega) t1 (by omega) t3 (by omega) k1 k2 (fun z => by have := k7 z; omega))
theorem bo_propose (h : LI z s M b n c D) (hc : c ≤ 1000) {v k p x : Int32} : both z s M b n c X_LM_propose X_Md_propose [some (.inr (some b)), some (.inl v), some (.inl k), some (.inl p), some (.inl x), none, none] [some (.inr (some (mdA b n))), some (.inl v), some (.inl k), some (.inl p), some (.inl x), none, none, none] := by
  have hn := h.n35
  have I := h.2.2.2.1
  by_cases hb : ∃ r key, r < n ∧ v = nI r ∧ key < 4 ∧ k = nI key ∧ D 1 r = 0
  · obtain ⟨r, key, hr, rfl, hk, rfl, hcr⟩ := hb
    exact both_1 h (Nat.le_refl _) (I.propose hn hr) (c_LM_propose_ok h.1 I.2.2.2.1 hr hk hcr (fun j hj => by obtain ⟨q, q1, q2⟩ := (I.e hr hj).2.2.1; exact ⟨q, q1, by omega⟩)) (fun N H => c_Md_propose_ok H I.1 I.2.2.1 (by omega) (by omega) I.2.2.2.1 hr hk hcr)
  · exact both_0 h (c_LM_propose_bad h.1 hb) (c_Md_propose_bad h.2.1 I.1 (by omega) hb)
theorem bo_prepare (h : LI z s M b n c D) (hc : c ≤ 1000) {v w : Int32} : both z s M b n c X_LM_prepare X_Md_prepare [some (.inr (some b)), some (.inl v), some (.inl w), none, none] [some (.inr (some (mdA b n))), some (.inl v), some (.inl w), none, none] := by
  have hn := h.n35
  have I := h.2.2.2.1
  by_cases hb : ∃ r i, r < n ∧ i < 6 * n ∧ v = nI r ∧ w = nI i ∧ D 1 r = 0 ∧ D 4 (30 * r + i) < 3
  · obtain ⟨r, i, hr, hi, rfl, rfl, hcr, h3⟩ := hb
    obtain ⟨-, ⟨p, p1, p2⟩, -⟩ := I.e hr hi
    exact both_1 h (by omega) (I.prepare hn hr hi (by omega)) (c_LM_prepare_ok h.1 I.2.2.2.1 hr hi hcr h3 p1 (by omega)) (fun N H => c_Md_prepare_ok H I.1 I.2.2.1 (by omega) I.2.2.2.1 hr hi hcr h3 p1 (by omega))
  · exact both_0 h (c_LM_prepare_bad h.1 h.dst hb) (c_Md_prepare_bad h.2.1 I.1 I.2.2.1 (by omega) hb)
theorem bo_execute (h : LI z s M b n c D) {v : Int32} : both z s M b n c X_LM_execute X_Md_execute [some (.inr (some b)), some (.inl v), none] [some (.inr (some (mdA b n))), some (.inl v), none, none, none, none, none, none] := by
  have hn := h.n35
  have I := h.2.2.2.1
  by_cases hb : ∃ r, r < n ∧ v = nI r ∧ D 1 r = 0
  · obtain ⟨r, hr, rfl, hcr⟩ := hb
    exact both_1 h (Nat.zero_le _) (I.exec (by omega)) (c_LM_execute_ok h.1 hr hcr (fun i hi => (I.e hr hi).2.2.2.1)) (fun N H => c_Md_execute_ok H I.1 I.2.2.1 (by omega) hr hcr)
  · exact both_0 h (c_LM_execute_bad h.1 hb) (c_Md_execute_bad h.2.1 I.1 (by omega) hb)
theorem bo_crash (h : LI z s M b n c D) {v : Int32} : both z s M b n c X_LM_crash X_Md_crash [some (.inr (some b)), some (.inl v), none] [some (.inr (some (mdA b n))), some (.inl v), none, none] := by
  have hn := h.n35
  have I := h.2.2.2.1
  refine EX.mono (c_LM_crash h.1 I.2.1) fun r N hv => ?_
  rcases hv with ⟨r, hr, rfl, hcr, hm, rfl, C, f⟩ | ⟨hno, rfl, rfl⟩
  · have H := h.md f
    have hR := c_Md_crash (D := D) (v := nI r) H I.1 (by omega) (fun r hr _ => I.2.2.2.2.1 r hr)
    rw [h.sd f] at hR
    refine ⟨1, rfl, H.1, EX.mono hR fun r2 N2 hv => ?_⟩
    rcases hv with ⟨r', hr', e, hcr', hm', rfl, rfl⟩ | ⟨hno, -⟩
    · have e : r = r' := (neq (by omega) (by omega)).mp e
      subst e
      exact ⟨rfl, _, h.step C f (Nat.zero_le _) (I.crash hr)⟩
    · exact absurd ⟨r, hr, rfl, hcr, hm⟩ hno
  · have hR := c_Md_crash (D := D) (v := v) h.2.1 I.1 (by omega) (fun r hr _ => I.2.2.2.2.1 r hr)
    rw [h.2.2.1] at hR
    refine ⟨0, rfl, h.2.1.1, EX.mono hR fun r2 N2 hv => ?_⟩
    rcases hv with ⟨r', hr', e, hcr', hm', rfl, rfl⟩ | ⟨-, rfl, rfl⟩
    · exact absurd ⟨r', hr', e, hcr', hm'⟩ hno
    · exact ⟨rfl, D, h.stay⟩
theorem bo_state (h : LI z s M b n c D) {v w : Int32} : both z s M b n c X_LM_state X_Md_state [some (.inr (some b)), some (.inl v), some (.inl w), none] [some (.inr (some (mdA b n))), some (.inl v), some (.inl w)] := by
  have hn := h.n35
  have I := h.2.2.2.1
  by_cases hk : 0 ≤ v ∧ v < nI n ∧ 0 ≤ w ∧ w < nI (6 * n)
  · obtain ⟨r, hr, rfl⟩ := num (by omega) hk.1 hk.2.1
    obtain ⟨i, hi, rfl⟩ := num (by omega) hk.2.2.1 hk.2.2.2
    exact both_0 h (c_LM_state_ok h.1 hr hi) (c_Md_state_ok h.2.1 I.1 I.2.2.1 (by omega) hr hi)
  · exact both_0 h (c_LM_state_bad h.1 hk) (c_Md_state_bad h.2.1 I.1 I.2.2.1 (by omega) hk)
theorem bo_command (h : LI z s M b n c D) {v w : Int32} : both z s M b n c X_LM_command X_Md_command [some (.inr (some b)), some (.inl v), some (.inl w), none] [some (.inr (some (mdA b n))), some (.inl v), some (.inl w)] := by
  have hn := h.n35
  have I := h.2.2.2.1
  by_cases hk : 0 ≤ v ∧ v < nI n ∧ 0 ≤ w ∧ w < nI (6 * n)
  · obtain ⟨r, hr, rfl⟩ := num (by omega) hk.1 hk.2.1
    obtain ⟨i, hi, rfl⟩ := num (by omega) hk.2.2.1 hk.2.2.2
    exact both_0 h (c_LM_command_ok h.1 hr hi) (c_Md_command_ok h.2.1 I.1 I.2.2.1 (by omega) hr hi)
  · exact both_0 h (c_LM_command_bad h.1 hk) (c_Md_command_bad h.2.1 I.1 I.2.2.1 (by omega) hk)
theorem bo_seq (h : LI z s M b n c D) {v w : Int32} : both z s M b n c X_LM_seq X_Md_seq [some (.inr (some b)), some (.inl v), some (.inl w), none] [some (.inr (some (mdA b n))), some (.inl v), some (.inl w)] := by
  have hn := h.n35
  have I := h.2.2.2.1
  by_cases hk : 0 ≤ v ∧ v < nI n ∧ 0 ≤ w ∧ w < nI (6 * n)
  · obtain ⟨r, hr, rfl⟩ := num (by omega) hk.1 hk.2.1
    obtain ⟨i, hi, rfl⟩ := num (by omega) hk.2.2.1 hk.2.2.2
    exact both_0 h (c_LM_seq_ok h.1 hr hi) (c_Md_seq_ok h.2.1 I.1 I.2.2.1 (by omega) hr hi)
  · exact both_0 h (c_LM_seq_bad h.1 hk) (c_Md_seq_bad h.2.1 I.1 I.2.2.1 (by omega) hk)
theorem bo_deps (h : LI z s M b n c D) {v w : Int32} : both z s M b n c X_LM_deps X_Md_deps [some (.inr (some b)), some (.inl v), some (.inl w), none] [some (.inr (some (mdA b n))), some (.inl v), some (.inl w)] := by
  have hn := h.n35
  have I := h.2.2.2.1
  by_cases hk : 0 ≤ v ∧ v < nI n ∧ 0 ≤ w ∧ w < nI (6 * n)
  · obtain ⟨r, hr, rfl⟩ := num (by omega) hk.1 hk.2.1
    obtain ⟨i, hi, rfl⟩ := num (by omega) hk.2.2.1 hk.2.2.2
    exact both_0 h (c_LM_deps_ok h.1 hr hi) (c_Md_deps_ok h.2.1 I.1 I.2.2.1 (by omega) hr hi)
  · exact both_0 h (c_LM_deps_bad h.1 hk) (c_Md_deps_bad h.2.1 I.1 I.2.2.1 (by omega) hk)
theorem bo_promised (h : LI z s M b n c D) {v w : Int32} : both z s M b n c X_LM_promised X_Md_promised [some (.inr (some b)), some (.inl v), some (.inl w), none] [some (.inr (some (mdA b n))), some (.inl v), some (.inl w)] := by
  have hn := h.n35
  have I := h.2.2.2.1
  by_cases hk : 0 ≤ v ∧ v < nI n ∧ 0 ≤ w ∧ w < nI (6 * n)
  · obtain ⟨r, hr, rfl⟩ := num (by omega) hk.1 hk.2.1
    obtain ⟨i, hi, rfl⟩ := num (by omega) hk.2.2.1 hk.2.2.2
    exact both_0 h (c_LM_promised_ok h.1 hr hi) (c_Md_promised_ok h.2.1 I.1 I.2.2.1 (by omega) hr hi)
  · exact both_0 h (c_LM_promised_bad h.1 hk) (c_Md_promised_bad h.2.1 I.1 I.2.2.1 (by omega) hk)
theorem bo_result (h : LI z s M b n c D) {v w : Int32} : both z s M b n c X_LM_result X_Md_result [some (.inr (some b)), some (.inl v), some (.inl w), none] [some (.inr (some (mdA b n))), some (.inl v), some (.inl w)] := by
  have hn := h.n35
  have I := h.2.2.2.1
  by_cases hk : 0 ≤ v ∧ v < nI n ∧ 0 ≤ w ∧ w < nI (6 * n)
  · obtain ⟨r, hr, rfl⟩ := num (by omega) hk.1 hk.2.1
    obtain ⟨i, hi, rfl⟩ := num (by omega) hk.2.2.1 hk.2.2.2
    exact both_0 h (c_LM_result_ok h.1 hr hi) (c_Md_result_ok h.2.1 I.1 I.2.2.1 (by omega) hr hi)
  · exact both_0 h (c_LM_result_bad h.1 hk) (c_Md_result_bad h.2.1 I.1 I.2.2.1 (by omega) hk)
theorem bo_place (h : LI z s M b n c D) {v w : Int32} : both z s M b n c X_LM_place X_Md_place [some (.inr (some b)), some (.inl v), some (.inl w), none] [some (.inr (some (mdA b n))), some (.inl v), some (.inl w)] := by
  have hn := h.n35
  have I := h.2.2.2.1
  by_cases hk : 0 ≤ v ∧ v < nI n ∧ 0 ≤ w ∧ w < nI (6 * n)
  · obtain ⟨r, hr, rfl⟩ := num (by omega) hk.1 hk.2.1
    obtain ⟨i, hi, rfl⟩ := num (by omega) hk.2.2.1 hk.2.2.2
    exact both_0 h (c_LM_place_ok h.1 hr hi) (c_Md_place_ok h.2.1 I.1 I.2.2.1 (by omega) hr hi)
  · exact both_0 h (c_LM_place_bad h.1 hk) (c_Md_place_bad h.2.1 I.1 I.2.2.1 (by omega) hk)
theorem bo_value (h : LI z s M b n c D) {v w : Int32} : both z s M b n c X_LM_value X_Md_value [some (.inr (some b)), some (.inl v), some (.inl w)] [some (.inr (some (mdA b n))), some (.inl v), some (.inl w)] := by
  have hn := h.n35
  have I := h.2.2.2.1
  by_cases hk : 0 ≤ v ∧ v < nI n ∧ 0 ≤ w ∧ w < 4
  · obtain ⟨r, hr, rfl⟩ := num (by omega) hk.1 hk.2.1
    obtain ⟨i, hi, rfl⟩ := num (m := 4) (by omega) hk.2.2.1 hk.2.2.2
    exact both_0 h (c_LM_value_ok h.1 hr hi) (c_Md_value_ok h.2.1 I.1 (by omega) hr hi)
  · exact both_0 h (c_LM_value_bad h.1 hk) (c_Md_value_bad h.2.1 I.1 hk)
end LAW1
