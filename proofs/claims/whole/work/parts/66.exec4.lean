section EXEC4
variable {c : Nat} {M N : me_M} {b n r i : Nat} {D E : me_D}
theorem c_Sto_runEntry (C : cW M b n D) (hr : r < n) (hi : i < 6 * n) (hst : ¬ D 4 (30 * r + i) = 0) : EX eL X_Sto_runEntry 0 [some (.inr (some (aR b n r + 3 + 6 * n))), some (.inr (some (aR b n r + 2 + i))), none] [] M (fun x N => x = none ∧ aftE M b n r i D N) := by
  have n5 := C.n5
  have S := C.sk
  have T0 := C.sto hr
  obtain ⟨o, o1, o2, -, -, cq, c1, ck, key, hk, c2, c3⟩ := (C.ent hr hi).2.2.2.2.2.2 hst
  have le := C.w.lt (q := aR b n r + 2 + i) (by rw [s_kEnt S hr hi]; decide)
  have lv := C.w.lt (q := aR b n r + 4 + 6 * n) (by rw [s_kVals S hr]; decide)
  have pr : pEx b n r i 1196 (aR b n r + 2 + i) := Or.inl ⟨by decide, by decide, rfl⟩
  have pv : pEx b n r i 100 (aR b n r + 4 + 6 * n) := Or.inr (Or.inl ⟨rfl, rfl⟩)
  have fr1 : ∀ v, fr (pEx b n r i) 0 M (mSetI M 1196 (aR b n r + 2 + i) 0 v) := fun v => (fr.refl _ M).setI (fun _ => pr)
  have w1 : ∀ v, wf (mSetI M 1196 (aR b n r + 2 + i) 0 v) := fun v => C.w.setI le
  have m1 : ∀ v k q x, ¬ k = 1196 → mI (mSetI M 1196 (aR b n r + 2 + i) 0 v) k q x = mI M k q x := fun v k q x h => by rw [mI_SetI, if_neg (fun z => h z.1)]
  refine sg_Sto_runEntry_0 ⟨_, rfl, s_kEnt S hr hi, o, o1, o2, cq, c1, ck, fun h => ⟨s_kSto S hr, _, s_vals S hr, s_kVals S hr, (by rw [c2, s_lVals S hr]; exact vin hk (by omega)), ?_⟩, fun h => ?_⟩
  · rintro _ rfl
    rw [m1 _ _ _ _ (by decide), m1 _ _ _ _ (by decide), m1 _ _ _ _ (by decide), c2, cl (by omega)]
    refine ⟨fun h1 M16 h16 M17 h17 M18 h18 => ⟨rfl, ?_⟩, fun h1 => ⟨_, s_vals S hr, s_kVals S hr, (by rw [mLn_SetI, s_lVals S hr]; exact vin hk (by omega)), fun K hK M16 h16 M17 h17 M18 h18 => ⟨rfl, ?_⟩⟩⟩
    · have hc : D 5 (30 * r + i) = nI key := by
        rcases c3 with z | z | z
        · exact z.2
        · exact absurd z.1 h1
        · exact absurd z.1 h
      obtain ⟨f1, f2, f3⟩ := kf0 key hk
      refine exe_tail C hr hi hst (fr1 _) (w1 _) rfl ?_ (fun k hk2 => ?_) (fun k q x h3 _ => m1 _ _ _ _ h3) M16 h16 M17 h17 M18 h18
      · rw [mI_SetI, if_pos ⟨rfl, rfl, rfl⟩, g_act_rs, hc, if_neg f1, T0.1 key hk]
        unfold g_cellOf
        rw [hc, f3]
      · rw [m1 _ _ _ _ (by decide), g_act_mp, hc, if_neg (fun z => f2 z.1)]
        exact T0.1 k hk2
    · have hc : D 5 (30 * r + i) = nI (4 + key) ∧ mI M 1386 cq 0 = D 6 (30 * r + i) := by
        rcases c3 with z | z | z
        · rw [z.1] at h1; exact absurd h1 (by decide)
        · exact z.2
        · exact absurd z.1 h
      obtain ⟨hc, hv⟩ := hc
      obtain ⟨f1, f2, f3⟩ := kf1 key hk
      subst hK
      refine exe_tail C hr hi hst ((fr1 _).setI (fun _ => pv)) ((w1 _).setI lv) rfl ?_ (fun k hk2 => ?_) (fun k q x h3 h4 => by rw [mI_SetI, if_neg (fun z => h4 z.1), m1 _ _ _ _ h3]) M16 h16 M17 h17 M18 h18
      · rw [mI_SetI, if_neg (fun z => absurd z.1 (by decide)), mI_SetI, if_pos ⟨rfl, rfl, rfl⟩, g_act_rs, hc, if_neg f1, T0.1 key hk]
        unfold g_cellOf
        rw [hc, f3]
      · rw [mI_SetI, g_act_mp, hc]
        unfold g_cellOf
        rw [hc, f3]
        by_cases hx : k = key
        · rw [if_pos ⟨rfl, rfl, hx⟩, if_pos ⟨f2, by omega⟩]; exact hv
        · rw [if_neg (fun z => hx z.2.2), if_neg (fun z => hx (by omega)), m1 _ _ _ _ (by decide)]
          exact T0.1 k hk2
  · have hc : D 5 (30 * r + i) = 8 := by
      rcases c3 with z | z | z
      · rw [z.1] at h; exact absurd h (by decide)
      · rw [z.1] at h; exact absurd h (by decide)
      · exact z.2
    rintro _ rfl
    rw [m1 _ _ _ _ (by decide), h]
    refine ⟨fun _ M16 h16 => ⟨by rw [h16]; exact s_kSto S hr, fun M17 h17 M18 h18 => ⟨rfl, ?_⟩⟩, fun h1 => absurd h1 (by decide)⟩
    refine exe_tail C hr hi hst (fr1 _) (w1 _) rfl ?_ (fun k hk2 => ?_) (fun k q x h3 _ => m1 _ _ _ _ h3) M16 h16 M17 h17 M18 h18
    · rw [mI_SetI, if_pos ⟨rfl, rfl, rfl⟩, g_act_rs, hc, if_pos rfl]
    · rw [m1 _ _ _ _ (by decide), g_act_mp, hc, if_neg (fun z => absurd z.1.2 (by decide))]
      exact T0.1 k hk2
/-- how many are in s -/
def cU (s : Int32) : Nat → Nat
  | 0 => 0
  | j + 1 => cU s j + if bt s j = true then 1 else 0
theorem cU_le (s : Int32) : ∀ m, cU s m ≤ m := by
  intro m
  induction m with
  | zero => exact Nat.le_refl _
  | succ m ih => rw [cU]; split <;> omega
def rmB (s : Int32) (q : Nat) : Int32 := s &&& ((1 <<< (nI q &&& 31)) ^^^ -1)
theorem rm_bt {s : Int32} {q j : Nat} (hq : q < 32) (hj : j < 32) : bt (rmB s q) j = (bt s j && !decide (j = q)) := by
  unfold rmB
  rw [b_and, bt_n hj, bt_s hq hj]
theorem cU_rm {s : Int32} {q : Nat} (hb : bt s q = true) : ∀ m, m ≤ 32 → cU (rmB s q) m + (if q < m then 1 else 0) = cU s m := by
  have hq : q < 32 := Nat.lt_of_not_le fun z => by rw [b_big z] at hb; cases hb
  intro m
  induction m with
  | zero => intro _; rfl
  | succ m ih =>
    intro hm
    have := ih (by omega)
    rw [cU, cU, rm_bt hq (by omega)]
    by_cases hx : m = q
    · subst hx
      rw [hb]
      simp only [decide_true, Bool.not_true, Bool.and_false, if_true]
      rw [if_neg (Nat.lt_irrefl _)] at this
      simp
      omega
    · have e : (bt s m && !decide (m = q)) = bt s m := by simp [hx]
      rw [e]
      have : (if q < m then 1 else 0) = (if q < m + 1 then 1 else 0 : Nat) := by
        by_cases h1 : q < m
        · rw [if_pos h1, if_pos (by omega)]
        · rw [if_neg h1, if_neg (by omega)]
      omega
def pRun (b n r k q : Nat) : Prop := ∃ i, i < 6 * n ∧ pEx b n r i k q
theorem pRun_mut : mutP (pRun b n r) := fun k q z => by
  obtain ⟨i, -, z⟩ := z
  exact pEx_mut k q z
theorem runU_0 {T : Nat} : g_runU n r T D 0 = D := by
  cases T with
  | zero => rfl
  | succ T => rw [g_runU, if_pos rfl]
theorem c_Sto_runComponent (hr : r < n) : ∀ t k M D s, cW M b n D → t + k = 6 * n → cU s (6 * n) ≤ t → sOK n s → (∀ j, j < 6 * n → bt s j = true → ¬ D 4 (30 * r + j) = 0) → ∀ T, cU s (6 * n) ≤ T → EX eL X_Sto_runComponent 5 [some (.inr (some (aR b n r + 3 + 6 * n))), some (.inr (some (aR b n r + 1))), none, some (.inl s), some (.inl (nI k)), none] [] M (fun x N => x = none ∧ cW N b n (g_runU n r T D s) ∧ fr (pRun b n r) 0 M N) := by
  intro t
  induction t with
  | zero =>
    intro k M D s C hk h0 hs hd T hT
    have n5 := C.n5
    have S := C.sk
    have hk : k = 6 * n := by omega
    subst hk
    have hz : s = 0 := by
      rw [bt_z]
      intro j hj
      cases hb : bt s j with
      | false => rfl
      | true =>
        have := cU_rm hb (6 * n) (by omega)
        rw [if_pos (hs j hj hb)] at this
        omega
    subst hz
    refine sg_Sto_runComponent_5 ⟨_, rfl, s_kEnts S hr, fun _ => ⟨rfl, ?_, fr.refl _ _⟩, fun h => ?_⟩
    · rw [runU_0]; exact C
    · rw [s_lEnts S hr] at h
      exact absurd (Int32.le_refl _) h
  | succ t ih =>
    intro k M D s C hk h0 hs hd T hT
    have n5 := C.n5
    have S := C.sk
    refine sg_Sto_runComponent_5 ⟨_, rfl, s_kEnts S hr, fun h => ?_, fun _ => ⟨fun hz => ?_, fun hz => ⟨s_kSto S hr, ?_⟩⟩⟩
    · rw [s_lEnts S hr, oN, nle (by omega) (by omega)] at h; omega
    · subst hz
      exact ⟨rfl, by rw [runU_0]; exact C, fr.refl _ _⟩
    · refine EX.mono (c_Sto_leastSeq C hr hd) fun y N hv => ?_
      obtain ⟨rfl, rfl⟩ := hv
      have hb := nxt_all (D := D) (r := r) (s := s) (6 * n)
      cases hq : g_nxtU D r s (6 * n) none with
      | none =>
        rw [hq] at hb
        exact absurd (bt_z.mpr fun j hj => by
          cases hx : bt s j with
          | false => rfl
          | true => rw [hb j (Nat.zero_le _) (hs j hj hx)] at hx; cases hx) hz
      | some q =>
        rw [hq] at hb
        obtain ⟨-, q6, qb, -⟩ := hb
        have e1 := cU_rm qb (6 * n) (by omega)
        rw [if_pos q6] at e1
        refine ⟨_, rfl, s_kEnts S hr, (by rw [s_lEnts S hr]; exact vin q6 (by omega)), s_kSto S hr, ?_⟩
        rw [Option.getD_some, cl (by omega), s_ent S hr q6]
        refine EX.mono (c_Sto_runEntry C hr q6 (hd q q6 qb)) fun y L hv => ?_
        obtain ⟨rfl, ha⟩ := hv
        obtain ⟨C2, F2⟩ := ha _ rfl
        refine ⟨rfl, ?_, ?_⟩
        · exact s_kSto C2.sk hr
        · rintro _ rfl _ rfl _ rfl
          rw [nI_i1]
          obtain ⟨T', rfl⟩ : ∃ T', T = T' + 1 := ⟨T - 1, by omega⟩
          refine EX.mono (ih (k + 1) _ (g_act D r q) (rmB s q) C2 (by omega) (by omega) (fun j hj hb2 => hs j hj ?_) (fun j hj hb2 => ?_) T' (by omega)) fun y L2 hv => ?_
          · rw [rm_bt (by omega) hj, Bool.and_eq_true] at hb2; exact hb2.1
          · rw [rm_bt (by omega) (by omega), Bool.and_eq_true] at hb2
            have hjq : ¬ j = q := fun z => by rw [z] at hb2; simp at hb2
            rw [g_act_o (fun z => hjq (by omega)) (fun z => absurd z.1 (by decide)) (fun z => absurd z.1 (by decide))]
            exact hd j hj hb2.1
          · obtain ⟨h1, h2, h3⟩ := hv
            refine ⟨h1, ?_, (F2.mono (Nat.le_refl _) (fun k' q' _ z => ⟨q, q6, z⟩)).trans h3⟩
            rw [g_runU, if_neg hz, hq]
            exact h2
end EXEC4
