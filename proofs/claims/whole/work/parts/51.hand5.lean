section HAND5
variable {c : Nat} {M N : me_M} {b n r i : Nat} {D E : me_D}
theorem g_apU_congr2 {a : Nat} : ∀ {k : Nat}, 0 < k → (∀ j, j < k → E 21 (4 * a + j) = D 21 (4 * a + j) ∧ E 22 (4 * a + j) = D 22 (4 * a + j)) → g_apU E a k = g_apU D a k := by
  intro k hk h
  obtain ⟨k, rfl⟩ : ∃ m, k = m + 1 := ⟨k - 1, by omega⟩
  have h0 := h 0 (by omega)
  rw [Nat.add_zero] at h0
  have : g_apU E a k = g_apU D a k := by
    rcases Nat.eq_zero_or_pos k with rfl | hk2
    · simp only [g_apU, h0.1]
    · exact g_apU_congr2 hk2 (fun j hj => h j (by omega))
  rw [g_apU, g_apU, this, (h k (by omega)).1, (h k (by omega)).2, h0.1, h0.2]
theorem ap_alike {a : Nat} : ∀ {k : Nat}, (g_apU D a (k + 1)).1 = true → (g_apU D a (k + 1)).2.1 = D 21 (4 * a) ∧ (g_apU D a (k + 1)).2.2 = D 22 (4 * a) := by
  intro k
  induction k with
  | zero =>
    intro h
    simp only [g_apU, Nat.add_zero, Int32.le_refl, if_true, Int32.zero_or, and_self]
  | succ k ih =>
    intro h
    rw [g_apU] at h
    simp only [Bool.and_eq_true, decide_eq_true_eq] at h
    obtain ⟨⟨h1, h2⟩, h3⟩ := h
    obtain ⟨i1, i2⟩ := ih h1
    rw [g_apU]
    dsimp only
    rw [i1, i2, h2, h3]
    refine ⟨by split <;> rfl, Int32.or_self⟩
theorem g_log_seq {a k : Nat} (hc : g_ct D a = k) : g_log D a 21 (4 * a + k) = D 24 447 ∧ g_log D a 22 (4 * a + k) = D 24 448 := by
  unfold g_log
  rw [hc]
  constructor <;> simp (disch := omega) only [dU_ne, dU_eq]
theorem g_log_out {a k j x : Nat} (hc : g_ct D a = k) (h1 : ¬ (17 ≤ j ∧ j ≤ 23 ∧ x = 4 * a + k)) (h2 : ¬ (j = 16 ∧ x = a)) : g_log D a j x = D j x := by
  unfold g_log
  rw [hc]
  simp (disch := omega) only [dU_out]
theorem max_le (g s : Int32) : me_max g s = if s ≤ g then g else s := by
  unfold me_max
  by_cases h : g < s
  · rw [if_pos h, if_neg (Int32.not_le.mpr h)]
  · rw [if_neg h, if_pos (Int32.not_lt.mp h)]
/-- a reply is counted (not a promise) -/
theorem log_cW (C : cW M b n D) (hr : r < n) (hi : i < 6 * n) {qa : Nat} (hqa : mR M 105 (aR b n r + 2 + 6 * n) i = some qa) {k : Nat} (hc : D 16 (30 * r + i) = nI k) (hk : k ≤ 2) (h3 : ¬ D 14 (30 * r + i) = 3) (h : fr (pA qa) 0 M N) (w : wf N) (n1 : mI N 1323 qa 0 = mI M 1323 qa 0) (n2 : mI N 1324 qa 0 = nI (k + 1)) (n3 : mI N 1325 qa 0 = 0 ∨ mI N 1325 qa 0 = 1)
    (n4 : (D 14 (30 * r + i) = 0 ∨ D 14 (30 * r + i) = 1) → mI N 1325 qa 0 = b01 (g_apU (g_log D (30 * r + i)) (30 * r + i) (k + 1)).1 ∧ mI N 1326 qa 0 = (g_apU (g_log D (30 * r + i)) (30 * r + i) (k + 1)).2.1 ∧ mI N 1327 qa 0 = (g_apU (g_log D (30 * r + i)) (30 * r + i) (k + 1)).2.2) : cW N b n (g_log D (30 * r + i)) := by
  have hct : g_ct D (30 * r + i) = k := by unfold g_ct; rw [hc]; exact cl (by omega)
  have hka := C.attk hr hi hqa
  have hl := C.w.lt (q := qa) (by rw [hka]; decide)
  obtain ⟨a1, a2⟩ := C.att hr hi
  have hz : ¬ D 13 (30 * r + i) = 0 := fun z => by rw [a1 z] at hqa; cases hqa
  obtain ⟨q', k', e1, e2, e3, e4, e5, e6, e7, e8, e9, wv, e10, e11, -⟩ := a2 hz
  rw [hqa] at e1
  cases e1
  have x1 : g_log D (30 * r + i) 13 (30 * r + i) = D 13 (30 * r + i) := g_log_ne (by omega)
  have x2 : g_log D (30 * r + i) 15 (30 * r + i) = D 15 (30 * r + i) := g_log_ne (by omega)
  have x3 : g_log D (30 * r + i) 14 (30 * r + i) = D 14 (30 * r + i) := g_log_ne (by omega)
  refine C.attu hr hi hqa h (fun k q z => Or.inl z) w (fun j x h1 h2 => g_log_out hct (by omega) (by omega)) ⟨fun z => absurd (x1.symm.trans z) hz, fun _ => ⟨qa, k + 1, rfl, h.kd C.w e2 (by decide), ?_, ?_, by omega, n2, ?_, n3, fun _ z => ?_, wv, ?_, h.kd C.w e11 (by decide), fun z => absurd (x3.symm.trans z) h3⟩⟩
  · rw [x2, h.i hl (pA_mut.no (by decide))]; exact e3
  · rw [g_log_ct, hc, p1]
  · rw [x3, n1, h.i hl (pA_mut.no (k := 1321) (by decide))]; exact e7
  · rw [x3] at z; exact n4 z
  · rw [h.r hl (pA_mut.no (by decide))]; exact e10
theorem cnt_fr {q : Nat} {a s d k : Int32} : fr (pA q) 0 M (cntM M q a s d k) := ((((fr.refl _ M).setI (fun _ => ⟨by decide, by decide, rfl⟩)).setI (fun _ => ⟨by decide, by decide, rfl⟩)).setI (fun _ => ⟨by decide, by decide, rfl⟩)).setI (fun _ => ⟨by decide, by decide, rfl⟩)
theorem cnt_wf (w : wf M) {q : Nat} (hq : q < mSz M) {a s d k : Int32} : wf (cntM M q a s d k) := (((w.setI hq).setI hq).setI hq).setI hq
theorem b01_01 (x : Bool) : b01 x = 0 ∨ b01 x = 1 := by cases x; exact Or.inl rfl; exact Or.inr rfl
/-- what a PREACCEPTOK does to the attempt -/
theorem c_At_count (C : cW M b n D) (hr : r < n) (hi : i < 6 * n) {qa : Nat} (hqa : mR M 105 (aR b n r + 2 + 6 * n) i = some qa) {k : Nat} (hc : D 16 (30 * r + i) = nI k) (hk : k ≤ 2) (h01 : D 14 (30 * r + i) = 0 ∨ D 14 (30 * r + i) = 1) {p : Nat} {cd vl : Int32} (ho : OrdOK M p cd vl (D 24 447) (D 24 448)) : EX eL X_At_countOrder 0 [some (.inr (some qa)), some (.inr (some p))] [] M (fun x N => x = none ∧ cW N b n (g_log D (30 * r + i)) ∧ fr (pA qa) 0 M N) := by
  have hct : g_ct D (30 * r + i) = k := by unfold g_ct; rw [hc]; exact cl (by omega)
  have hka := C.attk hr hi hqa
  have hl := C.w.lt (q := qa) (by rw [hka]; decide)
  have h3 : ¬ D 14 (30 * r + i) = 3 := by rcases h01 with z | z <;> rw [z] <;> decide
  obtain ⟨a1, a2⟩ := C.att hr hi
  have hz : ¬ D 13 (30 * r + i) = 0 := fun z => by rw [a1 z] at hqa; cases hqa
  obtain ⟨q', k', e1, e2, e3, e4, e5, e6, e7, e8, e9, -⟩ := a2 hz
  rw [hqa] at e1
  cases e1
  have hkk : k' = k := by rw [hc] at e4; exact ((neq (by omega) (by omega)).mp e4).symm
  subst hkk
  obtain ⟨l1, l2⟩ := g_log_seq hct
  rcases Nat.eq_zero_or_pos k' with rfl | hpos
  · refine EX.mono (c_At_countOrder0 hka e6 ho) fun x N hv => ?_
    obtain ⟨rfl, rfl⟩ := hv
    refine ⟨rfl, log_cW C hr hi hqa hc hk h3 cnt_fr (cnt_wf C.w hl) (by simp [cntM, mI_SetI]) (by simp [cntM, mI_SetI]; rfl) (by simp [cntM, mI_SetI]) (fun _ => ?_), cnt_fr⟩
    rw [Nat.add_zero] at l1 l2
    refine ⟨?_, ?_, ?_⟩
    · simp [cntM, mI_SetI, g_apU, b01]
    · simp [cntM, mI_SetI, g_apU, l1]
    · simp [cntM, mI_SetI, g_apU, l2]
  · obtain ⟨f1, f2, f3⟩ := e9 hpos h01
    have hk0 : ¬ nI k' = 0 := nne0 hpos (by omega)
    refine EX.mono (c_At_countOrder1 hka e6 hk0 f1 f2 f3 ho) fun x N hv => ?_
    obtain ⟨rfl, rfl⟩ := hv
    rw [p1]
    have eq : g_apU (g_log D (30 * r + i)) (30 * r + i) k' = g_apU D (30 * r + i) k' := g_apU_congr2 hpos (fun j hj => ⟨g_log_out hct (by omega) (by omega), g_log_out hct (by omega) (by omega)⟩)
    have z0 : g_log D (30 * r + i) 21 (4 * (30 * r + i)) = D 21 (4 * (30 * r + i)) := g_log_out hct (by omega) (by omega)
    have z1 : g_log D (30 * r + i) 22 (4 * (30 * r + i)) = D 22 (4 * (30 * r + i)) := g_log_out hct (by omega) (by omega)
    refine ⟨rfl, log_cW C hr hi hqa hc hk h3 cnt_fr (cnt_wf C.w hl) (by simp [cntM, mI_SetI]) (by simp [cntM, mI_SetI]) (by simp only [cntM, mI_SetI, Nat.reduceEqDiff, false_and, if_false, and_self, if_true]; exact b01_01 _) (fun _ => ?_), cnt_fr⟩
    rw [g_apU, eq, l1, l2, z0, z1]
    refine ⟨?_, ?_, ?_⟩
    · simp only [cntM, mI_SetI, Nat.reduceEqDiff, false_and, if_false, and_self, if_true]
      congr 1
      cases hal : (g_apU D (30 * r + i) k').1
      · simp
      · obtain ⟨k2, rfl⟩ : ∃ m, k' = m + 1 := ⟨k' - 1, by omega⟩
        obtain ⟨y1, y2⟩ := ap_alike hal
        rw [y1, y2]
    · simp only [cntM, mI_SetI, Nat.reduceEqDiff, false_and, if_false, and_self, if_true]
      exact max_le _ _
    · simp only [cntM, mI_SetI, Nat.reduceEqDiff, false_and, if_false, and_self, if_true]
end HAND5
