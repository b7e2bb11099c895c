section MC3
variable {M : me_M} {m : Nat} {D : me_D} {n r i : Nat}
/-- at most 40 messages are under way -/
def uOK (D : me_D) : Prop := ∃ u, D 1666 0 = nI u ∧ u ≤ 40
theorem g_mail_ne {k : Nat} {kind fr to i b : Int32} {a j x : Nat} (h : ¬ j = 24) : g_mail D k kind fr to i b a j x = D j x := by
  unfold g_mail
  simp only [dU_ne _ h]
theorem g_send_ne {kind b : Int32} {fr to i j x : Nat} (h1 : ¬ j = 24) (h2 : ¬ j = 1666) (h3 : ¬ j = 1667) : g_send D kind fr to i b j x = D j x := by
  unfold g_send
  split
  · rw [dU_ne _ h3]
  · rw [dU_ne _ h2, g_mail_ne h1]
theorem uOK_send {kind b : Int32} {fr to i : Nat} (h : uOK D) : uOK (g_send D kind fr to i b) := by
  obtain ⟨u, hu, h40⟩ := h
  unfold g_send
  split
  · exact ⟨u, by rw [dU_ne _ (by decide)]; exact hu, h40⟩
  · rename_i h
    refine ⟨u + 1, by rw [dU_eq, hu, p1], ?_⟩
    rcases Nat.lt_or_ge u 40 with h1 | h1
    · omega
    · have : u = 40 := by omega
      subst this
      exact absurd hu h
theorem c_Md_send' (H : mdl M m) {to : Nat} (hu : uOK D) (hr : r < 5) (hi : i < 30) {kind b : Int32} : EX eL X_Md_send 0 [some (.inr (some m)), some (.inl kind), some (.inl (nI r)), some (.inl (nI to)), some (.inl (nI i)), some (.inl b), none, none] [] (sD M m D) (fun w N => w = none ∧ N = sD M m (g_send D kind r to i b)) := by
  obtain ⟨u, h1, h2⟩ := hu
  exact c_Md_send H h1 h2 hr hi
theorem g_allU_ne {kind b : Int32} {fr i j x : Nat} (h1 : ¬ j = 24) (h2 : ¬ j = 1666) (h3 : ¬ j = 1667) (t : Nat) : g_allU D kind fr i b t j x = D j x := by
  induction t with
  | zero => rfl
  | succ t ih =>
    rw [g_allU]
    split
    · exact ih
    · rw [g_send_ne h1 h2 h3]; exact ih
theorem uOK_allU {kind b : Int32} {fr i : Nat} (h : uOK D) (t : Nat) : uOK (g_allU D kind fr i b t) := by
  induction t with
  | zero => exact h
  | succ t ih =>
    rw [g_allU]
    split
    · exact ih
    · exact uOK_send ih
theorem c_Md_sendAll (H : mdl M m) (hN : D 1640 0 = nI n) (hn : n ≤ 5) (hu : uOK D) (hr : r < 5) (hi : i < 30) {kind b : Int32} : EX eL X_Md_sendAll 0 [some (.inr (some m)), some (.inl kind), some (.inl (nI r)), some (.inl (nI i)), some (.inl b), none] [] (sD M m D) (fun w N => w = none ∧ N = sD M m (g_all D n kind r i b)) := by
  refine sg_Md_sendAll_0 ?_
  have loop : ∀ k t, k + t = n → EX eL X_Md_sendAll 3 [some (.inr (some m)), some (.inl kind), some (.inl (nI r)), some (.inl (nI i)), some (.inl b), some (.inl (nI t))] [] (sD M m (g_allU D kind r i b t)) (fun w N => w = none ∧ N = sD M m (g_all D n kind r i b)) := by
    intro k
    induction k with
    | zero =>
      intro t ht
      have ht : t = n := by omega
      subst ht
      refine sg_Md_sendAll_3 ?_
      simp (disch := omega) only [mKd_sD, mLn_sD, mR_sD, md_K H, md_R1 H, md_K1 H, md_L1 H, mI_sD1, mS_sD1, md_R2 H, md_K2 H, md_L2 H, mI_sD2, mS_sD2, md_R3 H, md_K3 H, md_L3 H, mI_sD3, mS_sD3, md_R4 H, md_K4 H, md_L4 H, mI_sD4, mS_sD4, md_R5 H, md_K5 H, md_L5 H, mI_sD5, mS_sD5, md_R6 H, md_K6 H, md_L6 H, mI_sD6, mS_sD6, md_R7 H, md_K7 H, md_L7 H, mI_sD7, mS_sD7, md_R8 H, md_K8 H, md_L8 H, mI_sD8, mS_sD8, md_R9 H, md_K9 H, md_L9 H, mI_sD9, mS_sD9, md_R10 H, md_K10 H, md_L10 H, mI_sD10, mS_sD10, md_R11 H, md_K11 H, md_L11 H, mI_sD11, mS_sD11, md_R12 H, md_K12 H, md_L12 H, mI_sD12, mS_sD12, md_R13 H, md_K13 H, md_L13 H, mI_sD13, mS_sD13, md_R14 H, md_K14 H, md_L14 H, mI_sD14, mS_sD14, md_R15 H, md_K15 H, md_L15 H, mI_sD15, mS_sD15, md_R16 H, md_K16 H, md_L16 H, mI_sD16, mS_sD16, md_R17 H, md_K17 H, md_L17 H, mI_sD17, mS_sD17, md_R18 H, md_K18 H, md_L18 H, mI_sD18, mS_sD18, md_R19 H, md_K19 H, md_L19 H, mI_sD19, mS_sD19, md_R20 H, md_K20 H, md_L20 H, mI_sD20, mS_sD20, md_R21 H, md_K21 H, md_L21 H, mI_sD21, mS_sD21, md_R22 H, md_K22 H, md_L22 H, mI_sD22, mS_sD22, md_R23 H, md_K23 H, md_L23 H, mI_sD23, mS_sD23, md_R24 H, md_K24 H, md_L24 H, mI_sD24, mS_sD24, md_R25 H, md_K25 H, md_L25 H, mI_sD25, mS_sD25, mI_sDs1640, mS_sDs1640, mI_sDs1641, mS_sDs1641, mI_sDs1642, mS_sDs1642, mI_sDs1666, mS_sDs1666, mI_sDs1667, mS_sDs1667, forall_eq, Option.some.injEq, exists_eq_left', true_and, nle, g_allU_ne, hN]
      exact ⟨fun _ => rfl, fun h => absurd (Nat.le_refl _) h⟩
    | succ k ih =>
      intro t ht
      have go := ih (t + 1) (by omega)
      rw [g_allU] at go
      refine sg_Md_sendAll_3 ?_
      simp (disch := omega) only [mKd_sD, mLn_sD, mR_sD, md_K H, md_R1 H, md_K1 H, md_L1 H, mI_sD1, mS_sD1, md_R2 H, md_K2 H, md_L2 H, mI_sD2, mS_sD2, md_R3 H, md_K3 H, md_L3 H, mI_sD3, mS_sD3, md_R4 H, md_K4 H, md_L4 H, mI_sD4, mS_sD4, md_R5 H, md_K5 H, md_L5 H, mI_sD5, mS_sD5, md_R6 H, md_K6 H, md_L6 H, mI_sD6, mS_sD6, md_R7 H, md_K7 H, md_L7 H, mI_sD7, mS_sD7, md_R8 H, md_K8 H, md_L8 H, mI_sD8, mS_sD8, md_R9 H, md_K9 H, md_L9 H, mI_sD9, mS_sD9, md_R10 H, md_K10 H, md_L10 H, mI_sD10, mS_sD10, md_R11 H, md_K11 H, md_L11 H, mI_sD11, mS_sD11, md_R12 H, md_K12 H, md_L12 H, mI_sD12, mS_sD12, md_R13 H, md_K13 H, md_L13 H, mI_sD13, mS_sD13, md_R14 H, md_K14 H, md_L14 H, mI_sD14, mS_sD14, md_R15 H, md_K15 H, md_L15 H, mI_sD15, mS_sD15, md_R16 H, md_K16 H, md_L16 H, mI_sD16, mS_sD16, md_R17 H, md_K17 H, md_L17 H, mI_sD17, mS_sD17, md_R18 H, md_K18 H, md_L18 H, mI_sD18, mS_sD18, md_R19 H, md_K19 H, md_L19 H, mI_sD19, mS_sD19, md_R20 H, md_K20 H, md_L20 H, mI_sD20, mS_sD20, md_R21 H, md_K21 H, md_L21 H, mI_sD21, mS_sD21, md_R22 H, md_K22 H, md_L22 H, mI_sD22, mS_sD22, md_R23 H, md_K23 H, md_L23 H, mI_sD23, mS_sD23, md_R24 H, md_K24 H, md_L24 H, mI_sD24, mS_sD24, md_R25 H, md_K25 H, md_L25 H, mI_sD25, mS_sD25, mI_sDs1640, mS_sDs1640, mI_sDs1641, mS_sDs1641, mI_sDs1642, mS_sDs1642, mI_sDs1666, mS_sDs1666, mI_sDs1667, mS_sDs1667, forall_eq, Option.some.injEq, exists_eq_left', true_and, nle, g_allU_ne, hN, neq, nI_i1]
      refine ⟨fun h => absurd h (by omega), fun _ => ⟨fun h => ?_, fun h => ?_⟩⟩
      · rw [if_pos h] at go; exact go
      · rw [if_neg h] at go
        refine EX.mono (c_Md_send' H (uOK_allU hu t) hr hi) fun w N hv => ?_
        obtain ⟨rfl, rfl⟩ := hv
        exact ⟨rfl, go⟩
  exact loop n 0 (by omega)
theorem c_Md_known (H : mdl M m) (hN : D 1640 0 = nI n) (hI : D 1642 0 = nI (6 * n)) {v w : Int32} : EX eL X_Md_known 0 [some (.inr (some m)), some (.inl v), some (.inl w)] [] (sD M m D) (fun x N => x = some (.inl (b01 (decide (0 ≤ v ∧ v < nI n ∧ 0 ≤ w ∧ w < nI (6 * n))))) ∧ N = sD M m D) := by
  refine sg_Md_known_0 ?_
  simp only [mKd_sD, mLn_sD, mR_sD, md_K H, md_R1 H, md_K1 H, md_L1 H, mI_sD1, mS_sD1, md_R2 H, md_K2 H, md_L2 H, mI_sD2, mS_sD2, md_R3 H, md_K3 H, md_L3 H, mI_sD3, mS_sD3, md_R4 H, md_K4 H, md_L4 H, mI_sD4, mS_sD4, md_R5 H, md_K5 H, md_L5 H, mI_sD5, mS_sD5, md_R6 H, md_K6 H, md_L6 H, mI_sD6, mS_sD6, md_R7 H, md_K7 H, md_L7 H, mI_sD7, mS_sD7, md_R8 H, md_K8 H, md_L8 H, mI_sD8, mS_sD8, md_R9 H, md_K9 H, md_L9 H, mI_sD9, mS_sD9, md_R10 H, md_K10 H, md_L10 H, mI_sD10, mS_sD10, md_R11 H, md_K11 H, md_L11 H, mI_sD11, mS_sD11, md_R12 H, md_K12 H, md_L12 H, mI_sD12, mS_sD12, md_R13 H, md_K13 H, md_L13 H, mI_sD13, mS_sD13, md_R14 H, md_K14 H, md_L14 H, mI_sD14, mS_sD14, md_R15 H, md_K15 H, md_L15 H, mI_sD15, mS_sD15, md_R16 H, md_K16 H, md_L16 H, mI_sD16, mS_sD16, md_R17 H, md_K17 H, md_L17 H, mI_sD17, mS_sD17, md_R18 H, md_K18 H, md_L18 H, mI_sD18, mS_sD18, md_R19 H, md_K19 H, md_L19 H, mI_sD19, mS_sD19, md_R20 H, md_K20 H, md_L20 H, mI_sD20, mS_sD20, md_R21 H, md_K21 H, md_L21 H, mI_sD21, mS_sD21, md_R22 H, md_K22 H, md_L22 H, mI_sD22, mS_sD22, md_R23 H, md_K23 H, md_L23 H, mI_sD23, mS_sD23, md_R24 H, md_K24 H, md_L24 H, mI_sD24, mS_sD24, md_R25 H, md_K25 H, md_L25 H, mI_sD25, mS_sD25, mI_sDs1640, mS_sDs1640, mI_sDs1641, mS_sDs1641, mI_sDs1642, mS_sDs1642, mI_sDs1666, mS_sDs1666, mI_sDs1667, mS_sDs1667, forall_eq, Option.some.injEq, exists_eq_left', true_and, hN, hI, and_true, Sum.inl.injEq, b01, decide_eq_true_eq]
  have e1 : ∀ x : Int32, x < 0 ↔ ¬ 0 ≤ x := fun x => (Int32.not_le).symm
  have e2 : ∀ x y : Int32, y ≤ x ↔ ¬ x < y := fun x y => (Int32.not_lt).symm
  simp only [e1, Classical.not_not]
  by_cases h1 : 0 ≤ v <;> by_cases h2 : v < nI n <;> by_cases h3 : 0 ≤ w <;> by_cases h4 : w < nI (6 * n) <;> simp [h1, h2, h3, h4, Int32.not_le, Int32.not_lt] <;> simp_all [Int32.not_le, Int32.not_lt]
end MC3
