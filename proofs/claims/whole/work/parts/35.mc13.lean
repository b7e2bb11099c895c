theorem nx_and (a b : Nat) : nI a &&& nI b = nI (a &&& b) := by
  apply Int32.toBitVec_inj.1
  show BitVec.ofNat 32 a &&& BitVec.ofNat 32 b = BitVec.ofNat 32 (a &&& b)
  apply BitVec.eq_of_getLsbD_eq
  intro i hi
  simp [hi]
theorem wb_of32 (x : Int32) : ∃ n, n < 2 ^ 32 ∧ x = nI n := ⟨x.toBitVec.toNat, x.toBitVec.isLt, Int32.toBitVec_inj.mp (by show _ = BitVec.ofNat 32 _; simp)⟩
theorem and3 (x : Int32) : ∃ c, c ≤ 3 ∧ x &&& 3 = nI c := by
  obtain ⟨n, -, rfl⟩ := wb_of32 x
  exact ⟨n &&& 3, Nat.and_le_right, nx_and n 3⟩
theorem dec1 (x : Int32) : x + Int32.ofInt (-1) = x - 1 := by rw [Int32.sub_eq_add_neg]; rfl
section MC13
variable {M : me_M} {m : Nat} {D : me_D} {n r i : Nat}
def g_nb (D : me_D) (r j : Nat) (b : Option Nat) : Bool := match b with
  | none => true
  | some q => decide (¬ D 7 (30 * r + q) < D 7 (30 * r + j))
theorem nxtU_s {s : Int32} {j : Nat} {b : Option Nat} : g_nxtU D r s (j + 1) b = g_nxtU D r s j (if bt s j = true ∧ g_nb D r j b = true then some j else b) := by cases b <;> rfl
theorem nxt_lt {s : Int32} : ∀ {k : Nat} {b : Option Nat} {q : Nat}, g_nxtU D r s k b = some q → q < k ∨ b = some q := by
  intro k
  induction k with
  | zero => intro b q h; exact Or.inr h
  | succ k ih =>
    intro b q h
    rw [nxtU_s] at h
    rcases ih h with h1 | h1
    · left; omega
    · by_cases hc : bt s k = true ∧ g_nb D r k b = true
      · rw [if_pos hc] at h1
        cases h1; left; omega
      · rw [if_neg hc] at h1
        exact Or.inr h1
theorem nxt_none {s : Int32} : ∀ {k : Nat} {b : Option Nat}, g_nxtU D r s k b = none → b = none ∧ ∀ j, j < k → bt s j = false := by
  intro k
  induction k with
  | zero => intro b h; exact ⟨h, fun j hj => by omega⟩
  | succ k ih =>
    intro b h
    rw [nxtU_s] at h
    obtain ⟨h1, h2⟩ := ih h
    by_cases hc : bt s k = true ∧ g_nb D r k b = true
    · rw [if_pos hc] at h1; cases h1
    · rw [if_neg hc] at h1
      subst h1
      refine ⟨rfl, fun j hj => ?_⟩
      by_cases hj2 : j = k
      · subst hj2
        cases hb : bt s j
        · rfl
        · exact absurd ⟨hb, rfl⟩ hc
      · exact h2 j (by omega)
theorem c_Md_next (H : mdl M m) (hI : D 1642 0 = nI (6 * n)) (hn : n ≤ 5) (hn0 : 0 < n) (hr : r < 5) {s : Int32} : EX eL X_Md_next 0 [some (.inr (some m)), some (.inl (nI r)), some (.inl s), none, none] [] (sD M m D) (fun w N => w = some (.inl (oI (g_nxtU D r s (6 * n) none))) ∧ N = sD M m D) := by
  refine sg_Md_next_0 ?_
  have loop : ∀ k b, k ≤ 30 → (∀ q, b = some q → q < 30) → g_nxtU D r s (6 * n) none = g_nxtU D r s k b → EX eL X_Md_next 10 [some (.inr (some m)), some (.inl (nI r)), some (.inl s), some (.inl (oI b)), some (.inl (nI k - 1))] [] (sD M m D) (fun w N => w = some (.inl (oI (g_nxtU D r s (6 * n) none))) ∧ N = sD M m D) := by
    intro k
    induction k with
    | zero =>
      intro b _ hb hg
      refine sg_Md_next_10 ?_
      exact ⟨fun _ => ⟨by rw [hg]; rfl, rfl⟩, fun h => absurd (by decide) h⟩
    | succ k ih =>
      intro b hk hb hg
      conv at hg => rhs; rw [nxtU_s]
      rw [nI_pred]
      refine sg_Md_next_10 ?_
      simp (disch := omega) only [mKd_sD, mLn_sD, mR_sD, md_K H, md_R1 H, md_K1 H, md_L1 H, mI_sD1, mS_sD1, md_R2 H, md_K2 H, md_L2 H, mI_sD2, mS_sD2, md_R3 H, md_K3 H, md_L3 H, mI_sD3, mS_sD3, md_R4 H, md_K4 H, md_L4 H, mI_sD4, mS_sD4, md_R5 H, md_K5 H, md_L5 H, mI_sD5, mS_sD5, md_R6 H, md_K6 H, md_L6 H, mI_sD6, mS_sD6, md_R7 H, md_K7 H, md_L7 H, mI_sD7, mS_sD7, md_R8 H, md_K8 H, md_L8 H, mI_sD8, mS_sD8, md_R9 H, md_K9 H, md_L9 H, mI_sD9, mS_sD9, md_R10 H, md_K10 H, md_L10 H, mI_sD10, mS_sD10, md_R11 H, md_K11 H, md_L11 H, mI_sD11, mS_sD11, md_R12 H, md_K12 H, md_L12 H, mI_sD12, mS_sD12, md_R13 H, md_K13 H, md_L13 H, mI_sD13, mS_sD13, md_R14 H, md_K14 H, md_L14 H, mI_sD14, mS_sD14, md_R15 H, md_K15 H, md_L15 H, mI_sD15, mS_sD15, md_R16 H, md_K16 H, md_L16 H, mI_sD16, mS_sD16, md_R17 H, md_K17 H, md_L17 H, mI_sD17, mS_sD17, md_R18 H, md_K18 H, md_L18 H, mI_sD18, mS_sD18, md_R19 H, md_K19 H, md_L19 H, mI_sD19, mS_sD19, md_R20 H, md_K20 H, md_L20 H, mI_sD20, mS_sD20, md_R21 H, md_K21 H, md_L21 H, mI_sD21, mS_sD21, md_R22 H, md_K22 H, md_L22 H, mI_sD22, mS_sD22, md_R23 H, md_K23 H, md_L23 H, mI_sD23, mS_sD23, md_R24 H, md_K24 H, md_L24 H, mI_sD24, mS_sD24, md_R25 H, md_K25 H, md_L25 H, mI_sD25, mS_sD25, mI_sDs1640, mS_sDs1640, mI_sDs1641, mS_sDs1641, mI_sDs1642, mS_sDs1642, mI_sDs1666, mS_sDs1666, mI_sDs1667, mS_sDs1667, vi440, cl440, vi441, cl441, vi442, cl442, vi443, cl443, vi444, cl444, vi445, cl445, vi446, cl446, vi447, cl447, vi448, cl448, vi449, cl449, vi450, cl450, forall_eq, Option.some.injEq, exists_eq_left', true_and, m30, m11, m6, m4, nI_add, p1, p2, p3, p4, p5, p6, p7, p8, p9, p10, p11, p440, vin, cl, nle, nlt, neq, nI_i1, dU_ne, dec1, bt_1]
      refine ⟨fun h => absurd h (nI_pos (by omega)), fun _ => ⟨fun h => ?_, fun h => ⟨fun h2 => ?_, fun h2 => ?_⟩⟩⟩
      · rw [if_neg (fun z => h z.1)] at hg
        exact ih b (by omega) hb hg
      · cases b with
        | none =>
          rw [if_pos ⟨h, rfl⟩] at hg
          exact ih (some k) (by omega) (fun q hq => by cases hq; omega) hg
        | some q => exact absurd h2 (nI_pos (by have := hb q rfl; omega))
      · cases b with
        | none => exact absurd m1neg h2
        | some q =>
          have hq := hb q rfl
          simp (disch := omega) only [mKd_sD, mLn_sD, mR_sD, md_K H, md_R1 H, md_K1 H, md_L1 H, mI_sD1, mS_sD1, md_R2 H, md_K2 H, md_L2 H, mI_sD2, mS_sD2, md_R3 H, md_K3 H, md_L3 H, mI_sD3, mS_sD3, md_R4 H, md_K4 H, md_L4 H, mI_sD4, mS_sD4, md_R5 H, md_K5 H, md_L5 H, mI_sD5, mS_sD5, md_R6 H, md_K6 H, md_L6 H, mI_sD6, mS_sD6, md_R7 H, md_K7 H, md_L7 H, mI_sD7, mS_sD7, md_R8 H, md_K8 H, md_L8 H, mI_sD8, mS_sD8, md_R9 H, md_K9 H, md_L9 H, mI_sD9, mS_sD9, md_R10 H, md_K10 H, md_L10 H, mI_sD10, mS_sD10, md_R11 H, md_K11 H, md_L11 H, mI_sD11, mS_sD11, md_R12 H, md_K12 H, md_L12 H, mI_sD12, mS_sD12, md_R13 H, md_K13 H, md_L13 H, mI_sD13, mS_sD13, md_R14 H, md_K14 H, md_L14 H, mI_sD14, mS_sD14, md_R15 H, md_K15 H, md_L15 H, mI_sD15, mS_sD15, md_R16 H, md_K16 H, md_L16 H, mI_sD16, mS_sD16, md_R17 H, md_K17 H, md_L17 H, mI_sD17, mS_sD17, md_R18 H, md_K18 H, md_L18 H, mI_sD18, mS_sD18, md_R19 H, md_K19 H, md_L19 H, mI_sD19, mS_sD19, md_R20 H, md_K20 H, md_L20 H, mI_sD20, mS_sD20, md_R21 H, md_K21 H, md_L21 H, mI_sD21, mS_sD21, md_R22 H, md_K22 H, md_L22 H, mI_sD22, mS_sD22, md_R23 H, md_K23 H, md_L23 H, mI_sD23, mS_sD23, md_R24 H, md_K24 H, md_L24 H, mI_sD24, mS_sD24, md_R25 H, md_K25 H, md_L25 H, mI_sD25, mS_sD25, mI_sDs1640, mS_sDs1640, mI_sDs1641, mS_sDs1641, mI_sDs1642, mS_sDs1642, mI_sDs1666, mS_sDs1666, mI_sDs1667, mS_sDs1667, vi440, cl440, vi441, cl441, vi442, cl442, vi443, cl443, vi444, cl444, vi445, cl445, vi446, cl446, vi447, cl447, vi448, cl448, vi449, cl449, vi450, cl450, forall_eq, Option.some.injEq, exists_eq_left', true_and, m30, m11, m6, m4, nI_add, p1, p2, p3, p4, p5, p6, p7, p8, p9, p10, p11, p440, vin, cl, nle, nlt, neq, nI_i1, dU_ne, oI]
          refine ⟨fun h3 => ?_, fun h3 => ?_⟩
          · rw [if_neg (fun z => by simp only [g_nb, decide_eq_true_eq] at z; exact z.2 h3)] at hg
            exact ih (some q) (by omega) hb hg
          · rw [if_pos ⟨h, by simp only [g_nb, decide_eq_true_eq]; exact h3⟩] at hg
            exact ih (some k) (by omega) (fun q hq => by cases hq; omega) hg
  simp (disch := omega) only [mKd_sD, mLn_sD, mR_sD, md_K H, md_R1 H, md_K1 H, md_L1 H, mI_sD1, mS_sD1, md_R2 H, md_K2 H, md_L2 H, mI_sD2, mS_sD2, md_R3 H, md_K3 H, md_L3 H, mI_sD3, mS_sD3, md_R4 H, md_K4 H, md_L4 H, mI_sD4, mS_sD4, md_R5 H, md_K5 H, md_L5 H, mI_sD5, mS_sD5, md_R6 H, md_K6 H, md_L6 H, mI_sD6, mS_sD6, md_R7 H, md_K7 H, md_L7 H, mI_sD7, mS_sD7, md_R8 H, md_K8 H, md_L8 H, mI_sD8, mS_sD8, md_R9 H, md_K9 H, md_L9 H, mI_sD9, mS_sD9, md_R10 H, md_K10 H, md_L10 H, mI_sD10, mS_sD10, md_R11 H, md_K11 H, md_L11 H, mI_sD11, mS_sD11, md_R12 H, md_K12 H, md_L12 H, mI_sD12, mS_sD12, md_R13 H, md_K13 H, md_L13 H, mI_sD13, mS_sD13, md_R14 H, md_K14 H, md_L14 H, mI_sD14, mS_sD14, md_R15 H, md_K15 H, md_L15 H, mI_sD15, mS_sD15, md_R16 H, md_K16 H, md_L16 H, mI_sD16, mS_sD16, md_R17 H, md_K17 H, md_L17 H, mI_sD17, mS_sD17, md_R18 H, md_K18 H, md_L18 H, mI_sD18, mS_sD18, md_R19 H, md_K19 H, md_L19 H, mI_sD19, mS_sD19, md_R20 H, md_K20 H, md_L20 H, mI_sD20, mS_sD20, md_R21 H, md_K21 H, md_L21 H, mI_sD21, mS_sD21, md_R22 H, md_K22 H, md_L22 H, mI_sD22, mS_sD22, md_R23 H, md_K23 H, md_L23 H, mI_sD23, mS_sD23, md_R24 H, md_K24 H, md_L24 H, mI_sD24, mS_sD24, md_R25 H, md_K25 H, md_L25 H, mI_sD25, mS_sD25, mI_sDs1640, mS_sDs1640, mI_sDs1641, mS_sDs1641, mI_sDs1642, mS_sDs1642, mI_sDs1666, mS_sDs1666, mI_sDs1667, mS_sDs1667, vi440, cl440, vi441, cl441, vi442, cl442, vi443, cl443, vi444, cl444, vi445, cl445, vi446, cl446, vi447, cl447, vi448, cl448, vi449, cl449, vi450, cl450, forall_eq, Option.some.injEq, exists_eq_left', true_and, m30, m11, m6, m4, nI_add, p1, p2, p3, p4, p5, p6, p7, p8, p9, p10, p11, p440, vin, cl, nle, nlt, neq, nI_i1, dU_ne, hI]
  exact loop (6 * n) none (by omega) (fun q hq => by cases hq) rfl
theorem g_act_ne {j x : Nat} (h1 : ¬ j = 12) (h2 : ¬ j = 2) (h3 : ¬ j = 4) (h4 : ¬ j = 11) (h5 : ¬ j = 3) : g_act D r i j x = D j x := by
  unfold g_act
  rw [dU_ne _ h5, dU_ne _ h4, dU_ne _ h3]
  split
  · rw [dU_ne _ h2, dU_ne _ h1]
  · rw [dU_ne _ h1]
set_option maxHeartbeats 2000000 in
theorem c_Md_act (H : mdl M m) (hr : r < 5) (hi : i < 30) : EX eL X_Md_act 0 [some (.inr (some m)), some (.inl (nI r)), some (.inl (nI i)), none, none] [] (sD M m D) (fun w N => w = none ∧ N = sD M m (g_act D r i)) := by
  refine sg_Md_act_0 ?_
  obtain ⟨c, hc, he⟩ := and3 (D 5 (30 * r + i))
  have hce : g_cellOf D r (30 * r + i) = 4 * r + c := by unfold g_cellOf; rw [he, cl (by omega)]
  simp (maxSteps := 2000000) (disch := omega) only [mKd_sD, mLn_sD, mR_sD, md_K H, md_R1 H, md_K1 H, md_L1 H, mI_sD1, mS_sD1, md_R2 H, md_K2 H, md_L2 H, mI_sD2, mS_sD2, md_R3 H, md_K3 H, md_L3 H, mI_sD3, mS_sD3, md_R4 H, md_K4 H, md_L4 H, mI_sD4, mS_sD4, md_R5 H, md_K5 H, md_L5 H, mI_sD5, mS_sD5, md_R6 H, md_K6 H, md_L6 H, mI_sD6, mS_sD6, md_R7 H, md_K7 H, md_L7 H, mI_sD7, mS_sD7, md_R8 H, md_K8 H, md_L8 H, mI_sD8, mS_sD8, md_R9 H, md_K9 H, md_L9 H, mI_sD9, mS_sD9, md_R10 H, md_K10 H, md_L10 H, mI_sD10, mS_sD10, md_R11 H, md_K11 H, md_L11 H, mI_sD11, mS_sD11, md_R12 H, md_K12 H, md_L12 H, mI_sD12, mS_sD12, md_R13 H, md_K13 H, md_L13 H, mI_sD13, mS_sD13, md_R14 H, md_K14 H, md_L14 H, mI_sD14, mS_sD14, md_R15 H, md_K15 H, md_L15 H, mI_sD15, mS_sD15, md_R16 H, md_K16 H, md_L16 H, mI_sD16, mS_sD16, md_R17 H, md_K17 H, md_L17 H, mI_sD17, mS_sD17, md_R18 H, md_K18 H, md_L18 H, mI_sD18, mS_sD18, md_R19 H, md_K19 H, md_L19 H, mI_sD19, mS_sD19, md_R20 H, md_K20 H, md_L20 H, mI_sD20, mS_sD20, md_R21 H, md_K21 H, md_L21 H, mI_sD21, mS_sD21, md_R22 H, md_K22 H, md_L22 H, mI_sD22, mS_sD22, md_R23 H, md_K23 H, md_L23 H, mI_sD23, mS_sD23, md_R24 H, md_K24 H, md_L24 H, mI_sD24, mS_sD24, md_R25 H, md_K25 H, md_L25 H, mI_sD25, mS_sD25, mI_sDs1640, mS_sDs1640, mI_sDs1641, mS_sDs1641, mI_sDs1642, mS_sDs1642, mI_sDs1666, mS_sDs1666, mI_sDs1667, mS_sDs1667, vi440, cl440, vi441, cl441, vi442, cl442, vi443, cl443, vi444, cl444, vi445, cl445, vi446, cl446, vi447, cl447, vi448, cl448, vi449, cl449, vi450, cl450, forall_eq, Option.some.injEq, exists_eq_left', true_and, m30, m11, m6, m4, nI_add, p1, p2, p3, p4, p5, p6, p7, p8, p9, p10, p11, p440, vin, cl, nle, nlt, neq, nI_i1, dU_ne, he]
  simp only [g_act, hce]
  refine ⟨fun h => ⟨fun h2 => ?_, fun h2 => ⟨fun h3 => ?_, fun h3 => ?_⟩⟩, fun h => ⟨fun h2 => ?_, fun h2 => ⟨fun h3 => ?_, fun h3 => ?_⟩⟩⟩
  · rw [if_neg h, if_neg (fun z => Int32.not_le.mpr h2 z.1)]
  · rw [if_neg h, if_neg (fun z => Int32.not_le.mpr z.2 h3)]
  · rw [if_neg h, if_pos ⟨Int32.not_lt.mp h2, Int32.not_le.mp h3⟩]
  · rw [if_pos h, if_neg (fun z => Int32.not_le.mpr h2 z.1)]
  · rw [if_pos h, if_neg (fun z => Int32.not_le.mpr z.2 h3)]
  · rw [if_pos h, if_pos ⟨Int32.not_lt.mp h2, Int32.not_le.mp h3⟩]
theorem comp_bt {k j : Nat} : ∀ {t : Nat}, t ≤ 32 → j < 32 → bt (g_compU D k t) j = true → j < t := by
  intro t
  induction t with
  | zero => intro _ _ h; rw [g_compU, b_0] at h; cases h
  | succ t ih =>
    intro ht hj h
    rw [g_compU] at h
    split at h
    · rw [b_or, bt_s (by omega) hj, Bool.or_eq_true] at h
      rcases h with h | h
      · have := ih (by omega) hj h; omega
      · simp at h; omega
    · have := ih (by omega) hj h; omega
def sOK (n : Nat) (s : Int32) : Prop := ∀ j, j < 32 → bt s j = true → j < 6 * n
theorem sel_ok {D : me_D} (hn : n ≤ 5) : ∀ {k : Nat} {a : Int32}, sOK n a → sOK n (g_selU D n r k a) := by
  intro k
  induction k with
  | zero => intro a h; exact h
  | succ k ih =>
    intro a h
    rw [g_selU]
    refine ih ?_
    split
    · exact fun j hj hb => comp_bt (by omega) hj hb
    · exact h
set_option maxHeartbeats 2000000 in
theorem c_Md_execute_ok (H : mdl M m) (hN : D 1640 0 = nI n) (hI : D 1642 0 = nI (6 * n)) (hn : n ≤ 5) (hr : r < n) (hc : D 1 r = 0) : EX eL X_Md_execute 0 [some (.inr (some m)), some (.inl (nI r)), none, none, none, none, none, none] [] (sD M m D) (fun w N => w = some (.inl (g_exec D n r 3 r - D 3 r)) ∧ N = sD M m (g_exec D n r)) := by
  refine sg_Md_execute_0 ?_
  have stop : ∀ (E : me_D) (p : Nat) (h : sD M m E = sD M m (g_exec D n r) ∧ E 3 r = g_exec D n r 3 r), p < 100 → EX eL X_Md_execute 35 [some (.inr (some m)), some (.inl (nI r)), some (.inl (D 3 r)), some (.inl 0), some (.inl (nI p)), none, none, none] [] (sD M m E) (fun w N => w = some (.inl (g_exec D n r 3 r - D 3 r)) ∧ N = sD M m (g_exec D n r)) := by
    intro E p h hp
    refine sg_Md_execute_35 ?_
    simp (disch := omega) only [mKd_sD, mLn_sD, mR_sD, md_K H, md_R1 H, md_K1 H, md_L1 H, mI_sD1, mS_sD1, md_R2 H, md_K2 H, md_L2 H, mI_sD2, mS_sD2, md_R3 H, md_K3 H, md_L3 H, mI_sD3, mS_sD3, md_R4 H, md_K4 H, md_L4 H, mI_sD4, mS_sD4, md_R5 H, md_K5 H, md_L5 H, mI_sD5, mS_sD5, md_R6 H, md_K6 H, md_L6 H, mI_sD6, mS_sD6, md_R7 H, md_K7 H, md_L7 H, mI_sD7, mS_sD7, md_R8 H, md_K8 H, md_L8 H, mI_sD8, mS_sD8, md_R9 H, md_K9 H, md_L9 H, mI_sD9, mS_sD9, md_R10 H, md_K10 H, md_L10 H, mI_sD10, mS_sD10, md_R11 H, md_K11 H, md_L11 H, mI_sD11, mS_sD11, md_R12 H, md_K12 H, md_L12 H, mI_sD12, mS_sD12, md_R13 H, md_K13 H, md_L13 H, mI_sD13, mS_sD13, md_R14 H, md_K14 H, md_L14 H, mI_sD14, mS_sD14, md_R15 H, md_K15 H, md_L15 H, mI_sD15, mS_sD15, md_R16 H, md_K16 H, md_L16 H, mI_sD16, mS_sD16, md_R17 H, md_K17 H, md_L17 H, mI_sD17, mS_sD17, md_R18 H, md_K18 H, md_L18 H, mI_sD18, mS_sD18, md_R19 H, md_K19 H, md_L19 H, mI_sD19, mS_sD19, md_R20 H, md_K20 H, md_L20 H, mI_sD20, mS_sD20, md_R21 H, md_K21 H, md_L21 H, mI_sD21, mS_sD21, md_R22 H, md_K22 H, md_L22 H, mI_sD22, mS_sD22, md_R23 H, md_K23 H, md_L23 H, mI_sD23, mS_sD23, md_R24 H, md_K24 H, md_L24 H, mI_sD24, mS_sD24, md_R25 H, md_K25 H, md_L25 H, mI_sD25, mS_sD25, mI_sDs1640, mS_sDs1640, mI_sDs1641, mS_sDs1641, mI_sDs1642, mS_sDs1642, mI_sDs1666, mS_sDs1666, mI_sDs1667, mS_sDs1667, vi440, cl440, vi441, cl441, vi442, cl442, vi443, cl443, vi444, cl444, vi445, cl445, vi446, cl446, vi447, cl447, vi448, cl448, vi449, cl449, vi450, cl450, forall_eq, Option.some.injEq, exists_eq_left', true_and, m30, m11, m6, m4, nI_add, p1, p2, p3, p4, p5, p6, p7, p8, p9, p10, p11, p440, vin, cl, nle, nlt, neq, nI_i1, dU_ne]
    exact ⟨fun _ => ⟨by rw [h.2], h.1⟩, fun _ => ⟨fun _ => ⟨by rw [h.2], h.1⟩, fun h3 => absurd trivial h3⟩⟩
  have pass : ∀ t p E, t + p = 31 → E 1642 0 = nI (6 * n) → g_exec D n r = g_passU n r t E → EX eL X_Md_execute 35 [some (.inr (some m)), some (.inl (nI r)), some (.inl (D 3 r)), some (.inl 1), some (.inl (nI p)), none, none, none] [] (sD M m E) (fun w N => w = some (.inl (g_exec D n r 3 r - D 3 r)) ∧ N = sD M m (g_exec D n r)) := by
    intro t
    induction t with
    | zero =>
      intro p E hp hE hg
      have hp : p = 31 := by omega
      subst hp
      have hg : g_exec D n r = E := hg
      rw [hg]
      refine sg_Md_execute_35 ?_
      simp (disch := omega) only [mKd_sD, mLn_sD, mR_sD, md_K H, md_R1 H, md_K1 H, md_L1 H, mI_sD1, mS_sD1, md_R2 H, md_K2 H, md_L2 H, mI_sD2, mS_sD2, md_R3 H, md_K3 H, md_L3 H, mI_sD3, mS_sD3, md_R4 H, md_K4 H, md_L4 H, mI_sD4, mS_sD4, md_R5 H, md_K5 H, md_L5 H, mI_sD5, mS_sD5, md_R6 H, md_K6 H, md_L6 H, mI_sD6, mS_sD6, md_R7 H, md_K7 H, md_L7 H, mI_sD7, mS_sD7, md_R8 H, md_K8 H, md_L8 H, mI_sD8, mS_sD8, md_R9 H, md_K9 H, md_L9 H, mI_sD9, mS_sD9, md_R10 H, md_K10 H, md_L10 H, mI_sD10, mS_sD10, md_R11 H, md_K11 H, md_L11 H, mI_sD11, mS_sD11, md_R12 H, md_K12 H, md_L12 H, mI_sD12, mS_sD12, md_R13 H, md_K13 H, md_L13 H, mI_sD13, mS_sD13, md_R14 H, md_K14 H, md_L14 H, mI_sD14, mS_sD14, md_R15 H, md_K15 H, md_L15 H, mI_sD15, mS_sD15, md_R16 H, md_K16 H, md_L16 H, mI_sD16, mS_sD16, md_R17 H, md_K17 H, md_L17 H, mI_sD17, mS_sD17, md_R18 H, md_K18 H, md_L18 H, mI_sD18, mS_sD18, md_R19 H, md_K19 H, md_L19 H, mI_sD19, mS_sD19, md_R20 H, md_K20 H, md_L20 H, mI_sD20, mS_sD20, md_R21 H, md_K21 H, md_L21 H, mI_sD21, mS_sD21, md_R22 H, md_K22 H, md_L22 H, mI_sD22, mS_sD22, md_R23 H, md_K23 H, md_L23 H, mI_sD23, mS_sD23, md_R24 H, md_K24 H, md_L24 H, mI_sD24, mS_sD24, md_R25 H, md_K25 H, md_L25 H, mI_sD25, mS_sD25, mI_sDs1640, mS_sDs1640, mI_sDs1641, mS_sDs1641, mI_sDs1642, mS_sDs1642, mI_sDs1666, mS_sDs1666, mI_sDs1667, mS_sDs1667, vi440, cl440, vi441, cl441, vi442, cl442, vi443, cl443, vi444, cl444, vi445, cl445, vi446, cl446, vi447, cl447, vi448, cl448, vi449, cl449, vi450, cl450, forall_eq, Option.some.injEq, exists_eq_left', true_and, m30, m11, m6, m4, nI_add, p1, p2, p3, p4, p5, p6, p7, p8, p9, p10, p11, p440, vin, cl, nle, nlt, neq, nI_i1, dU_ne]
      exact ⟨fun _ => trivial, fun h => absurd (by decide) h⟩
    | succ t ih =>
      intro p E hp hE hg
      rw [g_passU] at hg
      have hp31 : ¬ (31 : Int32) ≤ nI p := fun z => by have := (nle (a := 31) (b := p) (by decide) (by omega)).mp z; omega
      refine sg_Md_execute_35 ⟨fun h => absurd h hp31, fun _ => ⟨fun h => absurd h (by decide), fun _ => ⟨md_K H, EX.mono (c_Md_reachable H hE hn (by omega)) fun w N hv => ?_⟩⟩⟩
      obtain ⟨rfl, rfl⟩ := hv
      have hF : g_reach E n r 1642 0 = nI (6 * n) := by rw [g_reach_ne (by decide)]; exact hE
      have run : ∀ t2 k G s (q : Int32), t2 + k = 30 → sOK n s → G 1642 0 = nI (6 * n) → EX eL X_Md_execute 35 [some (.inr (some m)), some (.inl (nI r)), some (.inl (D 3 r)), some (.inl q), some (.inl (nI (p + 1))), none, none, none] [] (sD M m (g_runU n r t2 G s)) (fun w N => w = some (.inl (g_exec D n r 3 r - D 3 r)) ∧ N = sD M m (g_exec D n r)) → EX eL X_Md_execute 114 [some (.inr (some m)), some (.inl (nI r)), some (.inl (D 3 r)), some (.inl q), some (.inl (nI p)), some (.inl s), some (.inl (nI k)), none] [] (sD M m G) (fun w N => w = some (.inl (g_exec D n r 3 r - D 3 r)) ∧ N = sD M m (g_exec D n r)) := by
        intro t2
        induction t2 with
        | zero =>
          intro k G s q hk hs hG go
          have hk : k = 30 := by omega
          subst hk
          refine sg_Md_execute_114 ⟨fun _ x hx => ?_, fun h => absurd (by decide) h⟩
          subst hx
          rw [nI_i1]
          exact go
        | succ t2 ih2 =>
          intro k G s q hk hs hG go
          have hk30 : ¬ (30 : Int32) ≤ nI k := fun z => by have := (nle (a := 30) (b := k) (by decide) (by omega)).mp z; omega
          rw [g_runU] at go
          refine sg_Md_execute_114 ⟨fun h => absurd h hk30, fun _ => ⟨fun h x hx => ?_, fun h => ⟨md_K H, EX.mono (c_Md_next H hG hn (by omega) (by omega)) fun w N hv => ?_⟩⟩⟩
          · subst hx
            rw [nI_i1]
            rw [if_pos h] at go
            exact go
          · obtain ⟨rfl, rfl⟩ := hv
            rw [if_neg h] at go
            cases hx : g_nxtU G r s (6 * n) none with
            | none =>
              exfalso
              have := (nxt_none hx).2
              refine h (bt_z.mpr fun j hj => ?_)
              cases hb : bt s j
              · rfl
              · rw [this j (hs j hj hb)] at hb; cases hb
            | some b =>
              rw [hx] at go
              have hb : b < 6 * n := by
                rcases nxt_lt hx with h1 | h1
                · exact h1
                · cases h1
              refine ⟨_, rfl, md_K H, EX.mono (c_Md_act H (by omega) (by omega)) fun w N hv => ?_⟩
              obtain ⟨rfl, rfl⟩ := hv
              refine ⟨rfl, fun x hx1 x2 hx2 => ?_⟩
              subst hx1 hx2
              simp only [oI, nI_i1]
              refine ih2 (k + 1) _ _ q (by omega) (fun j hj hbj => ?_) (by rw [g_act_ne (by decide) (by decide) (by decide) (by decide) (by decide)]; exact hG) go
              rw [b_and, Bool.and_eq_true] at hbj
              exact hs j hj hbj.1
      have sel : ∀ k a, k ≤ 30 → sOK n a → g_selU (g_reach E n r) n r (6 * n) 0 = g_selU (g_reach E n r) n r k a → EX eL X_Md_execute 62 [some (.inr (some m)), some (.inl (nI r)), some (.inl (D 3 r)), none, some (.inl (nI p)), some (.inl a), some (.inl (nI k - 1)), none] [] (sD M m (g_reach E n r)) (fun w N => w = some (.inl (g_exec D n r 3 r - D 3 r)) ∧ N = sD M m (g_exec D n r)) := by
        intro k
        induction k with
        | zero =>
          intro a _ ha hs
          have hs : g_selU (g_reach E n r) n r (6 * n) 0 = a := hs
          rw [hs] at hg
          refine sg_Md_execute_62 ⟨fun _ => ⟨fun h => ?_, fun h => ?_⟩, fun h => absurd (by decide) h⟩
          · rw [if_pos h] at hg
            refine run 30 0 _ _ 0 (by omega) ha hF ?_
            rw [show g_runU n r 30 (g_reach E n r) a = g_reach E n r by rw [g_runU, if_pos h]]
            exact stop _ (p + 1) ⟨by rw [hg], by rw [hg]⟩ (by omega)
          · rw [if_neg h] at hg
            refine run 30 0 _ _ 1 (by omega) ha hF ?_
            refine ih (p + 1) _ (by omega) ?_ hg
            have ne : ∀ t G s, g_runU n r t G s 1642 0 = G 1642 0 := by
              intro t
              induction t with
              | zero => intro G s; rfl
              | succ t ih3 =>
                intro G s
                rw [g_runU]
                split
                · rfl
                · cases hx9 : g_nxtU G r s (6 * n) none with
                  | none => rfl
                  | some i9 =>
                    show g_runU n r t (g_act G r i9) _ 1642 0 = _
                    rw [ih3, g_act_ne (by decide) (by decide) (by decide) (by decide) (by decide)]
            rw [ne]
            exact hF
        | succ k ihk =>
          intro a hk ha hs
          conv at hs => rhs; rw [g_selU]
          rw [nI_pred]
          refine sg_Md_execute_62 ⟨fun h => absurd h (nI_pos (by omega)), fun _ => ⟨md_K H, EX.mono (c_Md_component H hF hn (by omega)) fun w N hv => ?_⟩⟩
          obtain ⟨rfl, rfl⟩ := hv
          refine ⟨_, rfl, md_K H, EX.mono (c_Md_ready H hF hn (by omega)) fun w N hv => ?_⟩
          obtain ⟨rfl, rfl⟩ := hv
          refine ⟨_, rfl, fun h x hx => ?_, fun h x hx => ?_⟩
          · subst hx
            rw [dec1]
            rw [if_neg (by rw [b01_0 h]; decide)] at hs
            exact ihk a (by omega) ha hs
          · subst hx
            rw [dec1]
            rw [if_pos (b01_1 h)] at hs
            exact ihk _ (by omega) (fun j hj hb => comp_bt (by omega) hj hb) hs
      refine ⟨rfl, md_K H, fun x hx => ?_⟩
      rw [mI_sDs1642, hF] at hx
      subst hx
      exact sel (6 * n) 0 (by omega) (fun j hj hb => by rw [b_0] at hb; cases hb) rfl
  simp (disch := omega) only [mKd_sD, mLn_sD, mR_sD, md_K H, md_R1 H, md_K1 H, md_L1 H, mI_sD1, mS_sD1, md_R2 H, md_K2 H, md_L2 H, mI_sD2, mS_sD2, md_R3 H, md_K3 H, md_L3 H, mI_sD3, mS_sD3, md_R4 H, md_K4 H, md_L4 H, mI_sD4, mS_sD4, md_R5 H, md_K5 H, md_L5 H, mI_sD5, mS_sD5, md_R6 H, md_K6 H, md_L6 H, mI_sD6, mS_sD6, md_R7 H, md_K7 H, md_L7 H, mI_sD7, mS_sD7, md_R8 H, md_K8 H, md_L8 H, mI_sD8, mS_sD8, md_R9 H, md_K9 H, md_L9 H, mI_sD9, mS_sD9, md_R10 H, md_K10 H, md_L10 H, mI_sD10, mS_sD10, md_R11 H, md_K11 H, md_L11 H, mI_sD11, mS_sD11, md_R12 H, md_K12 H, md_L12 H, mI_sD12, mS_sD12, md_R13 H, md_K13 H, md_L13 H, mI_sD13, mS_sD13, md_R14 H, md_K14 H, md_L14 H, mI_sD14, mS_sD14, md_R15 H, md_K15 H, md_L15 H, mI_sD15, mS_sD15, md_R16 H, md_K16 H, md_L16 H, mI_sD16, mS_sD16, md_R17 H, md_K17 H, md_L17 H, mI_sD17, mS_sD17, md_R18 H, md_K18 H, md_L18 H, mI_sD18, mS_sD18, md_R19 H, md_K19 H, md_L19 H, mI_sD19, mS_sD19, md_R20 H, md_K20 H, md_L20 H, mI_sD20, mS_sD20, md_R21 H, md_K21 H, md_L21 H, mI_sD21, mS_sD21, md_R22 H, md_K22 H, md_L22 H, mI_sD22, mS_sD22, md_R23 H, md_K23 H, md_L23 H, mI_sD23, mS_sD23, md_R24 H, md_K24 H, md_L24 H, mI_sD24, mS_sD24, md_R25 H, md_K25 H, md_L25 H, mI_sD25, mS_sD25, mI_sDs1640, mS_sDs1640, mI_sDs1641, mS_sDs1641, mI_sDs1642, mS_sDs1642, mI_sDs1666, mS_sDs1666, mI_sDs1667, mS_sDs1667, vi440, cl440, vi441, cl441, vi442, cl442, vi443, cl443, vi444, cl444, vi445, cl445, vi446, cl446, vi447, cl447, vi448, cl448, vi449, cl449, vi450, cl450, forall_eq, Option.some.injEq, exists_eq_left', true_and, m30, m11, m6, m4, nI_add, p1, p2, p3, p4, p5, p6, p7, p8, p9, p10, p11, p440, vin, cl, nle, nlt, neq, nI_i1, dU_ne, hN, hc]
  refine ⟨fun h => absurd h (nI_pos (by omega)), fun _ => ⟨fun h => absurd h (by omega), fun _ => ?_⟩⟩
  first
    | exact ⟨fun _ => pass 31 0 D (by omega) hI rfl, fun h => absurd trivial h⟩
    | exact ⟨fun _ => pass 31 0 D (by omega) hI rfl, fun h => absurd rfl h⟩
    | exact pass 31 0 D (by omega) hI rfl
theorem c_Md_execute_bad (H : mdl M m) (hN : D 1640 0 = nI n) (hn : n ≤ 5) {v : Int32} (hb : ¬ ∃ r, r < n ∧ v = nI r ∧ D 1 r = 0) : EX eL X_Md_execute 0 [some (.inr (some m)), some (.inl v), none, none, none, none, none, none] [] (sD M m D) (fun w N => w = some (.inl (-1)) ∧ N = sD M m D) := by
  refine sg_Md_execute_0 ?_
  simp (disch := omega) only [mKd_sD, mLn_sD, mR_sD, md_K H, md_R1 H, md_K1 H, md_L1 H, mI_sD1, mS_sD1, md_R2 H, md_K2 H, md_L2 H, mI_sD2, mS_sD2, md_R3 H, md_K3 H, md_L3 H, mI_sD3, mS_sD3, md_R4 H, md_K4 H, md_L4 H, mI_sD4, mS_sD4, md_R5 H, md_K5 H, md_L5 H, mI_sD5, mS_sD5, md_R6 H, md_K6 H, md_L6 H, mI_sD6, mS_sD6, md_R7 H, md_K7 H, md_L7 H, mI_sD7, mS_sD7, md_R8 H, md_K8 H, md_L8 H, mI_sD8, mS_sD8, md_R9 H, md_K9 H, md_L9 H, mI_sD9, mS_sD9, md_R10 H, md_K10 H, md_L10 H, mI_sD10, mS_sD10, md_R11 H, md_K11 H, md_L11 H, mI_sD11, mS_sD11, md_R12 H, md_K12 H, md_L12 H, mI_sD12, mS_sD12, md_R13 H, md_K13 H, md_L13 H, mI_sD13, mS_sD13, md_R14 H, md_K14 H, md_L14 H, mI_sD14, mS_sD14, md_R15 H, md_K15 H, md_L15 H, mI_sD15, mS_sD15, md_R16 H, md_K16 H, md_L16 H, mI_sD16, mS_sD16, md_R17 H, md_K17 H, md_L17 H, mI_sD17, mS_sD17, md_R18 H, md_K18 H, md_L18 H, mI_sD18, mS_sD18, md_R19 H, md_K19 H, md_L19 H, mI_sD19, mS_sD19, md_R20 H, md_K20 H, md_L20 H, mI_sD20, mS_sD20, md_R21 H, md_K21 H, md_L21 H, mI_sD21, mS_sD21, md_R22 H, md_K22 H, md_L22 H, mI_sD22, mS_sD22, md_R23 H, md_K23 H, md_L23 H, mI_sD23, mS_sD23, md_R24 H, md_K24 H, md_L24 H, mI_sD24, mS_sD24, md_R25 H, md_K25 H, md_L25 H, mI_sD25, mS_sD25, mI_sDs1640, mS_sDs1640, mI_sDs1641, mS_sDs1641, mI_sDs1642, mS_sDs1642, mI_sDs1666, mS_sDs1666, mI_sDs1667, mS_sDs1667, vi440, cl440, vi441, cl441, vi442, cl442, vi443, cl443, vi444, cl444, vi445, cl445, vi446, cl446, vi447, cl447, vi448, cl448, vi449, cl449, vi450, cl450, forall_eq, Option.some.injEq, exists_eq_left', true_and, m30, m11, m6, m4, nI_add, p1, p2, p3, p4, p5, p6, p7, p8, p9, p10, p11, p440, vin, cl, nle, nlt, neq, nI_i1, dU_ne, hN, and_true]
  refine ⟨fun _ => trivial, fun h1 => ⟨fun _ => trivial, fun h2 => ?_⟩⟩
  obtain ⟨r, hr, rfl⟩ := nI_of (x := v) h1
  have hrn : r < n := by rw [nle (by omega) (by omega)] at h2; omega
  simp (disch := omega) only [mKd_sD, mLn_sD, mR_sD, md_K H, md_R1 H, md_K1 H, md_L1 H, mI_sD1, mS_sD1, md_R2 H, md_K2 H, md_L2 H, mI_sD2, mS_sD2, md_R3 H, md_K3 H, md_L3 H, mI_sD3, mS_sD3, md_R4 H, md_K4 H, md_L4 H, mI_sD4, mS_sD4, md_R5 H, md_K5 H, md_L5 H, mI_sD5, mS_sD5, md_R6 H, md_K6 H, md_L6 H, mI_sD6, mS_sD6, md_R7 H, md_K7 H, md_L7 H, mI_sD7, mS_sD7, md_R8 H, md_K8 H, md_L8 H, mI_sD8, mS_sD8, md_R9 H, md_K9 H, md_L9 H, mI_sD9, mS_sD9, md_R10 H, md_K10 H, md_L10 H, mI_sD10, mS_sD10, md_R11 H, md_K11 H, md_L11 H, mI_sD11, mS_sD11, md_R12 H, md_K12 H, md_L12 H, mI_sD12, mS_sD12, md_R13 H, md_K13 H, md_L13 H, mI_sD13, mS_sD13, md_R14 H, md_K14 H, md_L14 H, mI_sD14, mS_sD14, md_R15 H, md_K15 H, md_L15 H, mI_sD15, mS_sD15, md_R16 H, md_K16 H, md_L16 H, mI_sD16, mS_sD16, md_R17 H, md_K17 H, md_L17 H, mI_sD17, mS_sD17, md_R18 H, md_K18 H, md_L18 H, mI_sD18, mS_sD18, md_R19 H, md_K19 H, md_L19 H, mI_sD19, mS_sD19, md_R20 H, md_K20 H, md_L20 H, mI_sD20, mS_sD20, md_R21 H, md_K21 H, md_L21 H, mI_sD21, mS_sD21, md_R22 H, md_K22 H, md_L22 H, mI_sD22, mS_sD22, md_R23 H, md_K23 H, md_L23 H, mI_sD23, mS_sD23, md_R24 H, md_K24 H, md_L24 H, mI_sD24, mS_sD24, md_R25 H, md_K25 H, md_L25 H, mI_sD25, mS_sD25, mI_sDs1640, mS_sDs1640, mI_sDs1641, mS_sDs1641, mI_sDs1642, mS_sDs1642, mI_sDs1666, mS_sDs1666, mI_sDs1667, mS_sDs1667, vi440, cl440, vi441, cl441, vi442, cl442, vi443, cl443, vi444, cl444, vi445, cl445, vi446, cl446, vi447, cl447, vi448, cl448, vi449, cl449, vi450, cl450, forall_eq, Option.some.injEq, exists_eq_left', true_and, m30, m11, m6, m4, nI_add, p1, p2, p3, p4, p5, p6, p7, p8, p9, p10, p11, p440, vin, cl, nle, nlt, neq, nI_i1, dU_ne]
  exact ⟨fun h5 => absurd ⟨r, hrn, rfl, h5⟩ hb, fun _ => trivial⟩
end MC13
